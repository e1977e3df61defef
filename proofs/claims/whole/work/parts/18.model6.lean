set_option maxHeartbeats 4000000 in
set_option maxRecDepth 100000 in
theorem c_plan (l : Launch) (D : va_G) (cy : Nat → ClassId) (q : Nat → Nat) (N : Nat → Nat) (R X : Nat → Nat → Int32) (w hn : Int32) (hW : WFm N R) : MS (α := SR × (Nat → Nat → Int32)) l D cy yX12_plan cX12_plan 8 (Option.some FieldType.int) rm_X12_plan [.ref (q 33), .int w, .int hn] (wM cy q N R X) (fun v_ u_ => v_ = some (.int (sp_plan N R w hn).1) ∧ u_.1 = (sp_plan N R w hn).2) (fun u_ => wM cy q u_.1.1 u_.1.2 u_.2) := by
  refine MS.mk2 (by decide) (Nat.le_of_ble_eq_true rfl) [(0, .ref (q 33)), (1, .int w), (2, .int hn)] rfl ?_
  intro p e s m args below meth c A ls Q hQ S hr hlk hnm hK hA I hl
  have hW0 := hW
  obtain ⟨hB, hPt, hBo, hH, hM, hQu⟩ := hW0
  have hB0 := hB
  obtain ⟨b0, b6, b17, b24, b30⟩ := hB0
  have hp2 := pow_256 b17
  have hp1 := Nat.two_pow_pos (N 17)
  refine lv_iload_n S.1 S.2.1 dX12_plan_0 rfl (lv_at hl 1 rfl) ?_
  refine lv_iconst (v := nI 1) S.1 S.2.1 dX12_plan_1 (by decide) ?_
  refine lv_bipush (v := nI 6) S.1 S.2.1 dX12_plan_2 (by decide) ?_
  refine cS (np := 3) (As := [.int w, .int (nI 1), .int (nI 6)]) (rest := []) S (c_in l D cy (wM cy q N R X) w (nI 1) (nI 6)) hK hA I wm_X12_99 wt_X12_in wn_X12 wk_X12_in ⟨rfl, hd_X12_in⟩ rfl ⟨by decide, by decide⟩ hl.1 rfl (Nat.le_of_ble_eq_true rfl) dX12_plan_4 ⟨by decide, by decide⟩ (fun v_ u_ H locs h_ I => ?_)
  obtain rfl := h_
  have I : IX D A s.heap (wM cy q N R X) H locs := I
  refine W.eq (g2 := F0 m 7 ls [.int (bI (inB w (nI 1) (nI 6)))]) rfl ?_
  refine lv_if_eq (tgt := 20) S.1 S.2.1 dX12_plan_7 (by decide) (fun c_7 => ?_) (fun c_7 => ?_)
  · skip
    have c_7 := bI_f c_7
    refine lv_iconst (v := (-1)) S.1 S.2.1 dX12_plan_20 (by decide) ?_
    exact ru_i hQ S hr hlk (u := ((N, R), X)) I (by simp [sp_plan, c_7]) dX12_plan_21
  · skip
    have c_7 := bI_t c_7
    obtain ⟨ws, hws1, hws2, rfl⟩ := in16 c_7
    have e_ws : (nI ws).toNatClampNeg = ws := nI_clamp (by omega)
    refine lv_iload_n S.1 S.2.1 dX12_plan_10 rfl (lv_at hl 2 rfl) ?_
    refine lv_iconst (v := nI 0) S.1 S.2.1 dX12_plan_11 (by decide) ?_
    refine lv_bipush (v := nI 99) S.1 S.2.1 dX12_plan_12 (by decide) ?_
    refine cS (np := 3) (As := [.int hn, .int (nI 0), .int (nI 99)]) (rest := []) S (c_in l D cy (wM cy q N R X) hn (nI 0) (nI 99)) hK hA I wm_X12_99 wt_X12_in wn_X12 wk_X12_in ⟨rfl, hd_X12_in⟩ rfl ⟨by decide, by decide⟩ hl.1 rfl (Nat.le_of_ble_eq_true rfl) dX12_plan_14 ⟨by decide, by decide⟩ (fun v_ u_ H locs h_ I => ?_)
    obtain rfl := h_
    have I : IX D A s.heap (wM cy q N R X) H locs := I
    refine W.eq (g2 := F0 m 17 ls [.int (bI (inB hn (nI 0) (nI 99)))]) rfl ?_
    refine lv_if_ne (tgt := 22) S.1 S.2.1 dX12_plan_17 (by decide) (fun c_17 => ?_) (fun c_17 => ?_)
    · skip
      have c_17 := bI_t c_17
      refine lv_iconst (v := nI 1) S.1 S.2.1 dX12_plan_22 (by decide) ?_
      refine lv_aload_n S.1 S.2.1 dX12_plan_23 rfl (lv_at hl 0 rfl) ?_
      refine rg (ci := 12) (q0 := 0) (v := .int (nI (N 17))) 17 S hK I cl_X12 rfl wf_X12_123 (by decide) rfl rfl rfl dX12_plan_24 ?_
      refine lv_ishl S.1 S.2.1 dX12_plan_27 ?_
      refine tI (y := nI (2 ^ (N 17))) (bitS (by omega)) ?_
      refine lv_iconst (v := nI 1) S.1 S.2.1 dX12_plan_28 (by decide) ?_
      refine lv_isub S.1 S.2.1 dX12_plan_29 ?_
      refine tI (y := nI (2 ^ N 17 - 1)) (pk_sub (Nat.two_pow_pos _)) ?_
      refine lv_istore_n (lv' := [(3, .int (nI (2 ^ N 17 - 1))), (0, .ref (q 33)), (1, .int (nI ws)), (2, .int hn)]) S.1 S.2.1 dX12_plan_30 rfl hl (by decide) rfl (fun ls hl => ?_)
      refine lv_iconst (v := nI 0) S.1 S.2.1 dX12_plan_31 (by decide) ?_
      refine lv_istore (lv' := [(4, .int (nI 0)), (3, .int (nI (2 ^ N 17 - 1))), (0, .ref (q 33)), (1, .int (nI ws)), (2, .int hn)]) S.1 S.2.1 dX12_plan_32 hl (by decide) rfl (fun ls hl => ?_)
      have loop_34 : ∀ (k_ : Nat) (d : Nat) (r26 : Nat → Int32) (r27 : Nat → Int32) (z13 : Nat → Int32) (z14 : Nat → Int32) (z15 : Nat → Int32) (z16 : Nat → Int32), 2 ^ N 17 - d < k_ → d ≤ 2 ^ N 17 → (∀ z, z < d → r26 z = nI (rk N R z) ∧ r27 z = bI (soB N R z)) → ∀ (H : Heap) (locs : List Loc) (ls : Array Slot), IX D A s.heap (wM cy q N R (va_up (va_up (va_up (va_up (va_up (va_up X 13 z13) 14 z14) 15 z15) 16 z16) 26 r26) 27 r27)) H locs → lv_has ls 8 [(0, .ref (q 33)), (1, .int (nI ws)), (2, .int hn), (3, .int (nI (2 ^ N 17 - 1))), (4, .int (nI d))] → W p l e rm_X12_plan s m args below meth c H locs 0 0 Q (F0 m 34 ls []) := by
        intro k_
        induction k_ with
        | zero => intro d r26 r27 z13 z14 z15 z16 hm_; exact absurd hm_ (Nat.not_lt_zero _)
        | succ k_ ih_34 =>
          intro d r26 r27 z13 z14 z15 z16 hm_ hd hrs H locs ls I hl
          refine lv_iload S.1 S.2.1 dX12_plan_34 (lv_at hl 4 rfl) ?_
          refine lv_iload_n S.1 S.2.1 dX12_plan_36 rfl (lv_at hl 3 rfl) ?_
          refine lv_icmp_gt (tgt := 72) S.1 S.2.1 dX12_plan_37 (by decide) (fun c_37 => ?_) (fun c_37 => ?_)
          · skip
            have c_37o := c_37
            have c_37 := nI_cgtT (by omega) (by omega) c_37
            refine lv_aload_n S.1 S.2.1 dX12_plan_72 rfl (lv_at hl 0 rfl) ?_
            refine rg (ci := 12) (q0 := 0) (v := .ref (q 27)) 27 S hK I cl_X12 rfl wf_X12_80 (by decide) rfl rfl rfl dX12_plan_73 ?_
            refine lv_iconst (v := nI 0) S.1 S.2.1 dX12_plan_76 (by decide) ?_
            refine rz (q0 := 24) (n := 256) (f := r27) 0 S hK I rfl rfl (by omega) (by decide) dX12_plan_77 ?_
            refine tI (y := bI (soB N R 0)) ((hrs 0 (by omega)).2) ?_
            refine lv_if_ne (tgt := 84) S.1 S.2.1 dX12_plan_78 (by decide) (fun c_78 => ?_) (fun c_78 => ?_)
            · skip
              have c_78 := bI_t c_78
              refine lv_iload_n S.1 S.2.1 dX12_plan_84 rfl (lv_at hl 1 rfl) ?_
              refine lv_iconst (v := nI 1) S.1 S.2.1 dX12_plan_85 (by decide) ?_
              refine lv_isub S.1 S.2.1 dX12_plan_86 ?_
              refine lv_istore (lv' := [(4, .int ((nI ws) - (nI 1))), (0, .ref (q 33)), (1, .int (nI ws)), (2, .int hn), (3, .int (nI (2 ^ N 17 - 1)))]) S.1 S.2.1 dX12_plan_87 hl (by decide) rfl (fun ls hl => ?_)
              have loop_89 : ∀ (k_ : Nat) (r : Nat) (r28 : Nat → Int32) (r29 : Nat → Int32), ws - r < k_ → r ≤ ws → (∀ j, 1 ≤ j → j ≤ r → ∀ z, z < 2 ^ N 17 → r28 (256 * (ws - j) + z) = (lsF N R ws hn j z).1 ∧ (¬ (lsF N R ws hn j z).1 < 0 → r29 (256 * (ws - j) + z) = nI (lsF N R ws hn j z).2)) → ∀ (H : Heap) (locs : List Loc) (ls : Array Slot), IX D A s.heap (wM cy q N R (va_up (va_up (va_up (va_up (va_up (va_up (va_up (va_up X 13 z13) 14 z14) 15 z15) 16 z16) 26 r26) 27 r27) 28 r28) 29 r29)) H locs → lv_has ls 8 [(0, .ref (q 33)), (1, .int (nI ws)), (2, .int hn), (3, .int (nI (2 ^ N 17 - 1))), (4, .int (nI ws - nI (r + 1)))] → W p l e rm_X12_plan s m args below meth c H locs 0 0 Q (F0 m 89 ls []) := by
                intro k_
                induction k_ with
                | zero => intro r r28 r29 hm_; exact absurd hm_ (Nat.not_lt_zero _)
                | succ k_ ih_89 =>
                  intro r r28 r29 hm_ hr2 hls H locs ls I hl
                  refine lv_iload S.1 S.2.1 dX12_plan_89 (lv_at hl 4 rfl) ?_
                  refine lv_if_lt (tgt := 109) S.1 S.2.1 dX12_plan_91 (by decide) (fun c_91 => ?_) (fun c_91 => ?_)
                  · skip
                    have hr4 : r = ws := by have := sub_neg (by omega) (by omega) c_91; omega
                    refine lv_iconst (v := nI 0) S.1 S.2.1 dX12_plan_109 (by decide) ?_
                    refine lv_istore (lv' := [(4, .int (nI 0)), (0, .ref (q 33)), (1, .int (nI ws)), (2, .int hn), (3, .int (nI (2 ^ N 17 - 1)))]) S.1 S.2.1 dX12_plan_110 hl (by decide) rfl (fun ls hl => ?_)
                    have loop_112 : ∀ (k_ : Nat) (i : Nat) (g31 : Nat → Int32) (g32 : Nat → Int32), 8 - i < k_ → i ≤ 8 → (∀ k, g31 k = if k < i then -4 else R 31 k) → (∀ k, g32 k = if k < i then R 31 k else R 32 k) → ∀ (H : Heap) (locs : List Loc) (ls : Array Slot), IX D A s.heap (wM cy q N (va_up (va_up R 31 g31) 32 g32) (va_up (va_up (va_up (va_up (va_up (va_up (va_up (va_up X 13 z13) 14 z14) 15 z15) 16 z16) 26 r26) 27 r27) 28 r28) 29 r29)) H locs → lv_has ls 8 [(0, .ref (q 33)), (1, .int (nI ws)), (2, .int hn), (3, .int (nI (2 ^ N 17 - 1))), (4, .int (nI i))] → W p l e rm_X12_plan s m args below meth c H locs 0 0 Q (F0 m 112 ls []) := by
                      intro k_
                      induction k_ with
                      | zero => intro i g31 g32 hm_; exact absurd hm_ (Nat.not_lt_zero _)
                      | succ k_ ih_112 =>
                        intro i g31 g32 hm_ hi h31 h32 H locs ls I hl
                        refine lv_iload S.1 S.2.1 dX12_plan_112 (lv_at hl 4 rfl) ?_
                        refine lv_bipush (v := nI 8) S.1 S.2.1 dX12_plan_114 (by decide) ?_
                        refine lv_icmp_ge (tgt := 148) S.1 S.2.1 dX12_plan_116 (by decide) (fun c_116 => ?_) (fun c_116 => ?_)
                        · skip
                          have c_116o := c_116
                          have c_116 := nI_cgeT (by omega) (by omega) c_116
                          refine lv_aload_n S.1 S.2.1 dX12_plan_148 rfl (lv_at hl 0 rfl) ?_
                          refine lv_dup S.1 S.2.1 dX12_plan_149 rfl ?_
                          refine rg (ci := 12) (q0 := 0) (v := .int (nI (N 30))) 30 S hK I cl_X12 rfl wf_X12_176 (by decide) rfl rfl rfl dX12_plan_150 ?_
                          refine lv_iconst (v := nI 1) S.1 S.2.1 dX12_plan_153 (by decide) ?_
                          refine lv_iadd S.1 S.2.1 dX12_plan_154 ?_
                          refine tI (y := nI ((N 30) + 1)) (nI_add _ _) ?_
                          refine rp (ci := 12) (q0 := 0) (v := .int (nI ((N 30) + 1))) (ty := .int) 30 S hK I cl_X12 rfl wf_X12_176 (by decide) rfl tyX12_ok nmX12 rfl (by decide +kernel) rfl rfl (by exact Nat.le_of_ble_eq_true rfl) rfl dX12_plan_155 (fun H locs I => ?_)
                          have I : IX D A s.heap (wM cy q (va_up N 30 ((N 30) + 1)) (va_up (va_up R 31 g31) 32 g32) (va_up (va_up (va_up (va_up (va_up (va_up (va_up (va_up X 13 z13) 14 z14) 15 z15) 16 z16) 26 r26) 27 r27) 28 r28) 29 r29)) H locs := I
                          refine lv_iconst (v := nI 0) S.1 S.2.1 dX12_plan_158 (by decide) ?_
                          refine lv_istore (lv' := [(4, .int (nI 0)), (0, .ref (q 33)), (1, .int (nI ws)), (2, .int hn), (3, .int (nI (2 ^ N 17 - 1)))]) S.1 S.2.1 dX12_plan_159 hl (by decide) rfl (fun ls hl => ?_)
                          refine lv_iconst (v := nI 0) S.1 S.2.1 dX12_plan_161 (by decide) ?_
                          refine lv_istore (lv' := [(5, .int (nI 0)), (4, .int (nI 0)), (0, .ref (q 33)), (1, .int (nI ws)), (2, .int hn), (3, .int (nI (2 ^ N 17 - 1)))]) S.1 S.2.1 dX12_plan_162 hl (by decide) rfl (fun ls hl => ?_)
                          have loop_164 : ∀ (k_ : Nat) (w2 : Nat) (dn : Nat) (g2 : Nat → Int32), ws - w2 < k_ → w2 ≤ ws → dn = dnF N R ws hn w2 → (∀ k, g2 k = if k < N 17 then wnF N R ws hn w2 k else if k < 8 then -4 else R 31 k) → ∀ (H : Heap) (locs : List Loc) (ls : Array Slot), IX D A s.heap (wM cy q (va_up N 30 ((N 30) + 1)) (va_up (va_up R 31 g2) 32 g32) (va_up (va_up (va_up (va_up (va_up (va_up (va_up (va_up X 13 z13) 14 z14) 15 z15) 16 z16) 26 r26) 27 r27) 28 r28) 29 r29)) H locs → lv_has ls 8 [(0, .ref (q 33)), (1, .int (nI ws)), (2, .int hn), (4, .int (nI dn)), (5, .int (nI w2))] → W p l e rm_X12_plan s m args below meth c H locs 0 0 Q (F0 m 164 ls []) := by
                            intro k_
                            induction k_ with
                            | zero => intro w2 dn g2 hm_; exact absurd hm_ (Nat.not_lt_zero _)
                            | succ k_ ih_164 =>
                              intro w2 dn g2 hm_ hw2 hdn hg2 H locs ls I hl
                              refine lv_iload S.1 S.2.1 dX12_plan_164 (lv_at hl 4 rfl) ?_
                              refine lv_iload_n S.1 S.2.1 dX12_plan_166 rfl (lv_at hl 1 rfl) ?_
                              refine lv_icmp_ge (tgt := 247) S.1 S.2.1 dX12_plan_167 (by decide) (fun c_167 => ?_) (fun c_167 => ?_)
                              · skip
                                have c_167o := c_167
                                have c_167 := nI_cgeT (by omega) (by omega) c_167
                                have e31 : g2 = (fun k => if k < N 17 then wnF N R ws hn ws k else if k < 8 then -4 else R 31 k) := funext (fun k => by rw [hg2 k, show w2 = ws by omega])
                                have e32 : g32 = (fun k => if k < 8 then R 31 k else R 32 k) := funext (fun k => by rw [h32 k, show i = 8 by omega])
                                rw [e31, e32] at I
                                have I : IX D A s.heap (wM cy q (va_up N 30 ((N 30) + 1)) (plR N R ws hn) (va_up (va_up (va_up (va_up (va_up (va_up (va_up (va_up X 13 z13) 14 z14) 15 z15) 16 z16) 26 r26) 27 r27) 28 r28) 29 r29)) _ _ := I
                                refine lv_aload_n S.1 S.2.1 dX12_plan_247 rfl (lv_at hl 0 rfl) ?_
                                refine rg (ci := 12) (q0 := 0) (v := .ref (q 28)) 28 S hK I cl_X12 rfl wf_X12_83 (by decide) rfl rfl rfl dX12_plan_248 ?_
                                refine lv_iconst (v := nI 0) S.1 S.2.1 dX12_plan_251 (by decide) ?_
                                refine ri (q0 := 25) (n := 1792) (f := r28) 0 S hK I rfl rfl (by omega) (by decide) dX12_plan_252 ?_
                                refine tI (y := (lsF N R ws hn ws 0).1) (pl_0 hws1 (by omega) hls) ?_
                                exact ru_i hQ S hr hlk (u := ((va_up N 30 (N 30 + 1), plR N R ws hn), (va_up (va_up (va_up (va_up (va_up (va_up (va_up (va_up X 13 z13) 14 z14) 15 z15) 16 z16) 26 r26) 27 r27) 28 r28) 29 r29))) I (by rw [sp_plan, if_pos ⟨c_7, c_17⟩, if_pos c_78, e_ws]; exact ⟨rfl, rfl⟩) dX12_plan_253
                              · skip
                                have c_167o := c_167
                                have c_167 := nI_cgeF (by omega) (by omega) c_167
                                have hdk := dn_ok (ws := ws) hPt hB c_17 (by omega) c_78 w2
                                rw [← hdn] at hdk
                                have hlk := ls_ok (ws := ws) hPt hB c_17 (ws - w2) (by omega) dn hdk.1 hdk.2
                                refine lv_aload_n S.1 S.2.1 dX12_plan_170 rfl (lv_at hl 0 rfl) ?_
                                refine rg (ci := 12) (q0 := 0) (v := .ref (q 29)) 29 S hK I cl_X12 rfl wf_X12_86 (by decide) rfl rfl rfl dX12_plan_171 ?_
                                refine lv_sipush (v := nI 256) S.1 S.2.1 dX12_plan_174 (by decide) ?_
                                refine lv_iload S.1 S.2.1 dX12_plan_177 (lv_at hl 4 rfl) ?_
                                refine lv_imul S.1 S.2.1 dX12_plan_179 ?_
                                refine tI (y := nI (256 * w2)) (pk_mul _ _) ?_
                                refine lv_iload S.1 S.2.1 dX12_plan_180 (lv_at hl 3 rfl) ?_
                                refine lv_iadd S.1 S.2.1 dX12_plan_182 ?_
                                refine tI (y := nI ((256 * w2) + dn)) (nI_add _ _) ?_
                                refine ri (q0 := 26) (n := 1792) (f := r29) ((256 * w2) + dn) S hK I rfl rfl (by omega) (by decide) dX12_plan_183 ?_
                                refine tI (y := nI ((lsF N R ws hn (ws - w2) dn).2)) (pl_ch (by omega) (show w2 < ws by omega) hls hdk.1 (nneg hlk.1.1)) ?_
                                refine lv_istore (lv' := [(6, .int (nI ((lsF N R ws hn (ws - w2) dn).2))), (0, .ref (q 33)), (1, .int (nI ws)), (2, .int hn), (4, .int (nI dn)), (5, .int (nI w2))]) S.1 S.2.1 dX12_plan_184 hl (by decide) rfl (fun ls hl => ?_)
                                refine lv_iconst (v := nI 0) S.1 S.2.1 dX12_plan_186 (by decide) ?_
                                refine lv_istore (lv' := [(7, .int (nI 0)), (6, .int (nI ((lsF N R ws hn (ws - w2) dn).2))), (0, .ref (q 33)), (1, .int (nI ws)), (2, .int hn), (4, .int (nI dn)), (5, .int (nI w2))]) S.1 S.2.1 dX12_plan_187 hl (by decide) rfl (fun ls hl => ?_)
                                have loop_189 : ∀ (k_ : Nat) (m2 : Nat) (g3 : Nat → Int32), N 17 - m2 < k_ → m2 ≤ N 17 → (∀ k, g3 k = if k < m2 then wnF N R ws hn (w2 + 1) k else g2 k) → ∀ (H : Heap) (locs : List Loc) (ls : Array Slot), IX D A s.heap (wM cy q (va_up N 30 ((N 30) + 1)) (va_up (va_up R 31 g3) 32 g32) (va_up (va_up (va_up (va_up (va_up (va_up (va_up (va_up X 13 z13) 14 z14) 15 z15) 16 z16) 26 r26) 27 r27) 28 r28) 29 r29)) H locs → lv_has ls 8 [(0, .ref (q 33)), (1, .int (nI ws)), (2, .int hn), (4, .int (nI dn)), (5, .int (nI w2)), (6, .int (nI ((lsF N R ws hn (ws - w2) dn).2))), (7, .int (nI m2))] → W p l e rm_X12_plan s m args below meth c H locs 0 0 Q (F0 m 189 ls []) := by
                                  intro k_
                                  induction k_ with
                                  | zero => intro m2 g3 hm_; exact absurd hm_ (Nat.not_lt_zero _)
                                  | succ k_ ih_189 =>
                                    intro m2 g3 hm_ hm2 hg3 H locs ls I hl
                                    refine lv_iload S.1 S.2.1 dX12_plan_189 (lv_at hl 6 rfl) ?_
                                    refine lv_aload_n S.1 S.2.1 dX12_plan_191 rfl (lv_at hl 0 rfl) ?_
                                    refine rg (ci := 12) (q0 := 0) (v := .int (nI (N 17))) 17 S hK I cl_X12 rfl wf_X12_123 (by decide) rfl rfl rfl dX12_plan_192 ?_
                                    refine lv_icmp_ge (tgt := 234) S.1 S.2.1 dX12_plan_195 (by decide) (fun c_195 => ?_) (fun c_195 => ?_)
                                    · skip
                                      have c_195o := c_195
                                      have c_195 := nI_cgeT (by omega) (by omega) c_195
                                      refine lv_iload S.1 S.2.1 dX12_plan_234 (lv_at hl 3 rfl) ?_
                                      refine lv_iload S.1 S.2.1 dX12_plan_236 (lv_at hl 5 rfl) ?_
                                      refine lv_ior S.1 S.2.1 dX12_plan_238 ?_
                                      refine tI (y := nI (dn ||| ((lsF N R ws hn (ws - w2) dn).2))) (fa_or _ _) ?_
                                      refine lv_istore (lv' := [(4, .int (nI (dn ||| ((lsF N R ws hn (ws - w2) dn).2)))), (0, .ref (q 33)), (1, .int (nI ws)), (2, .int hn), (5, .int (nI w2)), (6, .int (nI ((lsF N R ws hn (ws - w2) dn).2))), (7, .int (nI m2))]) S.1 S.2.1 dX12_plan_239 hl (by decide) rfl (fun ls hl => ?_)
                                      refine lv_iinc (v := nI (w2 + 1)) (lv' := [(5, .int (nI (w2 + 1))), (4, .int (nI (dn ||| ((lsF N R ws hn (ws - w2) dn).2)))), (0, .ref (q 33)), (1, .int (nI ws)), (2, .int hn), (6, .int (nI ((lsF N R ws hn (ws - w2) dn).2))), (7, .int (nI m2))]) S.1 S.2.1 dX12_plan_241 hl (k := 4) rfl (nI_1 _) (by decide) rfl (fun ls hl => ?_)
                                      refine lv_goto (tgt := 164) S.1 S.2.1 dX12_plan_244 (by decide) ?_
                                      exact ih_164 (w2 + 1) (dn ||| ((lsF N R ws hn (ws - w2) dn).2)) g3 (by omega) (by omega) (by rw [dnF, ← hdn]) (pl_wk (by omega) hg2 hg3) _ _ _ I (lv_sub hl [2, 3, 4, 1, 0] rfl)
                                    · skip
                                      have c_195o := c_195
                                      have c_195 := nI_cgeF (by omega) (by omega) c_195
                                      refine lv_aload_n S.1 S.2.1 dX12_plan_198 rfl (lv_at hl 0 rfl) ?_
                                      refine rg (ci := 12) (q0 := 0) (v := .ref (q 31)) 31 S hK I cl_X12 rfl wf_X12_89 (by decide) rfl rfl rfl dX12_plan_199 ?_
                                      refine lv_iload S.1 S.2.1 dX12_plan_202 (lv_at hl 6 rfl) ?_
                                      refine lv_iload S.1 S.2.1 dX12_plan_204 (lv_at hl 5 rfl) ?_
                                      refine lv_iload S.1 S.2.1 dX12_plan_206 (lv_at hl 6 rfl) ?_
                                      refine lv_ishr S.1 S.2.1 dX12_plan_208 ?_
                                      refine lv_iconst (v := nI 1) S.1 S.2.1 dX12_plan_209 (by decide) ?_
                                      refine lv_iand S.1 S.2.1 dX12_plan_210 ?_
                                      refine tI (y := bI ((lsF N R ws hn (ws - w2) dn).2.testBit m2)) (bitD (by have := hlk.2.1; omega) (by omega)) ?_
                                      refine lv_iconst (v := nI 1) S.1 S.2.1 dX12_plan_211 (by decide) ?_
                                      have join_227 : ∀ (_ : Unit), ∀ (H : Heap) (locs : List Loc) (ls : Array Slot), IX D A s.heap (wM cy q (va_up N 30 ((N 30) + 1)) (va_up (va_up R 31 g3) 32 g32) (va_up (va_up (va_up (va_up (va_up (va_up (va_up (va_up X 13 z13) 14 z14) 15 z15) 16 z16) 26 r26) 27 r27) 28 r28) 29 r29)) H locs → lv_has ls 8 [(0, .ref (q 33)), (1, .int (nI ws)), (2, .int hn), (4, .int (nI dn)), (5, .int (nI w2)), (6, .int (nI ((lsF N R ws hn (ws - w2) dn).2))), (7, .int (nI m2))] → W p l e rm_X12_plan s m args below meth c H locs 0 0 Q (F0 m 227 ls [.int (if (lsF N R ws hn (ws - w2) dn).2.testBit m2 = true then nI w2 else g3 m2), .int (nI m2), .ref (q 31)]) := by
                                        intro _  H locs ls I hl
                                        refine si (q0 := 27) (n := 8) (f := g3) m2 S hK I rfl rfl (by omega) (by decide) dX12_plan_227 (fun H locs I => ?_)
                                        have I : IX D A s.heap (wM cy q (va_up N 30 ((N 30) + 1)) (va_up (va_up R 31 (upd g3 m2 (if (lsF N R ws hn (ws - w2) dn).2.testBit m2 = true then nI w2 else g3 m2))) 32 g32) (va_up (va_up (va_up (va_up (va_up (va_up (va_up (va_up X 13 z13) 14 z14) 15 z15) 16 z16) 26 r26) 27 r27) 28 r28) 29 r29)) H locs := I
                                        refine lv_iinc (v := nI (m2 + 1)) (lv' := [(7, .int (nI (m2 + 1))), (0, .ref (q 33)), (1, .int (nI ws)), (2, .int hn), (4, .int (nI dn)), (5, .int (nI w2)), (6, .int (nI ((lsF N R ws hn (ws - w2) dn).2)))]) S.1 S.2.1 dX12_plan_228 hl (k := 6) rfl (nI_1 _) (by decide) rfl (fun ls hl => ?_)
                                        refine lv_goto (tgt := 189) S.1 S.2.1 dX12_plan_231 (by decide) ?_
                                        exact ih_189 (m2 + 1) (upd g3 m2 (if (lsF N R ws hn (ws - w2) dn).2.testBit m2 = true then nI w2 else g3 m2)) (by omega) (by omega) (pl_in hg2 hg3 (by omega) (by rw [hdn])) _ _ _ I (lv_sub hl [1, 2, 3, 4, 5, 6, 0] rfl)
                                      refine lv_icmp_ne (tgt := 220) S.1 S.2.1 dX12_plan_212 (by decide) (fun c_212 => ?_) (fun c_212 => ?_)
                                      · skip
                                        have c_212 := bI_eq1F c_212
                                        refine lv_aload_n S.1 S.2.1 dX12_plan_220 rfl (lv_at hl 0 rfl) ?_
                                        refine rg (ci := 12) (q0 := 0) (v := .ref (q 31)) 31 S hK I cl_X12 rfl wf_X12_89 (by decide) rfl rfl rfl dX12_plan_221 ?_
                                        refine lv_iload S.1 S.2.1 dX12_plan_224 (lv_at hl 6 rfl) ?_
                                        refine ri (q0 := 27) (n := 8) (f := g3) m2 S hK I rfl rfl (by omega) (by decide) dX12_plan_226 ?_
                                        refine tI (y := if (lsF N R ws hn (ws - w2) dn).2.testBit m2 = true then nI w2 else g3 m2) (by rw [c_212]; rfl) ?_
                                        exact join_227 ()  _ _ _ I (lv_sub hl [0, 1, 2, 3, 4, 5, 6] rfl)
                                      · skip
                                        have c_212 := bI_eq1T c_212
                                        refine lv_iload S.1 S.2.1 dX12_plan_215 (lv_at hl 4 rfl) ?_
                                        refine lv_goto (tgt := 227) S.1 S.2.1 dX12_plan_217 (by decide) ?_
                                        refine tI (y := if (lsF N R ws hn (ws - w2) dn).2.testBit m2 = true then nI w2 else g3 m2) (by rw [c_212]; rfl) ?_
                                        exact join_227 ()  _ _ _ I (lv_sub hl [0, 1, 2, 3, 4, 5, 6] rfl)
                                exact loop_189 _ 0 g2 (Nat.lt_succ_self _) (Nat.zero_le _) (fun k => by rw [if_neg (Nat.not_lt_zero k)]) _ _ _ I (lv_sub hl [2, 3, 4, 5, 6, 1, 0] rfl)
                          exact loop_164 _ 0 0 g31 (Nat.lt_succ_self _) (Nat.zero_le _) rfl (fun k => by rw [h31 k, show i = 8 by omega]; exact pl_w0 b17) _ _ _ I (lv_sub hl [2, 3, 4, 1, 0] rfl)
                        · skip
                          have c_116o := c_116
                          have c_116 := nI_cgeF (by omega) (by omega) c_116
                          refine lv_aload_n S.1 S.2.1 dX12_plan_119 rfl (lv_at hl 0 rfl) ?_
                          refine rg (ci := 12) (q0 := 0) (v := .ref (q 32)) 32 S hK I cl_X12 rfl wf_X12_92 (by decide) rfl rfl rfl dX12_plan_120 ?_
                          refine lv_iload S.1 S.2.1 dX12_plan_123 (lv_at hl 4 rfl) ?_
                          refine lv_aload_n S.1 S.2.1 dX12_plan_125 rfl (lv_at hl 0 rfl) ?_
                          refine rg (ci := 12) (q0 := 0) (v := .ref (q 31)) 31 S hK I cl_X12 rfl wf_X12_89 (by decide) rfl rfl rfl dX12_plan_126 ?_
                          refine lv_iload S.1 S.2.1 dX12_plan_129 (lv_at hl 4 rfl) ?_
                          refine ri (q0 := 27) (n := 8) (f := g31) i S hK I rfl rfl (by omega) (by decide) dX12_plan_131 ?_
                          refine si (q0 := 28) (n := 8) (f := g32) i S hK I rfl rfl (by omega) (by decide) dX12_plan_132 (fun H locs I => ?_)
                          have I : IX D A s.heap (wM cy q N (va_up (va_up R 31 g31) 32 (upd g32 i (g31 i))) (va_up (va_up (va_up (va_up (va_up (va_up (va_up (va_up X 13 z13) 14 z14) 15 z15) 16 z16) 26 r26) 27 r27) 28 r28) 29 r29)) H locs := I
                          refine lv_aload_n S.1 S.2.1 dX12_plan_133 rfl (lv_at hl 0 rfl) ?_
                          refine rg (ci := 12) (q0 := 0) (v := .ref (q 31)) 31 S hK I cl_X12 rfl wf_X12_89 (by decide) rfl rfl rfl dX12_plan_134 ?_
                          refine lv_iload S.1 S.2.1 dX12_plan_137 (lv_at hl 4 rfl) ?_
                          refine lv_bipush (v := (-4)) S.1 S.2.1 dX12_plan_139 (by decide) ?_
                          refine si (q0 := 27) (n := 8) (f := g31) i S hK I rfl rfl (by omega) (by decide) dX12_plan_141 (fun H locs I => ?_)
                          have I : IX D A s.heap (wM cy q N (va_up (va_up R 31 (upd g31 i (-4))) 32 (upd g32 i (g31 i))) (va_up (va_up (va_up (va_up (va_up (va_up (va_up (va_up X 13 z13) 14 z14) 15 z15) 16 z16) 26 r26) 27 r27) 28 r28) 29 r29)) H locs := I
                          refine lv_iinc (v := nI (i + 1)) (lv' := [(4, .int (nI (i + 1))), (0, .ref (q 33)), (1, .int (nI ws)), (2, .int hn), (3, .int (nI (2 ^ N 17 - 1)))]) S.1 S.2.1 dX12_plan_142 hl (k := 4) rfl (nI_1 _) (by decide) rfl (fun ls hl => ?_)
                          refine lv_goto (tgt := 112) S.1 S.2.1 dX12_plan_145 (by decide) ?_
                          exact ih_112 (i + 1) (upd g31 i (-4)) (upd g32 i (g31 i)) (by omega) (by omega) (pl_31 h31) (pl_32 h31 h32) _ _ _ I (lv_sub hl [1, 2, 3, 4, 0] rfl)
                    exact loop_112 _ 0 (R 31) (R 32) (Nat.lt_succ_self _) (Nat.zero_le _) (fun k => by rw [if_neg (Nat.not_lt_zero k)]) (fun k => by rw [if_neg (Nat.not_lt_zero k)]) _ _ _ I (lv_sub hl [1, 2, 3, 4, 0] rfl)
                  · skip
                    have hr3 : r + 1 ≤ ws := sub_nneg (by omega) (by omega) c_91
                    refine lv_aload_n S.1 S.2.1 dX12_plan_94 rfl (lv_at hl 0 rfl) ?_
                    refine lv_iload S.1 S.2.1 dX12_plan_95 (lv_at hl 4 rfl) ?_
                    refine tI (y := nI (ws - (r + 1))) (pk_sub (by omega)) ?_
                    refine lv_iload_n S.1 S.2.1 dX12_plan_97 rfl (lv_at hl 1 rfl) ?_
                    refine lv_iload_n S.1 S.2.1 dX12_plan_98 rfl (lv_at hl 2 rfl) ?_
                    refine lv_iload_n S.1 S.2.1 dX12_plan_99 rfl (lv_at hl 3 rfl) ?_
                    refine cV (np := 4) (ci := 12) (q0 := 0) (As := [.int (nI (ws - (r + 1))), .int (nI ws), .int hn, .int (nI (2 ^ N 17 - 1))]) (rest := []) S (c_planFrom l D cy q N R (va_up (va_up (va_up (va_up (va_up (va_up (va_up (va_up X 13 z13) 14 z14) 15 z15) 16 z16) 26 r26) 27 r27) 28 r28) 29 r29) (ws - (r + 1)) ws hn (fun z => (lsF N R ws hn r z).1) hW (by omega) hws2 (fun z hz => (hrs z (by omega)).1) (fun z hz => (hrs z (by omega)).2) (pl_rest hr3 hrs (by omega) hls)) hK hA I wm_X12_172 wi_X12_planFrom ws_X12_X12_planFrom wn_X12 wk_X12_planFrom ⟨rfl, hd_X12_planFrom⟩ rfl ⟨by decide, by decide⟩ rfl rfl hl.1 rfl (Nat.le_of_ble_eq_true rfl) dX12_plan_100 ⟨by decide, by decide⟩ (fun v_ u_ H locs h_ I => ?_)
                    obtain ⟨rfl, hq28, hqup⟩ := h_
                    obtain ⟨v28, v29⟩ := u_
                    have hqup : ∀ i, 256 * ((ws - (r + 1)) + 1) ≤ i → v28 i = r28 i ∧ v29 i = r29 i := hqup
                    have hq28 : ∀ z, z < 2 ^ N 17 → v28 (256 * (ws - (r + 1)) + z) = (bsF N R (ws - (r + 1)) hn (fun z => (lsF N R ws hn r z).1) z (2 ^ N 17)).1 ∧ (¬ (bsF N R (ws - (r + 1)) hn (fun z => (lsF N R ws hn r z).1) z (2 ^ N 17)).1 < 0 → v29 (256 * (ws - (r + 1)) + z) = nI (bsF N R (ws - (r + 1)) hn (fun z => (lsF N R ws hn r z).1) z (2 ^ N 17)).2) := hq28
                    have I : IX D A s.heap (wM cy q N R (va_up (va_up (va_up (va_up (va_up (va_up (va_up (va_up X 13 z13) 14 z14) 15 z15) 16 z16) 26 r26) 27 r27) 28 v28) 29 v29)) H locs := I
                    refine W.eq (g2 := F0 m 103 ls []) rfl ?_
                    refine lv_iinc (v := nI ws - nI (r + 1 + 1)) (lv' := [(4, .int (nI ws - nI (r + 1 + 1))), (0, .ref (q 33)), (1, .int (nI ws)), (2, .int hn), (3, .int (nI (2 ^ N 17 - 1)))]) S.1 S.2.1 dX12_plan_103 hl (k := 4) rfl (sub_dec _ _) (by decide) rfl (fun ls hl => ?_)
                    refine lv_goto (tgt := 89) S.1 S.2.1 dX12_plan_106 (by decide) ?_
                    exact ih_89 (r + 1) v28 v29 (by omega) (by omega) (pl_ls hr3 hp2 hls hqup hq28) _ _ _ I (lv_sub hl [1, 2, 3, 4, 0] rfl)
              exact loop_89 _ 0 (X 28) (X 29) (Nat.lt_succ_self _) (Nat.zero_le _) (fun j h1 h2 => absurd h2 (by omega)) _ _ _ I (lv_sub hl [1, 2, 3, 4, 0] rfl)
            · skip
              have c_78 := bI_f c_78
              refine lv_bipush (v := (-2)) S.1 S.2.1 dX12_plan_81 (by decide) ?_
              exact ru_i hQ S hr hlk (u := ((N, R), (va_up (va_up (va_up (va_up (va_up (va_up X 13 z13) 14 z14) 15 z15) 16 z16) 26 r26) 27 r27))) I (by rw [sp_plan, if_pos ⟨c_7, c_17⟩, if_neg (by rw [c_78]; exact Bool.false_ne_true)]; exact ⟨rfl, rfl⟩) dX12_plan_83
          · skip
            have c_37o := c_37
            have c_37 := nI_cgtF (by omega) (by omega) c_37
            have hd2 : d < 2 ^ N 17 := by omega
            refine lv_aload_n S.1 S.2.1 dX12_plan_40 rfl (lv_at hl 0 rfl) ?_
            refine rg (ci := 12) (q0 := 0) (v := .ref (q 26)) 26 S hK I cl_X12 rfl wf_X12_77 (by decide) rfl rfl rfl dX12_plan_41 ?_
            refine lv_iload S.1 S.2.1 dX12_plan_44 (lv_at hl 4 rfl) ?_
            refine lv_aload_n S.1 S.2.1 dX12_plan_46 rfl (lv_at hl 0 rfl) ?_
            refine lv_iload S.1 S.2.1 dX12_plan_47 (lv_at hl 4 rfl) ?_
            refine cV (np := 1) (ci := 12) (q0 := 0) (As := [.int (nI d)]) (rest := [.int (nI d), .ref (q 26)]) S (c_riskOf l D cy q N R (va_up (va_up (va_up (va_up (va_up (va_up X 13 z13) 14 z14) 15 z15) 16 z16) 26 r26) 27 r27) d hW (by omega)) hK hA I wm_X12_148 wi_X12_riskOf ws_X12_X12_riskOf wn_X12 wk_X12_riskOf ⟨rfl, hd_X12_riskOf⟩ rfl ⟨by decide, by decide⟩ rfl rfl hl.1 rfl (Nat.le_of_ble_eq_true rfl) dX12_plan_49 ⟨by decide, by decide⟩ (fun v_ u_ H locs h_ I => ?_)
            obtain ⟨rfl, hv_49, hr_49⟩ := h_
            obtain ⟨a13_49, a14_49, a15_49, a16_49⟩ := u_
            have hr_49 : RowS N R (vtF R d (N 17)) (eS N R (vtF R d (N 17))) a14_49 a15_49 a16_49 := hr_49
            have I : IX D A s.heap (wM cy q N R (va_up (va_up (va_up (va_up (va_up (va_up X 13 a13_49) 14 a14_49) 15 a15_49) 16 a16_49) 26 r26) 27 r27)) H locs := I
            refine W.eq (g2 := F0 m 52 ls [.int (nI (rsk N R (vtF R d (N 17)))), .int (nI d), .ref (q 26)]) rfl ?_
            refine si (q0 := 23) (n := 256) (f := r26) d S hK I rfl rfl (by omega) (by decide) dX12_plan_52 (fun H locs I => ?_)
            have I : IX D A s.heap (wM cy q N R (va_up (va_up (va_up (va_up (va_up (va_up X 13 a13_49) 14 a14_49) 15 a15_49) 16 a16_49) 26 (upd r26 d (nI (rsk N R (vtF R d (N 17)))))) 27 r27)) H locs := I
            refine lv_aload_n S.1 S.2.1 dX12_plan_53 rfl (lv_at hl 0 rfl) ?_
            refine rg (ci := 12) (q0 := 0) (v := .ref (q 27)) 27 S hK I cl_X12 rfl wf_X12_80 (by decide) rfl rfl rfl dX12_plan_54 ?_
            refine lv_iload S.1 S.2.1 dX12_plan_57 (lv_at hl 4 rfl) ?_
            refine lv_aload_n S.1 S.2.1 dX12_plan_59 rfl (lv_at hl 0 rfl) ?_
            refine lv_iload S.1 S.2.1 dX12_plan_60 (lv_at hl 4 rfl) ?_
            refine cV (np := 1) (ci := 12) (q0 := 0) (As := [.int (nI d)]) (rest := [.int (nI d), .ref (q 27)]) S (c_isSound l D cy q N R (va_up (va_up (va_up (va_up (va_up (va_up X 13 a13_49) 14 a14_49) 15 a15_49) 16 a16_49) 26 (upd r26 d (nI (rsk N R (vtF R d (N 17)))))) 27 r27) d hW (by omega)) hK hA I wm_X12_162 wi_X12_isSound ws_X12_X12_isSound wn_X12 wk_X12_isSound ⟨rfl, hd_X12_isSound⟩ rfl ⟨by decide, by decide⟩ rfl rfl hl.1 rfl (Nat.le_of_ble_eq_true rfl) dX12_plan_62 ⟨by decide, by decide⟩ (fun v_ u_ H locs h_ I => ?_)
            obtain rfl := h_
            generalize u_ = nw_62 at I
            have I : IX D A s.heap (wM cy q N R (va_up (va_up (va_up (va_up (va_up (va_up X 13 nw_62) 14 a14_49) 15 a15_49) 16 a16_49) 26 (upd r26 d (nI (rsk N R (vtF R d (N 17)))))) 27 r27)) H locs := I
            refine W.eq (g2 := F0 m 65 ls [.int (bI (soB N R d)), .int (nI d), .ref (q 27)]) rfl ?_
            refine sz (q0 := 24) (n := 256) (f := r27) d S hK I rfl rfl (by omega) (by decide) (bI_01 _) dX12_plan_65 (fun H locs I => ?_)
            have I : IX D A s.heap (wM cy q N R (va_up (va_up (va_up (va_up (va_up (va_up X 13 nw_62) 14 a14_49) 15 a15_49) 16 a16_49) 26 (upd r26 d (nI (rsk N R (vtF R d (N 17)))))) 27 (upd r27 d (bI (soB N R d))))) H locs := I
            refine lv_iinc (v := nI (d + 1)) (lv' := [(4, .int (nI (d + 1))), (0, .ref (q 33)), (1, .int (nI ws)), (2, .int hn), (3, .int (nI (2 ^ N 17 - 1)))]) S.1 S.2.1 dX12_plan_66 hl (k := 4) rfl (nI_1 _) (by decide) rfl (fun ls hl => ?_)
            refine lv_goto (tgt := 34) S.1 S.2.1 dX12_plan_69 (by decide) ?_
            exact ih_34 (d + 1) (upd r26 d (nI (rsk N R (vtF R d (N 17))))) (upd r27 d (bI (soB N R d))) nw_62 a14_49 a15_49 a16_49 (by omega) (by omega) (pl_row hrs) _ _ _ I (lv_sub hl [1, 2, 3, 4, 0] rfl)
      exact loop_34 _ 0 (X 26) (X 27) (X 13) (X 14) (X 15) (X 16) (Nat.lt_succ_self _) (Nat.zero_le _) (fun z hz => absurd hz (Nat.not_lt_zero z)) _ _ _ I (lv_sub hl [2, 3, 4, 1, 0] rfl)
    · skip
      have c_17 := bI_f c_17
      refine lv_iconst (v := (-1)) S.1 S.2.1 dX12_plan_20 (by decide) ?_
      exact ru_i hQ S hr hlk (u := ((N, R), X)) I (by simp [sp_plan, c_7, e_ws, c_17]) dX12_plan_21
