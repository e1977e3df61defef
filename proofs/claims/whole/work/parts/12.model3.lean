set_option maxHeartbeats 4000000 in
set_option maxRecDepth 100000 in
theorem c_take (l : Launch) (D : va_G) (cy : Nat → ClassId) (q : Nat → Nat) (N : Nat → Nat) (R X : Nat → Nat → Int32) (hW : WFm N R) : MS (α := (Nat → Int32) × (Nat → Int32) × (Nat → Int32)) l D cy yX12_take cX12_take 6 (Option.none : Option FieldType) rm_X12_take [.ref (q 33)] (wM cy q N R X) (fun v_ u_ => v_ = none ∧ RowS N R (X 13) (eS N R (X 13)) u_.1 u_.2.1 u_.2.2) (fun u_ => wM cy q N R (va_up (va_up (va_up X 14 u_.1) 15 u_.2.1) 16 u_.2.2)) := by
  refine MS.mk2 (by decide) (Nat.le_of_ble_eq_true rfl) [(0, .ref (q 33))] rfl ?_
  intro p e s m args below meth c A ls Q hQ S hr hlk hnm hK hA I hl
  have hW0 := hW
  obtain ⟨hB, hPt, hBo, hH, hM, hQu⟩ := hW0
  have hB0 := hB
  obtain ⟨b0, b6, b17, b24, b30⟩ := hB0
  refine lv_iconst (v := nI 0) S.1 S.2.1 dX12_take_0 (by decide) ?_
  refine lv_istore_n (lv' := [(1, .int (nI 0)), (0, .ref (q 33))]) S.1 S.2.1 dX12_take_1 rfl hl (by decide) rfl (fun ls hl => ?_)
  have loop_2 : ∀ (k_ : Nat) (i : Nat) (r14 : Nat → Int32), N 0 - i < k_ → i ≤ N 0 → (∀ p, p < i → r14 p = nI 0) → ∀ (H : Heap) (locs : List Loc) (ls : Array Slot), IX D A s.heap (wM cy q N R (va_up X 14 r14)) H locs → lv_has ls 6 [(0, .ref (q 33)), (1, .int (nI i))] → W p l e rm_X12_take s m args below meth c H locs 0 0 Q (F0 m 2 ls []) := by
    intro k_
    induction k_ with
    | zero => intro i r14 hm_; exact absurd hm_ (Nat.not_lt_zero _)
    | succ k_ ih_2 =>
      intro i r14 hm_ hi hg H locs ls I hl
      refine lv_iload_n S.1 S.2.1 dX12_take_2 rfl (lv_at hl 1 rfl) ?_
      refine lv_aload_n S.1 S.2.1 dX12_take_3 rfl (lv_at hl 0 rfl) ?_
      refine rg (ci := 12) (q0 := 0) (v := .int (nI (N 0))) 0 S hK I cl_X12 rfl wf_X12_95 (by decide) rfl rfl rfl dX12_take_4 ?_
      refine lv_icmp_ge (tgt := 23) S.1 S.2.1 dX12_take_7 (by decide) (fun c_7 => ?_) (fun c_7 => ?_)
      · skip
        have c_7o := c_7
        have c_7 := nI_cgeT (by omega) (by omega) c_7
        refine lv_iconst (v := nI 1) S.1 S.2.1 dX12_take_23 (by decide) ?_
        refine lv_istore_n (lv' := [(1, .int (nI 1)), (0, .ref (q 33))]) S.1 S.2.1 dX12_take_24 rfl hl (by decide) rfl (fun ls hl => ?_)
        refine lv_iconst (v := nI 1) S.1 S.2.1 dX12_take_25 (by decide) ?_
        refine lv_istore_n (lv' := [(2, .int (nI 1)), (1, .int (nI 1)), (0, .ref (q 33))]) S.1 S.2.1 dX12_take_26 rfl hl (by decide) rfl (fun ls hl => ?_)
        have loop_27 : ∀ (k_ : Nat) (k : Nat) (mo : Nat) (r14 : Nat → Int32) (r15 : Nat → Int32) (r16 : Nat → Int32), 9 - k < k_ → k ≤ 9 → mo ≤ 1 → RowS N R (X 13) (stF N R (X 13) k) r14 r15 r16 → (mo = 1 → k ≤ cnS N (stF N R (X 13) k)) → (mo = 0 → ∀ p, p < N 0 → stF N R (X 13) k p = eS N R (X 13) p) → ∀ (H : Heap) (locs : List Loc) (ls : Array Slot), IX D A s.heap (wM cy q N R (va_up (va_up (va_up X 14 r14) 15 r15) 16 r16)) H locs → lv_has ls 6 [(0, .ref (q 33)), (1, .int (nI mo)), (2, .int (nI (k + 1)))] → W p l e rm_X12_take s m args below meth c H locs 0 0 Q (F0 m 27 ls []) := by
          intro k_
          induction k_ with
          | zero => intro k mo r14 r15 r16 hm_; exact absurd hm_ (Nat.not_lt_zero _)
          | succ k_ ih_27 =>
            intro k mo r14 r15 r16 hm_ hk hmo hrow hcn hst H locs ls I hl
            refine lv_iload_n S.1 S.2.1 dX12_take_27 rfl (lv_at hl 1 rfl) ?_
            refine lv_if_eq (tgt := 165) S.1 S.2.1 dX12_take_28 (by decide) (fun c_28 => ?_) (fun c_28 => ?_)
            · skip
              have c_28o := c_28
              have c_28 := nI_zeqT (by omega) c_28
              exact ru_v hQ S hr hlk (u := (r14, r15, r16)) I (⟨rfl, RowS_v (hst c_28) hrow⟩) dX12_take_165
            · skip
              have c_28o := c_28
              have c_28 := nI_zeqF (by omega) c_28
              have hk8 : k ≤ 8 := by have h1 := hcn (by omega); have h2 := cnS_le N (stF N R (X 13) k); omega
              refine lv_iconst (v := nI 0) S.1 S.2.1 dX12_take_31 (by decide) ?_
              refine lv_istore_n (lv' := [(1, .int (nI 0)), (0, .ref (q 33)), (2, .int (nI (k + 1)))]) S.1 S.2.1 dX12_take_32 rfl hl (by decide) rfl (fun ls hl => ?_)
              refine lv_iconst (v := nI 0) S.1 S.2.1 dX12_take_33 (by decide) ?_
              refine lv_istore_n (lv' := [(3, .int (nI 0)), (1, .int (nI 0)), (0, .ref (q 33)), (2, .int (nI (k + 1)))]) S.1 S.2.1 dX12_take_34 rfl hl (by decide) rfl (fun ls hl => ?_)
              have loop_35 : ∀ (k_ : Nat) (pa : Nat) (mb : Nat) (s14 : Nat → Int32) (s15 : Nat → Int32) (s16 : Nat → Int32), N 0 - pa < k_ → pa ≤ N 0 → mb ≤ 1 → RowS N R (X 13) (mixS N R (X 13) k pa) s14 s15 s16 → (mb = 0 → ∀ z, z < pa → nwB N R (X 13) (stF N R (X 13) k) z = false) → (mb = 1 → ∃ z, z < pa ∧ nwB N R (X 13) (stF N R (X 13) k) z = true) → ∀ (H : Heap) (locs : List Loc) (ls : Array Slot), IX D A s.heap (wM cy q N R (va_up (va_up (va_up X 14 s14) 15 s15) 16 s16)) H locs → lv_has ls 6 [(0, .ref (q 33)), (1, .int (nI mb)), (2, .int (nI (k + 1))), (3, .int (nI pa))] → W p l e rm_X12_take s m args below meth c H locs 0 0 Q (F0 m 35 ls []) := by
                intro k_
                induction k_ with
                | zero => intro pa mb s14 s15 s16 hm_; exact absurd hm_ (Nat.not_lt_zero _)
                | succ k_ ih_35 =>
                  intro pa mb s14 s15 s16 hm_ hpa hmb hrw hm0 hm1 H locs ls I hl
                  refine lv_iload_n S.1 S.2.1 dX12_take_35 rfl (lv_at hl 3 rfl) ?_
                  refine lv_aload_n S.1 S.2.1 dX12_take_36 rfl (lv_at hl 0 rfl) ?_
                  refine rg (ci := 12) (q0 := 0) (v := .int (nI (N 0))) 0 S hK I cl_X12 rfl wf_X12_95 (by decide) rfl rfl rfl dX12_take_37 ?_
                  refine lv_icmp_ge (tgt := 159) S.1 S.2.1 dX12_take_40 (by decide) (fun c_40 => ?_) (fun c_40 => ?_)
                  · skip
                    have c_40o := c_40
                    have c_40 := nI_cgeT (by omega) (by omega) c_40
                    refine lv_iinc (v := nI (k + 1 + 1)) (lv' := [(2, .int (nI (k + 1 + 1))), (0, .ref (q 33)), (1, .int (nI mb)), (3, .int (nI pa))]) S.1 S.2.1 dX12_take_159 hl (k := 2) rfl (nI_1 _) (by decide) rfl (fun ls hl => ?_)
                    refine lv_goto (tgt := 27) S.1 S.2.1 dX12_take_162 (by decide) ?_
                    exact ih_27 (k + 1) mb s14 s15 s16 (by omega) (by omega) hmb (row_end (by omega) hrw) (fun h => by have h1 := hcn (by omega); obtain ⟨z, hz, ez⟩ := hm1 h; have h2 := cnS_up ⟨z, by omega, ez⟩; omega) (fun h => stF_fin hH hk8 (fun p hp => hm0 h p (by omega))) _ _ _ I (lv_sub hl [1, 2, 0] rfl)
                  · skip
                    have c_40o := c_40
                    have c_40 := nI_cgeF (by omega) (by omega) c_40
                    refine lv_aload_n S.1 S.2.1 dX12_take_43 rfl (lv_at hl 0 rfl) ?_
                    refine rg (ci := 12) (q0 := 0) (v := .ref (q 3)) 3 S hK I cl_X12 rfl wf_X12_16 (by decide) rfl rfl rfl dX12_take_44 ?_
                    refine lv_iload_n S.1 S.2.1 dX12_take_47 rfl (lv_at hl 3 rfl) ?_
                    refine rz (q0 := 3) (n := 8) (f := R 3) pa S hK I rfl rfl (by omega) (by decide) dX12_take_48 ?_
                    have join_62 : ∀ (x : Int32), x = fmI N R (tkN (stF N R (X 13) k)) pa → ∀ (H : Heap) (locs : List Loc) (ls : Array Slot), IX D A s.heap (wM cy q N R (va_up (va_up (va_up X 14 s14) 15 s15) 16 s16)) H locs → lv_has ls 6 [(0, .ref (q 33)), (1, .int (nI mb)), (2, .int (nI (k + 1))), (3, .int (nI pa))] → W p l e rm_X12_take s m args below meth c H locs 0 0 Q (F0 m 62 ls [.int x]) := by
                      intro x hx H locs ls I hl
                      refine lv_istore (lv' := [(4, .int x), (0, .ref (q 33)), (1, .int (nI mb)), (2, .int (nI (k + 1))), (3, .int (nI pa))]) S.1 S.2.1 dX12_take_62 hl (by decide) rfl (fun ls hl => ?_)
                      refine lv_aload_n S.1 S.2.1 dX12_take_64 rfl (lv_at hl 1 rfl) ?_
                      refine rg (ci := 12) (q0 := 0) (v := .ref (q 14)) 14 S hK I cl_X12 rfl wf_X12_47 (by decide) rfl rfl rfl dX12_take_65 ?_
                      refine lv_iload_n S.1 S.2.1 dX12_take_68 rfl (lv_at hl 4 rfl) ?_
                      have hsle := stF_le N R (X 13) k pa
                      refine ri (q0 := 13) (n := 8) (f := s14) pa S hK I rfl rfl (by omega) (by decide) dX12_take_69 ?_
                      refine tI (y := nI (stF N R (X 13) k pa)) ((hrw pa (by omega)).1.trans (congrArg nI (mixS_at _ _ _ _ _))) ?_
                      refine lv_if_ne (tgt := 153) S.1 S.2.1 dX12_take_70 (by decide) (fun c_70 => ?_) (fun c_70 => ?_)
                      · skip
                        have c_70o := c_70
                        have c_70 := nI_zneT (by omega) c_70
                        have hnn : nwB N R (X 13) (stF N R (X 13) k) pa = false := by unfold nwB; simp [c_70]
                        refine lv_iinc (v := nI (pa + 1)) (lv' := [(3, .int (nI (pa + 1))), (4, .int x), (0, .ref (q 33)), (1, .int (nI mb)), (2, .int (nI (k + 1)))]) S.1 S.2.1 dX12_take_153 hl (k := 4) rfl (nI_1 _) (by decide) rfl (fun ls hl => ?_)
                        refine lv_goto (tgt := 35) S.1 S.2.1 dX12_take_156 (by decide) ?_
                        exact ih_35 (pa + 1) mb s14 s15 s16 (by omega) (by omega) hmb (row_no hrw hnn) (fun h => all_s (hm0 h) hnn) (fun h => by obtain ⟨z, hz, ez⟩ := hm1 h; exact ⟨z, by omega, ez⟩) _ _ _ I (lv_sub hl [2, 3, 4, 0] rfl)
                      · skip
                        have c_70o := c_70
                        have c_70 := nI_zneF (by omega) c_70
                        refine lv_iload S.1 S.2.1 dX12_take_73 (lv_at hl 0 rfl) ?_
                        refine lv_bipush (v := (-4)) S.1 S.2.1 dX12_take_75 (by decide) ?_
                        refine lv_icmp_eq (tgt := 153) S.1 S.2.1 dX12_take_77 (by decide) (fun c_77 => ?_) (fun c_77 => ?_)
                        · skip
                          have hnn : nwB N R (X 13) (stF N R (X 13) k) pa = false := by unfold nwB; rw [← hx, c_77]; simp
                          refine lv_iinc (v := nI (pa + 1)) (lv' := [(3, .int (nI (pa + 1))), (4, .int x), (0, .ref (q 33)), (1, .int (nI mb)), (2, .int (nI (k + 1)))]) S.1 S.2.1 dX12_take_153 hl (k := 4) rfl (nI_1 _) (by decide) rfl (fun ls hl => ?_)
                          refine lv_goto (tgt := 35) S.1 S.2.1 dX12_take_156 (by decide) ?_
                          exact ih_35 (pa + 1) mb s14 s15 s16 (by omega) (by omega) hmb (row_no hrw hnn) (fun h => all_s (hm0 h) hnn) (fun h => by obtain ⟨z, hz, ez⟩ := hm1 h; exact ⟨z, by omega, ez⟩) _ _ _ I (lv_sub hl [2, 3, 4, 0] rfl)
                        · skip
                          refine lv_iconst (v := nI 0) S.1 S.2.1 dX12_take_80 (by decide) ?_
                          refine lv_istore (lv' := [(5, .int (nI 0)), (4, .int x), (0, .ref (q 33)), (1, .int (nI mb)), (2, .int (nI (k + 1))), (3, .int (nI pa))]) S.1 S.2.1 dX12_take_81 hl (by decide) rfl (fun ls hl => ?_)
                          have loop_83 : ∀ (k_ : Nat) (j : Nat), N 6 - j < k_ → j ≤ N 6 → (∀ i, i < j → (decide (wh R i = pa) && opB R (X 13) (tkN (stF N R (X 13) k)) i) = false) → ∀ (H : Heap) (locs : List Loc) (ls : Array Slot), IX D A s.heap (wM cy q N R (va_up (va_up (va_up X 14 s14) 15 s15) 16 s16)) H locs → lv_has ls 6 [(0, .ref (q 33)), (1, .int (nI mb)), (2, .int (nI (k + 1))), (3, .int (nI pa)), (4, .int x), (5, .int (nI j))] → W p l e rm_X12_take s m args below meth c H locs 0 0 Q (F0 m 83 ls []) := by
                            intro k_
                            induction k_ with
                            | zero => intro j hm_; exact absurd hm_ (Nat.not_lt_zero _)
                            | succ k_ ih_83 =>
                              intro j hm_ hj hno H locs ls I hl
                              refine lv_iload S.1 S.2.1 dX12_take_83 (lv_at hl 5 rfl) ?_
                              refine lv_aload_n S.1 S.2.1 dX12_take_85 rfl (lv_at hl 0 rfl) ?_
                              refine rg (ci := 12) (q0 := 0) (v := .int (nI (N 6))) 6 S hK I cl_X12 rfl wf_X12_110 (by decide) rfl rfl rfl dX12_take_86 ?_
                              refine lv_icmp_ge (tgt := 153) S.1 S.2.1 dX12_take_89 (by decide) (fun c_89 => ?_) (fun c_89 => ?_)
                              · skip
                                have c_89o := c_89
                                have c_89 := nI_cgeT (by omega) (by omega) c_89
                                have hnn : nwB N R (X 13) (stF N R (X 13) k) pa = false := by unfold nwB; rw [show nwH N R (X 13) (tkN (stF N R (X 13) k)) pa = N 6 from fst_none (fun i hi => hno i (by omega))]; simp
                                refine lv_iinc (v := nI (pa + 1)) (lv' := [(3, .int (nI (pa + 1))), (0, .ref (q 33)), (1, .int (nI mb)), (2, .int (nI (k + 1))), (4, .int x), (5, .int (nI j))]) S.1 S.2.1 dX12_take_153 hl (k := 3) rfl (nI_1 _) (by decide) rfl (fun ls hl => ?_)
                                refine lv_goto (tgt := 35) S.1 S.2.1 dX12_take_156 (by decide) ?_
                                exact ih_35 (pa + 1) mb s14 s15 s16 (by omega) (by omega) hmb (row_no hrw hnn) (fun h => all_s (hm0 h) hnn) (fun h => by obtain ⟨z, hz, ez⟩ := hm1 h; exact ⟨z, by omega, ez⟩) _ _ _ I (lv_sub hl [1, 2, 3, 0] rfl)
                              · skip
                                have c_89o := c_89
                                have c_89 := nI_cgeF (by omega) (by omega) c_89
                                refine lv_aload_n S.1 S.2.1 dX12_take_92 rfl (lv_at hl 0 rfl) ?_
                                refine rg (ci := 12) (q0 := 0) (v := .ref (q 14)) 14 S hK I cl_X12 rfl wf_X12_47 (by decide) rfl rfl rfl dX12_take_93 ?_
                                refine lv_iload_n S.1 S.2.1 dX12_take_96 rfl (lv_at hl 3 rfl) ?_
                                refine ri (q0 := 13) (n := 8) (f := s14) pa S hK I rfl rfl (by omega) (by decide) dX12_take_97 ?_
                                refine tI (y := nI 0) ((hrw pa (by omega)).1.trans (congrArg nI ((mixS_at _ _ _ _ _).trans c_70))) ?_
                                refine lv_if_ne (tgt := 153) S.1 S.2.1 dX12_take_98 (by decide) (fun c_98 => ?_) (fun c_98 => ?_)
                                · skip
                                  have c_98 := nI_zneT (by omega) c_98
                                  exact absurd rfl c_98
                                · skip
                                  have c_98o := c_98
                                  have c_98 := nI_zneF (by omega) c_98
                                  refine lv_aload_n S.1 S.2.1 dX12_take_101 rfl (lv_at hl 0 rfl) ?_
                                  refine rg (ci := 12) (q0 := 0) (v := .ref (q 8)) 8 S hK I cl_X12 rfl wf_X12_29 (by decide) rfl rfl rfl dX12_take_102 ?_
                                  refine lv_iload S.1 S.2.1 dX12_take_105 (lv_at hl 5 rfl) ?_
                                  refine ri (q0 := 7) (n := 12) (f := R 8) j S hK I rfl rfl (by omega) (by decide) dX12_take_107 ?_
                                  refine tI (y := nI (wh R j)) (hH j (by omega)).1 ?_
                                  have hwb := (hH j (by omega)).2.1
                                  refine lv_iload_n S.1 S.2.1 dX12_take_108 rfl (lv_at hl 3 rfl) ?_
                                  refine lv_icmp_ne (tgt := 147) S.1 S.2.1 dX12_take_109 (by decide) (fun c_109 => ?_) (fun c_109 => ?_)
                                  · skip
                                    have c_109o := c_109
                                    have c_109 := nI_cneT (by omega) (by omega) c_109
                                    refine lv_iinc (v := nI (j + 1)) (lv' := [(5, .int (nI (j + 1))), (0, .ref (q 33)), (1, .int (nI mb)), (2, .int (nI (k + 1))), (3, .int (nI pa)), (4, .int x)]) S.1 S.2.1 dX12_take_147 hl (k := 5) rfl (nI_1 _) (by decide) rfl (fun ls hl => ?_)
                                    refine lv_goto (tgt := 83) S.1 S.2.1 dX12_take_150 (by decide) ?_
                                    exact ih_83 (j + 1) (by omega) (by omega) (all_s (P := fun i => decide (wh R i = pa) && opB R (X 13) (tkN (stF N R (X 13) k)) i) hno (by simp [c_109])) _ _ _ I (lv_sub hl [1, 2, 3, 4, 5, 0] rfl)
                                  · skip
                                    have c_109o := c_109
                                    have c_109 := nI_cneF (by omega) (by omega) c_109
                                    refine lv_aload_n S.1 S.2.1 dX12_take_112 rfl (lv_at hl 0 rfl) ?_
                                    refine lv_iload S.1 S.2.1 dX12_take_113 (lv_at hl 5 rfl) ?_
                                    refine lv_iload_n S.1 S.2.1 dX12_take_115 rfl (lv_at hl 2 rfl) ?_
                                    refine cV (np := 2) (ci := 12) (q0 := 0) (As := [.int (nI j), .int (nI (k + 1))]) (rest := []) S (c_opens l D cy q N R (va_up (va_up (va_up X 14 s14) 15 s15) 16 s16) j (nI (k + 1)) hW (by omega)) hK hA I wm_X12_133 wi_X12_opens ws_X12_X12_opens wn_X12 wk_X12_opens ⟨rfl, hd_X12_opens⟩ rfl ⟨by decide, by decide⟩ rfl rfl hl.1 rfl (Nat.le_of_ble_eq_true rfl) dX12_take_116 ⟨by decide, by decide⟩ (fun v_ u_ H locs h_ I => ?_)
                                    obtain rfl := h_
                                    have I : IX D A s.heap (wM cy q N R (va_up (va_up (va_up X 14 s14) 15 s15) 16 s16)) H locs := I
                                    refine W.eq (g2 := F0 m 119 ls [.int (bI (opB R (X 13) (tkB s14 (nI (k + 1))) j))]) rfl ?_
                                    refine tI (y := bI (opB R (X 13) (tkN (stF N R (X 13) k)) j)) (congrArg bI (opB_cg hH (fun _ _ => rfl) (tk_mix (by omega) hrw) (by omega))) ?_
                                    refine lv_if_eq (tgt := 147) S.1 S.2.1 dX12_take_119 (by decide) (fun c_119 => ?_) (fun c_119 => ?_)
                                    · skip
                                      have c_119 := bI_f c_119
                                      refine lv_iinc (v := nI (j + 1)) (lv' := [(5, .int (nI (j + 1))), (0, .ref (q 33)), (1, .int (nI mb)), (2, .int (nI (k + 1))), (3, .int (nI pa)), (4, .int x)]) S.1 S.2.1 dX12_take_147 hl (k := 5) rfl (nI_1 _) (by decide) rfl (fun ls hl => ?_)
                                      refine lv_goto (tgt := 83) S.1 S.2.1 dX12_take_150 (by decide) ?_
                                      exact ih_83 (j + 1) (by omega) (by omega) (all_s (P := fun i => decide (wh R i = pa) && opB R (X 13) (tkN (stF N R (X 13) k)) i) hno (by simp [c_109, c_119])) _ _ _ I (lv_sub hl [1, 2, 3, 4, 5, 0] rfl)
                                    · skip
                                      have c_119 := bI_t c_119
                                      have hjn : nwH N R (X 13) (tkN (stF N R (X 13) k)) pa = j := fst_eq hno (by simp [c_109, c_119]) (by omega)
                                      have hnw : nwB N R (X 13) (stF N R (X 13) k) pa = true := by unfold nwB; rw [hjn, ← hx]; simp [c_70, c_77]; omega
                                      refine lv_aload_n S.1 S.2.1 dX12_take_122 rfl (lv_at hl 0 rfl) ?_
                                      refine rg (ci := 12) (q0 := 0) (v := .ref (q 14)) 14 S hK I cl_X12 rfl wf_X12_47 (by decide) rfl rfl rfl dX12_take_123 ?_
                                      refine lv_iload_n S.1 S.2.1 dX12_take_126 rfl (lv_at hl 3 rfl) ?_
                                      refine lv_iload_n S.1 S.2.1 dX12_take_127 rfl (lv_at hl 2 rfl) ?_
                                      refine si (q0 := 13) (n := 8) (f := s14) pa S hK I rfl rfl (by omega) (by decide) dX12_take_128 (fun H locs I => ?_)
                                      have I : IX D A s.heap (wM cy q N R (va_up (va_up (va_up X 14 (upd s14 pa (nI (k + 1)))) 15 s15) 16 s16)) H locs := I
                                      refine lv_aload_n S.1 S.2.1 dX12_take_129 rfl (lv_at hl 0 rfl) ?_
                                      refine rg (ci := 12) (q0 := 0) (v := .ref (q 15)) 15 S hK I cl_X12 rfl wf_X12_50 (by decide) rfl rfl rfl dX12_take_130 ?_
                                      refine lv_iload_n S.1 S.2.1 dX12_take_133 rfl (lv_at hl 3 rfl) ?_
                                      refine lv_iload S.1 S.2.1 dX12_take_134 (lv_at hl 5 rfl) ?_
                                      refine si (q0 := 14) (n := 8) (f := s15) pa S hK I rfl rfl (by omega) (by decide) dX12_take_136 (fun H locs I => ?_)
                                      have I : IX D A s.heap (wM cy q N R (va_up (va_up (va_up X 14 (upd s14 pa (nI (k + 1)))) 15 (upd s15 pa (nI j))) 16 s16)) H locs := I
                                      refine lv_aload_n S.1 S.2.1 dX12_take_137 rfl (lv_at hl 0 rfl) ?_
                                      refine rg (ci := 12) (q0 := 0) (v := .ref (q 16)) 16 S hK I cl_X12 rfl wf_X12_53 (by decide) rfl rfl rfl dX12_take_138 ?_
                                      refine lv_iload_n S.1 S.2.1 dX12_take_141 rfl (lv_at hl 3 rfl) ?_
                                      refine lv_iload S.1 S.2.1 dX12_take_142 (lv_at hl 4 rfl) ?_
                                      refine si (q0 := 15) (n := 8) (f := s16) pa S hK I rfl rfl (by omega) (by decide) dX12_take_144 (fun H locs I => ?_)
                                      have I : IX D A s.heap (wM cy q N R (va_up (va_up (va_up X 14 (upd s14 pa (nI (k + 1)))) 15 (upd s15 pa (nI j))) 16 (upd s16 pa x))) H locs := I
                                      refine lv_iconst (v := nI 1) S.1 S.2.1 dX12_take_145 (by decide) ?_
                                      refine lv_istore_n (lv' := [(1, .int (nI 1)), (0, .ref (q 33)), (2, .int (nI (k + 1))), (3, .int (nI pa)), (4, .int x), (5, .int (nI j))]) S.1 S.2.1 dX12_take_146 rfl hl (by decide) rfl (fun ls hl => ?_)
                                      refine lv_iinc (v := nI (j + 1)) (lv' := [(5, .int (nI (j + 1))), (1, .int (nI 1)), (0, .ref (q 33)), (2, .int (nI (k + 1))), (3, .int (nI pa)), (4, .int x)]) S.1 S.2.1 dX12_take_147 hl (k := 5) rfl (nI_1 _) (by decide) rfl (fun ls hl => ?_)
                                      refine lv_goto (tgt := 83) S.1 S.2.1 dX12_take_150 (by decide) ?_
                                      refine lv_iload S.1 S.2.1 dX12_take_83 (lv_at hl 0 rfl) ?_
                                      refine lv_aload_n S.1 S.2.1 dX12_take_85 rfl (lv_at hl 2 rfl) ?_
                                      refine rg (ci := 12) (q0 := 0) (v := .int (nI (N 6))) 6 S hK I cl_X12 rfl wf_X12_110 (by decide) rfl rfl rfl dX12_take_86 ?_
                                      refine lv_icmp_ge (tgt := 153) S.1 S.2.1 dX12_take_89 (by decide) (fun c_89 => ?_) (fun c_89 => ?_)
                                      · skip
                                        have c_89o := c_89
                                        have c_89 := nI_cgeT (by omega) (by omega) c_89
                                        
                                        refine lv_iinc (v := nI (pa + 1)) (lv' := [(3, .int (nI (pa + 1))), (5, .int (nI (j + 1))), (1, .int (nI 1)), (0, .ref (q 33)), (2, .int (nI (k + 1))), (4, .int x)]) S.1 S.2.1 dX12_take_153 hl (k := 4) rfl (nI_1 _) (by decide) rfl (fun ls hl => ?_)
                                        refine lv_goto (tgt := 35) S.1 S.2.1 dX12_take_156 (by decide) ?_
                                        exact ih_35 (pa + 1) 1 (upd s14 pa (nI (k + 1))) (upd s15 pa (nI j)) (upd s16 pa x) (by omega) (by omega) (Nat.le_refl 1) (row_yes hrw hnw hjn hx) (fun h => absurd h (by decide)) (fun _ => ⟨pa, by omega, hnw⟩) _ _ _ I (lv_sub hl [3, 2, 4, 0] rfl)
                                      · skip
                                        have c_89o := c_89
                                        have c_89 := nI_cgeF (by omega) (by omega) c_89
                                        refine lv_aload_n S.1 S.2.1 dX12_take_92 rfl (lv_at hl 2 rfl) ?_
                                        refine rg (ci := 12) (q0 := 0) (v := .ref (q 14)) 14 S hK I cl_X12 rfl wf_X12_47 (by decide) rfl rfl rfl dX12_take_93 ?_
                                        refine lv_iload_n S.1 S.2.1 dX12_take_96 rfl (lv_at hl 4 rfl) ?_
                                        refine ri (q0 := 13) (n := 8) (f := upd s14 pa (nI (k + 1))) pa S hK I rfl rfl (by omega) (by decide) dX12_take_97 ?_
                                        refine tI (y := nI (k + 1)) pk_us ?_
                                        refine lv_if_ne (tgt := 153) S.1 S.2.1 dX12_take_98 (by decide) (fun c_98 => ?_) (fun c_98 => ?_)
                                        · skip
                                          have c_98o := c_98
                                          have c_98 := nI_zneT (by omega) c_98
                                          refine lv_iinc (v := nI (pa + 1)) (lv' := [(3, .int (nI (pa + 1))), (5, .int (nI (j + 1))), (1, .int (nI 1)), (0, .ref (q 33)), (2, .int (nI (k + 1))), (4, .int x)]) S.1 S.2.1 dX12_take_153 hl (k := 4) rfl (nI_1 _) (by decide) rfl (fun ls hl => ?_)
                                          refine lv_goto (tgt := 35) S.1 S.2.1 dX12_take_156 (by decide) ?_
                                          exact ih_35 (pa + 1) 1 (upd s14 pa (nI (k + 1))) (upd s15 pa (nI j)) (upd s16 pa x) (by omega) (by omega) (Nat.le_refl 1) (row_yes hrw hnw hjn hx) (fun h => absurd h (by decide)) (fun _ => ⟨pa, by omega, hnw⟩) _ _ _ I (lv_sub hl [3, 2, 4, 0] rfl)
                                        · skip
                                          have c_98 := nI_zneF (by omega) c_98
                                          exact absurd c_98 (by omega)
                          exact loop_83 _ 0 (Nat.lt_succ_self _) (Nat.zero_le _) (fun i hi => absurd hi (Nat.not_lt_zero i)) _ _ _ I (lv_sub hl [2, 3, 4, 5, 1, 0] rfl)
                    refine lv_if_eq (tgt := 56) S.1 S.2.1 dX12_take_49 (by decide) (fun c_49 => ?_) (fun c_49 => ?_)
                    · skip
                      refine lv_aload_n S.1 S.2.1 dX12_take_56 rfl (lv_at hl 0 rfl) ?_
                      refine lv_iload_n S.1 S.2.1 dX12_take_57 rfl (lv_at hl 3 rfl) ?_
                      refine lv_iload_n S.1 S.2.1 dX12_take_58 rfl (lv_at hl 2 rfl) ?_
                      refine cV (np := 2) (ci := 12) (q0 := 0) (As := [.int (nI pa), .int (nI (k + 1))]) (rest := []) S (c_fromFor l D cy q N R (va_up (va_up (va_up X 14 s14) 15 s15) 16 s16) pa (nI (k + 1)) hW (by omega)) hK hA I wm_X12_129 wi_X12_fromFor ws_X12_X12_fromFor wn_X12 wk_X12_fromFor ⟨rfl, hd_X12_fromFor⟩ rfl ⟨by decide, by decide⟩ rfl rfl hl.1 rfl (Nat.le_of_ble_eq_true rfl) dX12_take_59 ⟨by decide, by decide⟩ (fun v_ u_ H locs h_ I => ?_)
                      obtain rfl := h_
                      have I : IX D A s.heap (wM cy q N R (va_up (va_up (va_up X 14 s14) 15 s15) 16 s16)) H locs := I
                      refine W.eq (g2 := F0 m 62 ls [.int (frI R (tkB s14 (nI (k + 1))) (N 0) pa)]) rfl ?_
                      exact join_62 (frI R (tkB s14 (nI (k + 1))) (N 0) pa) (by unfold fmI; rw [if_pos c_49]; exact frI_cg (tk_mix (by omega) hrw) pa) _ _ _ I (lv_sub hl [0, 1, 2, 3] rfl)
                    · skip
                      refine lv_iconst (v := (-1)) S.1 S.2.1 dX12_take_52 (by decide) ?_
                      refine lv_goto (tgt := 62) S.1 S.2.1 dX12_take_53 (by decide) ?_
                      exact join_62 (-1) (by unfold fmI; rw [if_neg c_49]) _ _ _ I (lv_sub hl [0, 1, 2, 3] rfl)
              exact loop_35 _ 0 0 r14 r15 r16 (Nat.lt_succ_self _) (Nat.zero_le _) (Nat.zero_le 1) (by rw [mixS_0]; exact hrow) (fun _ z hz => absurd hz (Nat.not_lt_zero z)) (fun h => absurd h (by decide)) _ _ _ I (lv_sub hl [2, 1, 3, 0] rfl)
        exact loop_27 _ 0 1 r14 (X 15) (X 16) (Nat.lt_succ_self _) (Nat.zero_le _) (Nat.le_refl 1) (fun p hp => ⟨hg p (by omega), fun h => absurd h (Nat.lt_irrefl 0)⟩) (fun _ => Nat.zero_le _) (fun h => absurd h (by decide)) _ _ _ I (lv_sub hl [2, 1, 0] rfl)
      · skip
        have c_7o := c_7
        have c_7 := nI_cgeF (by omega) (by omega) c_7
        refine lv_aload_n S.1 S.2.1 dX12_take_10 rfl (lv_at hl 0 rfl) ?_
        refine rg (ci := 12) (q0 := 0) (v := .ref (q 14)) 14 S hK I cl_X12 rfl wf_X12_47 (by decide) rfl rfl rfl dX12_take_11 ?_
        refine lv_iload_n S.1 S.2.1 dX12_take_14 rfl (lv_at hl 1 rfl) ?_
        refine lv_iconst (v := nI 0) S.1 S.2.1 dX12_take_15 (by decide) ?_
        refine si (q0 := 13) (n := 8) (f := r14) i S hK I rfl rfl (by omega) (by decide) dX12_take_16 (fun H locs I => ?_)
        have I : IX D A s.heap (wM cy q N R (va_up X 14 (upd r14 i (nI 0)))) H locs := I
        refine lv_iinc (v := nI (i + 1)) (lv' := [(1, .int (nI (i + 1))), (0, .ref (q 33))]) S.1 S.2.1 dX12_take_17 hl (k := 1) rfl (nI_1 _) (by decide) rfl (fun ls hl => ?_)
        refine lv_goto (tgt := 2) S.1 S.2.1 dX12_take_20 (by decide) ?_
        exact ih_2 (i + 1) (upd r14 i (nI 0)) (by omega) (by omega) (cp_s (f := fun _ => nI 0) hg) _ _ _ I (lv_sub hl [1, 0] rfl)
  exact loop_2 _ 0 (X 14) (Nat.lt_succ_self _) (Nat.zero_le _) (fun p hp => absurd hp (Nat.not_lt_zero _)) _ _ _ I (lv_sub hl [1, 0] rfl)
set_option maxHeartbeats 4000000 in
set_option maxRecDepth 100000 in
theorem c_riskNow (l : Launch) (D : va_G) (cy : Nat → ClassId) (q : Nat → Nat) (N : Nat → Nat) (R X : Nat → Nat → Int32) (hW : WFm N R) : MS (α := (Nat → Int32) × (Nat → Int32) × (Nat → Int32)) l D cy yX12_riskNow cX12_riskNow 5 (Option.some FieldType.int) rm_X12_riskNow [.ref (q 33)] (wM cy q N R X) (fun v_ u_ => v_ = some (.int (nI (rsk N R (X 13)))) ∧ RowS N R (X 13) (eS N R (X 13)) u_.1 u_.2.1 u_.2.2) (fun u_ => wM cy q N R (va_up (va_up (va_up X 14 u_.1) 15 u_.2.1) 16 u_.2.2)) := by
  refine MS.mk2 (by decide) (Nat.le_of_ble_eq_true rfl) [(0, .ref (q 33))] rfl ?_
  intro p e s m args below meth c A ls Q hQ S hr hlk hnm hK hA I hl
  have hW0 := hW
  obtain ⟨hB, hPt, hBo, hH, hM, hQu⟩ := hW0
  have hB0 := hB
  obtain ⟨b0, b6, b17, b24, b30⟩ := hB0
  refine lv_aload_n S.1 S.2.1 dX12_riskNow_0 rfl (lv_at hl 0 rfl) ?_
  refine cV (np := 0) (ci := 12) (q0 := 0) (As := []) (rest := []) S (c_take l D cy q N R X hW) hK hA I wm_X12_137 wi_X12_take ws_X12_X12_take wn_X12 wk_X12_take ⟨rfl, hd_X12_take⟩ rfl ⟨by decide, by decide⟩ rfl rfl hl.1 rfl (Nat.le_of_ble_eq_true rfl) dX12_riskNow_1 ⟨by decide, by decide⟩ (fun v_ u_ H locs h_ I => ?_)
  obtain ⟨rfl, hr_1⟩ := h_
  obtain ⟨a14_1, a15_1, a16_1⟩ := u_
  have hr_1 : RowS N R (X 13) (eS N R (X 13)) a14_1 a15_1 a16_1 := hr_1
  have I : IX D A s.heap (wM cy q N R (va_up (va_up (va_up X 14 a14_1) 15 a15_1) 16 a16_1)) H locs := I
  refine W.eq (g2 := F0 m 4 ls []) rfl ?_
  refine lv_iconst (v := nI 0) S.1 S.2.1 dX12_riskNow_4 (by decide) ?_
  refine lv_istore_n (lv' := [(1, .int (nI 0)), (0, .ref (q 33))]) S.1 S.2.1 dX12_riskNow_5 rfl hl (by decide) rfl (fun ls hl => ?_)
  refine lv_iconst (v := nI 0) S.1 S.2.1 dX12_riskNow_6 (by decide) ?_
  refine lv_istore_n (lv' := [(2, .int (nI 0)), (1, .int (nI 0)), (0, .ref (q 33))]) S.1 S.2.1 dX12_riskNow_7 rfl hl (by decide) rfl (fun ls hl => ?_)
  have loop_8 : ∀ (k_ : Nat) (pa : Nat) (su : Nat), N 0 - pa < k_ → pa ≤ N 0 → su = fb_sm (rkF N R (X 13)) pa → ∀ (H : Heap) (locs : List Loc) (ls : Array Slot), IX D A s.heap (wM cy q N R (va_up (va_up (va_up X 14 a14_1) 15 a15_1) 16 a16_1)) H locs → lv_has ls 5 [(0, .ref (q 33)), (1, .int (nI su)), (2, .int (nI pa))] → W p l e rm_X12_riskNow s m args below meth c H locs 0 0 Q (F0 m 8 ls []) := by
    intro k_
    induction k_ with
    | zero => intro pa su hm_; exact absurd hm_ (Nat.not_lt_zero _)
    | succ k_ ih_8 =>
      intro pa su hm_ hpa hsu H locs ls I hl
      refine lv_iload_n S.1 S.2.1 dX12_riskNow_8 rfl (lv_at hl 2 rfl) ?_
      refine lv_aload_n S.1 S.2.1 dX12_riskNow_9 rfl (lv_at hl 0 rfl) ?_
      refine rg (ci := 12) (q0 := 0) (v := .int (nI (N 0))) 0 S hK I cl_X12 rfl wf_X12_95 (by decide) rfl rfl rfl dX12_riskNow_10 ?_
      refine lv_icmp_ge (tgt := 116) S.1 S.2.1 dX12_riskNow_13 (by decide) (fun c_13 => ?_) (fun c_13 => ?_)
      · skip
        have c_13o := c_13
        have c_13 := nI_cgeT (by omega) (by omega) c_13
        refine lv_iload_n S.1 S.2.1 dX12_riskNow_116 rfl (lv_at hl 1 rfl) ?_
        exact ru_i hQ S hr hlk (u := (a14_1, a15_1, a16_1)) I (⟨by rw [hsu, show pa = N 0 by omega]; rfl, hr_1⟩) dX12_riskNow_117
      · skip
        have c_13o := c_13
        have c_13 := nI_cgeF (by omega) (by omega) c_13
        refine lv_aload_n S.1 S.2.1 dX12_riskNow_16 rfl (lv_at hl 0 rfl) ?_
        refine rg (ci := 12) (q0 := 0) (v := .ref (q 14)) 14 S hK I cl_X12 rfl wf_X12_47 (by decide) rfl rfl rfl dX12_riskNow_17 ?_
        refine lv_iload_n S.1 S.2.1 dX12_riskNow_20 rfl (lv_at hl 2 rfl) ?_
        have hsle : eS N R (X 13) pa ≤ 8 := stF_le N R (X 13) 8 pa
        refine ri (q0 := 13) (n := 8) (f := a14_1) pa S hK I rfl rfl (by omega) (by decide) dX12_riskNow_21 ?_
        refine tI (y := nI (eS N R (X 13) pa)) ((hr_1 pa (by omega)).1) ?_
        refine lv_if_le (tgt := 110) S.1 S.2.1 dX12_riskNow_22 (by decide) (fun c_22 => ?_) (fun c_22 => ?_)
        · skip
          have c_22o := c_22
          have c_22 := nI_zleT (by omega) c_22
          refine lv_iinc (v := nI (pa + 1)) (lv' := [(2, .int (nI (pa + 1))), (0, .ref (q 33)), (1, .int (nI su))]) S.1 S.2.1 dX12_riskNow_110 hl (k := 2) rfl (nI_1 _) (by decide) rfl (fun ls hl => ?_)
          refine lv_goto (tgt := 8) S.1 S.2.1 dX12_riskNow_113 (by decide) ?_
          exact ih_8 (pa + 1) su (by omega) (by omega) (by rw [fb_sm_succ, ← hsu, rkF, if_neg (by omega), Nat.add_zero]) _ _ _ I (lv_sub hl [1, 2, 0] rfl)
        · skip
          have c_22o := c_22
          have c_22 := nI_zleF (by omega) c_22
          refine lv_iconst (v := nI 0) S.1 S.2.1 dX12_riskNow_25 (by decide) ?_
          refine tI (y := bI false) rfl ?_
          refine lv_istore_n (lv' := [(3, .int (bI false)), (0, .ref (q 33)), (1, .int (nI su)), (2, .int (nI pa))]) S.1 S.2.1 dX12_riskNow_26 rfl hl (by decide) rfl (fun ls hl => ?_)
          refine lv_iconst (v := nI 0) S.1 S.2.1 dX12_riskNow_27 (by decide) ?_
          refine lv_istore (lv' := [(4, .int (nI 0)), (3, .int (bI false)), (0, .ref (q 33)), (1, .int (nI su)), (2, .int (nI pa))]) S.1 S.2.1 dX12_riskNow_28 hl (by decide) rfl (fun ls hl => ?_)
          have loop_30 : ∀ (k_ : Nat) (j : Nat) (ub : Bool), N 6 - j < k_ → j ≤ N 6 → ub = usF R (X 13) pa j → ∀ (H : Heap) (locs : List Loc) (ls : Array Slot), IX D A s.heap (wM cy q N R (va_up (va_up (va_up X 14 a14_1) 15 a15_1) 16 a16_1)) H locs → lv_has ls 5 [(0, .ref (q 33)), (1, .int (nI su)), (2, .int (nI pa)), (3, .int (bI ub)), (4, .int (nI j))] → W p l e rm_X12_riskNow s m args below meth c H locs 0 0 Q (F0 m 30 ls []) := by
            intro k_
            induction k_ with
            | zero => intro j ub hm_; exact absurd hm_ (Nat.not_lt_zero _)
            | succ k_ ih_30 =>
              intro j ub hm_ hj hu H locs ls I hl
              refine lv_iload S.1 S.2.1 dX12_riskNow_30 (lv_at hl 4 rfl) ?_
              refine lv_aload_n S.1 S.2.1 dX12_riskNow_32 rfl (lv_at hl 0 rfl) ?_
              refine rg (ci := 12) (q0 := 0) (v := .int (nI (N 6))) 6 S hK I cl_X12 rfl wf_X12_110 (by decide) rfl rfl rfl dX12_riskNow_33 ?_
              refine lv_icmp_ge (tgt := 86) S.1 S.2.1 dX12_riskNow_36 (by decide) (fun c_36 => ?_) (fun c_36 => ?_)
              · skip
                have c_36o := c_36
                have c_36 := nI_cgeT (by omega) (by omega) c_36
                refine lv_iload_n S.1 S.2.1 dX12_riskNow_86 rfl (lv_at hl 1 rfl) ?_
                refine lv_iload_n S.1 S.2.1 dX12_riskNow_87 rfl (lv_at hl 3 rfl) ?_
                refine lv_if_eq (tgt := 102) S.1 S.2.1 dX12_riskNow_88 (by decide) (fun c_88 => ?_) (fun c_88 => ?_)
                · skip
                  have c_88 := bI_f c_88
                  refine lv_aload_n S.1 S.2.1 dX12_riskNow_102 rfl (lv_at hl 0 rfl) ?_
                  refine rg (ci := 12) (q0 := 0) (v := .ref (q 2)) 2 S hK I cl_X12 rfl wf_X12_13 (by decide) rfl rfl rfl dX12_riskNow_103 ?_
                  refine lv_iload_n S.1 S.2.1 dX12_riskNow_106 rfl (lv_at hl 2 rfl) ?_
                  refine ri (q0 := 2) (n := 8) (f := R 2) pa S hK I rfl rfl (by omega) (by decide) dX12_riskNow_107 ?_
                  refine tI (y := nI (wo R pa)) (hPt pa (by omega)).1.1 ?_
                  refine lv_iadd S.1 S.2.1 dX12_riskNow_108 ?_
                  refine tI (y := nI (su + (wo R pa))) (nI_add _ _) ?_
                  refine lv_istore_n (lv' := [(1, .int (nI (su + (wo R pa)))), (0, .ref (q 33)), (2, .int (nI pa)), (3, .int (bI ub)), (4, .int (nI j))]) S.1 S.2.1 dX12_riskNow_109 rfl hl (by decide) rfl (fun ls hl => ?_)
                  refine lv_iinc (v := nI (pa + 1)) (lv' := [(2, .int (nI (pa + 1))), (1, .int (nI (su + (wo R pa)))), (0, .ref (q 33)), (3, .int (bI ub)), (4, .int (nI j))]) S.1 S.2.1 dX12_riskNow_110 hl (k := 2) rfl (nI_1 _) (by decide) rfl (fun ls hl => ?_)
                  refine lv_goto (tgt := 8) S.1 S.2.1 dX12_riskNow_113 (by decide) ?_
                  exact ih_8 (pa + 1) (su + (wo R pa)) (by omega) (by omega) (by rw [fb_sm_succ, ← hsu, rkF, if_pos (by omega), show N 6 = j by omega, ← hu, if_neg (by rw [c_88]; exact Bool.false_ne_true)]) _ _ _ I (lv_sub hl [2, 1, 0] rfl)
                · skip
                  have c_88 := bI_t c_88
                  refine lv_iconst (v := nI 2) S.1 S.2.1 dX12_riskNow_91 (by decide) ?_
                  refine lv_aload_n S.1 S.2.1 dX12_riskNow_92 rfl (lv_at hl 0 rfl) ?_
                  refine rg (ci := 12) (q0 := 0) (v := .ref (q 2)) 2 S hK I cl_X12 rfl wf_X12_13 (by decide) rfl rfl rfl dX12_riskNow_93 ?_
                  refine lv_iload_n S.1 S.2.1 dX12_riskNow_96 rfl (lv_at hl 2 rfl) ?_
                  refine ri (q0 := 2) (n := 8) (f := R 2) pa S hK I rfl rfl (by omega) (by decide) dX12_riskNow_97 ?_
                  refine tI (y := nI (wo R pa)) (hPt pa (by omega)).1.1 ?_
                  refine lv_imul S.1 S.2.1 dX12_riskNow_98 ?_
                  refine tI (y := nI (2 * (wo R pa))) (pk_mul _ _) ?_
                  refine lv_goto (tgt := 108) S.1 S.2.1 dX12_riskNow_99 (by decide) ?_
                  refine lv_iadd S.1 S.2.1 dX12_riskNow_108 ?_
                  refine tI (y := nI (su + (2 * (wo R pa)))) (nI_add _ _) ?_
                  refine lv_istore_n (lv' := [(1, .int (nI (su + (2 * (wo R pa))))), (0, .ref (q 33)), (2, .int (nI pa)), (3, .int (bI ub)), (4, .int (nI j))]) S.1 S.2.1 dX12_riskNow_109 rfl hl (by decide) rfl (fun ls hl => ?_)
                  refine lv_iinc (v := nI (pa + 1)) (lv' := [(2, .int (nI (pa + 1))), (1, .int (nI (su + (2 * (wo R pa))))), (0, .ref (q 33)), (3, .int (bI ub)), (4, .int (nI j))]) S.1 S.2.1 dX12_riskNow_110 hl (k := 2) rfl (nI_1 _) (by decide) rfl (fun ls hl => ?_)
                  refine lv_goto (tgt := 8) S.1 S.2.1 dX12_riskNow_113 (by decide) ?_
                  exact ih_8 (pa + 1) (su + (2 * (wo R pa))) (by omega) (by omega) (by rw [fb_sm_succ, ← hsu, rkF, if_pos (by omega), show N 6 = j by omega, ← hu, if_pos c_88]) _ _ _ I (lv_sub hl [2, 1, 0] rfl)
              · skip
                have c_36o := c_36
                have c_36 := nI_cgeF (by omega) (by omega) c_36
                refine lv_iload_n S.1 S.2.1 dX12_riskNow_39 rfl (lv_at hl 3 rfl) ?_
                refine lv_if_ne (tgt := 74) S.1 S.2.1 dX12_riskNow_40 (by decide) (fun c_40 => ?_) (fun c_40 => ?_)
                · skip
                  have c_40 := bI_t c_40
                  refine lv_iconst (v := nI 1) S.1 S.2.1 dX12_riskNow_74 (by decide) ?_
                  refine tI (y := bI true) rfl ?_
                  refine lv_goto (tgt := 79) S.1 S.2.1 dX12_riskNow_75 (by decide) ?_
                  refine lv_istore_n (lv' := [(3, .int (bI true)), (0, .ref (q 33)), (1, .int (nI su)), (2, .int (nI pa)), (4, .int (nI j))]) S.1 S.2.1 dX12_riskNow_79 rfl hl (by decide) rfl (fun ls hl => ?_)
                  refine lv_iinc (v := nI (j + 1)) (lv' := [(4, .int (nI (j + 1))), (3, .int (bI true)), (0, .ref (q 33)), (1, .int (nI su)), (2, .int (nI pa))]) S.1 S.2.1 dX12_riskNow_80 hl (k := 4) rfl (nI_1 _) (by decide) rfl (fun ls hl => ?_)
                  refine lv_goto (tgt := 30) S.1 S.2.1 dX12_riskNow_83 (by decide) ?_
                  exact ih_30 (j + 1) true (by omega) (by omega) (by rw [usF, ← hu]; simp [c_40]) _ _ _ I (lv_sub hl [2, 3, 4, 1, 0] rfl)
                · skip
                  have c_40 := bI_f c_40
                  refine lv_aload_n S.1 S.2.1 dX12_riskNow_43 rfl (lv_at hl 0 rfl) ?_
                  refine rg (ci := 12) (q0 := 0) (v := .ref (q 8)) 8 S hK I cl_X12 rfl wf_X12_29 (by decide) rfl rfl rfl dX12_riskNow_44 ?_
                  refine lv_iload S.1 S.2.1 dX12_riskNow_47 (lv_at hl 4 rfl) ?_
                  have hwb := (hH j (by omega)).2.1
                  have hkb := (hH j (by omega)).2.2.2.1
                  refine ri (q0 := 7) (n := 12) (f := R 8) j S hK I rfl rfl (by omega) (by decide) dX12_riskNow_49 ?_
                  refine tI (y := nI (wh R j)) (hH j (by omega)).1 ?_
                  refine lv_iload_n S.1 S.2.1 dX12_riskNow_50 rfl (lv_at hl 2 rfl) ?_
                  refine lv_icmp_ne (tgt := 78) S.1 S.2.1 dX12_riskNow_51 (by decide) (fun c_51 => ?_) (fun c_51 => ?_)
                  · skip
                    have c_51o := c_51
                    have c_51 := nI_cneT (by omega) (by omega) c_51
                    refine lv_iconst (v := nI 0) S.1 S.2.1 dX12_riskNow_78 (by decide) ?_
                    refine tI (y := bI false) rfl ?_
                    refine lv_istore_n (lv' := [(3, .int (bI false)), (0, .ref (q 33)), (1, .int (nI su)), (2, .int (nI pa)), (4, .int (nI j))]) S.1 S.2.1 dX12_riskNow_79 rfl hl (by decide) rfl (fun ls hl => ?_)
                    refine lv_iinc (v := nI (j + 1)) (lv' := [(4, .int (nI (j + 1))), (3, .int (bI false)), (0, .ref (q 33)), (1, .int (nI su)), (2, .int (nI pa))]) S.1 S.2.1 dX12_riskNow_80 hl (k := 4) rfl (nI_1 _) (by decide) rfl (fun ls hl => ?_)
                    refine lv_goto (tgt := 30) S.1 S.2.1 dX12_riskNow_83 (by decide) ?_
                    exact ih_30 (j + 1) false (by omega) (by omega) (by rw [usF, ← hu]; simp [c_40, c_51]) _ _ _ I (lv_sub hl [2, 3, 4, 1, 0] rfl)
                  · skip
                    have c_51o := c_51
                    have c_51 := nI_cneF (by omega) (by omega) c_51
                    refine lv_aload_n S.1 S.2.1 dX12_riskNow_54 rfl (lv_at hl 0 rfl) ?_
                    refine rg (ci := 12) (q0 := 0) (v := .ref (q 7)) 7 S hK I cl_X12 rfl wf_X12_26 (by decide) rfl rfl rfl dX12_riskNow_55 ?_
                    refine lv_iload S.1 S.2.1 dX12_riskNow_58 (lv_at hl 4 rfl) ?_
                    refine ri (q0 := 6) (n := 12) (f := R 7) j S hK I rfl rfl (by omega) (by decide) dX12_riskNow_60 ?_
                    refine tI (y := nI (kd R j)) (hH j (by omega)).2.2.1 ?_
                    refine lv_iconst (v := nI 3) S.1 S.2.1 dX12_riskNow_61 (by decide) ?_
                    refine lv_icmp_ne (tgt := 78) S.1 S.2.1 dX12_riskNow_62 (by decide) (fun c_62 => ?_) (fun c_62 => ?_)
                    · skip
                      have c_62o := c_62
                      have c_62 := nI_cneT (by omega) (by omega) c_62
                      refine lv_iconst (v := nI 0) S.1 S.2.1 dX12_riskNow_78 (by decide) ?_
                      refine tI (y := bI false) rfl ?_
                      refine lv_istore_n (lv' := [(3, .int (bI false)), (0, .ref (q 33)), (1, .int (nI su)), (2, .int (nI pa)), (4, .int (nI j))]) S.1 S.2.1 dX12_riskNow_79 rfl hl (by decide) rfl (fun ls hl => ?_)
                      refine lv_iinc (v := nI (j + 1)) (lv' := [(4, .int (nI (j + 1))), (3, .int (bI false)), (0, .ref (q 33)), (1, .int (nI su)), (2, .int (nI pa))]) S.1 S.2.1 dX12_riskNow_80 hl (k := 4) rfl (nI_1 _) (by decide) rfl (fun ls hl => ?_)
                      refine lv_goto (tgt := 30) S.1 S.2.1 dX12_riskNow_83 (by decide) ?_
                      exact ih_30 (j + 1) false (by omega) (by omega) (by rw [usF, ← hu]; simp [c_40, c_51, c_62]) _ _ _ I (lv_sub hl [2, 3, 4, 1, 0] rfl)
                    · skip
                      have c_62o := c_62
                      have c_62 := nI_cneF (by omega) (by omega) c_62
                      refine lv_aload_n S.1 S.2.1 dX12_riskNow_65 rfl (lv_at hl 0 rfl) ?_
                      refine lv_iload S.1 S.2.1 dX12_riskNow_66 (lv_at hl 4 rfl) ?_
                      refine cV (np := 1) (ci := 12) (q0 := 0) (As := [.int (nI j)]) (rest := []) S (c_stands l D cy q N R (va_up (va_up (va_up X 14 a14_1) 15 a15_1) 16 a16_1) j hW (by omega)) hK hA I wm_X12_126 wi_X12_stands ws_X12_X12_stands wn_X12 wk_X12_stands ⟨rfl, hd_X12_stands⟩ rfl ⟨by decide, by decide⟩ rfl rfl hl.1 rfl (Nat.le_of_ble_eq_true rfl) dX12_riskNow_68 ⟨by decide, by decide⟩ (fun v_ u_ H locs h_ I => ?_)
                      obtain rfl := h_
                      have I : IX D A s.heap (wM cy q N R (va_up (va_up (va_up X 14 a14_1) 15 a15_1) 16 a16_1)) H locs := I
                      refine W.eq (g2 := F0 m 71 ls [.int (bI (stB R (X 13) j))]) rfl ?_
                      refine lv_if_eq (tgt := 78) S.1 S.2.1 dX12_riskNow_71 (by decide) (fun c_71 => ?_) (fun c_71 => ?_)
                      · skip
                        have c_71 := bI_f c_71
                        refine lv_iconst (v := nI 0) S.1 S.2.1 dX12_riskNow_78 (by decide) ?_
                        refine tI (y := bI false) rfl ?_
                        refine lv_istore_n (lv' := [(3, .int (bI false)), (0, .ref (q 33)), (1, .int (nI su)), (2, .int (nI pa)), (4, .int (nI j))]) S.1 S.2.1 dX12_riskNow_79 rfl hl (by decide) rfl (fun ls hl => ?_)
                        refine lv_iinc (v := nI (j + 1)) (lv' := [(4, .int (nI (j + 1))), (3, .int (bI false)), (0, .ref (q 33)), (1, .int (nI su)), (2, .int (nI pa))]) S.1 S.2.1 dX12_riskNow_80 hl (k := 4) rfl (nI_1 _) (by decide) rfl (fun ls hl => ?_)
                        refine lv_goto (tgt := 30) S.1 S.2.1 dX12_riskNow_83 (by decide) ?_
                        exact ih_30 (j + 1) false (by omega) (by omega) (by rw [usF, ← hu]; simp [c_40, c_51, c_62, c_71]) _ _ _ I (lv_sub hl [2, 3, 4, 1, 0] rfl)
                      · skip
                        have c_71 := bI_t c_71
                        refine lv_iconst (v := nI 1) S.1 S.2.1 dX12_riskNow_74 (by decide) ?_
                        refine tI (y := bI true) rfl ?_
                        refine lv_goto (tgt := 79) S.1 S.2.1 dX12_riskNow_75 (by decide) ?_
                        refine lv_istore_n (lv' := [(3, .int (bI true)), (0, .ref (q 33)), (1, .int (nI su)), (2, .int (nI pa)), (4, .int (nI j))]) S.1 S.2.1 dX12_riskNow_79 rfl hl (by decide) rfl (fun ls hl => ?_)
                        refine lv_iinc (v := nI (j + 1)) (lv' := [(4, .int (nI (j + 1))), (3, .int (bI true)), (0, .ref (q 33)), (1, .int (nI su)), (2, .int (nI pa))]) S.1 S.2.1 dX12_riskNow_80 hl (k := 4) rfl (nI_1 _) (by decide) rfl (fun ls hl => ?_)
                        refine lv_goto (tgt := 30) S.1 S.2.1 dX12_riskNow_83 (by decide) ?_
                        exact ih_30 (j + 1) true (by omega) (by omega) (by rw [usF, ← hu]; simp [c_40, c_51, c_62, c_71]) _ _ _ I (lv_sub hl [2, 3, 4, 1, 0] rfl)
          exact loop_30 _ 0 false (Nat.lt_succ_self _) (Nat.zero_le _) rfl _ _ _ I (lv_sub hl [2, 3, 4, 1, 0] rfl)
  exact loop_8 _ 0 0 (Nat.lt_succ_self _) (Nat.zero_le _) rfl _ _ _ I (lv_sub hl [2, 1, 0] rfl)
set_option maxHeartbeats 4000000 in
set_option maxRecDepth 100000 in
theorem c_riskOf (l : Launch) (D : va_G) (cy : Nat → ClassId) (q : Nat → Nat) (N : Nat → Nat) (R X : Nat → Nat → Int32) (d : Nat) (hW : WFm N R) (hd : d < 2147483648) : MS (α := (Nat → Int32) × (Nat → Int32) × (Nat → Int32) × (Nat → Int32)) l D cy yX12_riskOf cX12_riskOf 2 (Option.some FieldType.int) rm_X12_riskOf [.ref (q 33), .int (nI d)] (wM cy q N R X) (fun v_ u_ => v_ = some (.int (nI (rsk N R (vtF R d (N 17))))) ∧ (∀ p, p < N 0 → u_.1 p = vtF R d (N 17) p) ∧ RowS N R (vtF R d (N 17)) (eS N R (vtF R d (N 17))) u_.2.1 u_.2.2.1 u_.2.2.2) (fun u_ => wM cy q N R (va_up (va_up (va_up (va_up X 13 u_.1) 14 u_.2.1) 15 u_.2.2.1) 16 u_.2.2.2)) := by
  refine MS.mk2 (by decide) (Nat.le_of_ble_eq_true rfl) [(0, .ref (q 33)), (1, .int (nI d))] rfl ?_
  intro p e s m args below meth c A ls Q hQ S hr hlk hnm hK hA I hl
  have hW0 := hW
  obtain ⟨hB, hPt, hBo, hH, hM, hQu⟩ := hW0
  have hB0 := hB
  obtain ⟨b0, b6, b17, b24, b30⟩ := hB0
  refine lv_aload_n S.1 S.2.1 dX12_riskOf_0 rfl (lv_at hl 0 rfl) ?_
  refine lv_iload_n S.1 S.2.1 dX12_riskOf_1 rfl (lv_at hl 1 rfl) ?_
  refine cV (np := 1) (ci := 12) (q0 := 0) (As := [.int (nI d)]) (rest := []) S (c_takeVersions l D cy q N R X d hW hd) hK hA I wm_X12_140 wi_X12_takeVersions ws_X12_X12_takeVersions wn_X12 wk_X12_takeVersions ⟨rfl, hd_X12_takeVersions⟩ rfl ⟨by decide, by decide⟩ rfl rfl hl.1 rfl (Nat.le_of_ble_eq_true rfl) dX12_riskOf_2 ⟨by decide, by decide⟩ (fun v_ u_ H locs h_ I => ?_)
  obtain ⟨rfl, hnw_2⟩ := h_
  generalize u_ = nw_2 at hnw_2 I
  have hnw_2 : ∀ p, p < N 0 → nw_2 p = vtF R d (N 17) p := hnw_2
  have I : IX D A s.heap (wM cy q N R (va_up X 13 nw_2)) H locs := I
  refine W.eq (g2 := F0 m 5 ls []) rfl ?_
  refine lv_aload_n S.1 S.2.1 dX12_riskOf_5 rfl (lv_at hl 0 rfl) ?_
  refine cV (np := 0) (ci := 12) (q0 := 0) (As := []) (rest := []) S (c_riskNow l D cy q N R (va_up X 13 nw_2) hW) hK hA I wm_X12_144 wi_X12_riskNow ws_X12_X12_riskNow wn_X12 wk_X12_riskNow ⟨rfl, hd_X12_riskNow⟩ rfl ⟨by decide, by decide⟩ rfl rfl hl.1 rfl (Nat.le_of_ble_eq_true rfl) dX12_riskOf_6 ⟨by decide, by decide⟩ (fun v_ u_ H locs h_ I => ?_)
  obtain ⟨rfl, hr_6⟩ := h_
  obtain ⟨a14_6, a15_6, a16_6⟩ := u_
  have hr_6 : RowS N R nw_2 (eS N R nw_2) a14_6 a15_6 a16_6 := hr_6
  have I : IX D A s.heap (wM cy q N R (va_up (va_up (va_up (va_up X 13 nw_2) 14 a14_6) 15 a15_6) 16 a16_6)) H locs := I
  refine W.eq (g2 := F0 m 9 ls [.int (nI (rsk N R nw_2))]) rfl ?_
  exact ru_i hQ S hr hlk (u := (nw_2, a14_6, a15_6, a16_6)) I (⟨by rw [rsk_cg hH hnw_2], hnw_2, RowS_cg hH hnw_2 (by rw [eS, ← stF_cg hH hnw_2]; exact hr_6)⟩) dX12_riskOf_9
