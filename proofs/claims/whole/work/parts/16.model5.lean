theorem pf_row {N : Nat → Nat} {R : Nat → Nat → Int32} {w : Nat} {hn : Int32} {rs : Nat → Int32} {d n : Nat} {r28 r29 k29 : Nat → Int32} {be : Int32} (hd : d < n) (h : ∀ z, z < d → r28 (256 * w + z) = (bsF N R w hn rs z n).1 ∧ (¬ (bsF N R w hn rs z n).1 < 0 → r29 (256 * w + z) = nI (bsF N R w hn rs z n).2)) (e1 : be = (bsF N R w hn rs d n).1) (e2 : ¬ (bsF N R w hn rs d n).1 < 0 → k29 (256 * w + d) = nI (bsF N R w hn rs d n).2) (hk : ∀ i, i ≠ 256 * w + d → k29 i = r29 i) : ∀ z, z < d + 1 → upd r28 (256 * w + d) be (256 * w + z) = (bsF N R w hn rs z n).1 ∧ (¬ (bsF N R w hn rs z n).1 < 0 → k29 (256 * w + z) = nI (bsF N R w hn rs z n).2) := by
  intro z hz
  by_cases e : z = d
  · subst e
    rw [pk_us]
    exact ⟨e1, e2⟩
  · rw [pk_un (by omega), hk _ (by omega)]
    exact h z (by omega)
set_option maxHeartbeats 4000000 in
set_option maxRecDepth 100000 in
theorem c_week (l : Launch) (D : va_G) (cy : Nat → ClassId) (q : Nat → Nat) (N : Nat → Nat) (R X : Nat → Nat → Int32) (x : Int32) (hW : WFm N R) : MS (α := (Nat → Nat → Int32)) l D cy yX12_week cX12_week 2 (Option.some FieldType.int) rm_X12_week [.ref (q 33), .int x] (wM cy q N R X) (fun v_ (_ : (Nat → Nat → Int32)) => v_ = some (.int (sp_week N R x))) (fun u_ => wM cy q N R u_) := by
  refine MS.mk2 (by decide) (Nat.le_of_ble_eq_true rfl) [(0, .ref (q 33)), (1, .int x)] rfl ?_
  intro p e s m args below meth c A ls Q hQ S hr hlk hnm hK hA I hl
  have hW0 := hW
  obtain ⟨hB, hPt, hBo, hH, hM, hQu⟩ := hW0
  have hB0 := hB
  obtain ⟨b0, b6, b17, b24, b30⟩ := hB0
  refine lv_aload_n S.1 S.2.1 dX12_week_0 rfl (lv_at hl 0 rfl) ?_
  refine lv_iload_n S.1 S.2.1 dX12_week_1 rfl (lv_at hl 1 rfl) ?_
  refine cV (np := 1) (ci := 12) (q0 := 0) (As := [.int x]) (rest := []) S (c_isMend l D cy q N R X (x) hB) hK hA I wm_X12_165 wi_X12_isMend ws_X12_X12_isMend wn_X12 wk_X12_isMend ⟨rfl, hd_X12_isMend⟩ rfl ⟨by decide, by decide⟩ rfl rfl hl.1 rfl (Nat.le_of_ble_eq_true rfl) dX12_week_2 ⟨by decide, by decide⟩ (fun v_ u_ H locs h_ I => ?_)
  obtain rfl := h_
  have I : IX D A s.heap (wM cy q N R X) H locs := I
  refine W.eq (g2 := F0 m 5 ls [.int (bI (isP (N 17) x))]) rfl ?_
  refine lv_if_ne (tgt := 12) S.1 S.2.1 dX12_week_5 (by decide) (fun c_5 => ?_) (fun c_5 => ?_)
  · skip
    have c_5 := bI_t c_5
    obtain ⟨j, h_j, rfl⟩ := isP_of c_5 (by omega)
    have e_j : (nI j).toNatClampNeg = j := nI_clamp (by omega)
    refine lv_aload_n S.1 S.2.1 dX12_week_12 rfl (lv_at hl 0 rfl) ?_
    refine rg (ci := 12) (q0 := 0) (v := .int (nI (N 30))) 30 S hK I cl_X12 rfl wf_X12_176 (by decide) rfl rfl rfl dX12_week_13 ?_
    refine lv_if_ne (tgt := 24) S.1 S.2.1 dX12_week_16 (by decide) (fun c_16 => ?_) (fun c_16 => ?_)
    · skip
      have c_16o := c_16
      have c_16 := nI_zneT (by omega) c_16
      refine lv_aload_n S.1 S.2.1 dX12_week_24 rfl (lv_at hl 0 rfl) ?_
      refine rg (ci := 12) (q0 := 0) (v := .ref (q 31)) 31 S hK I cl_X12 rfl wf_X12_89 (by decide) rfl rfl rfl dX12_week_25 ?_
      refine lv_iload_n S.1 S.2.1 dX12_week_28 rfl (lv_at hl 1 rfl) ?_
      refine ri (q0 := 27) (n := 8) (f := R 31) j S hK I rfl rfl (by omega) (by decide) dX12_week_29 ?_
      exact ru_i hQ S hr hlk (u := X) I (by simp [sp_week, c_5, e_j, c_16o, c_16]) dX12_week_30
    · skip
      have c_16o := c_16
      have c_16 := nI_zneF (by omega) c_16
      refine lv_bipush (v := (-4)) S.1 S.2.1 dX12_week_19 (by decide) ?_
      refine lv_goto (tgt := 30) S.1 S.2.1 dX12_week_21 (by decide) ?_
      exact ru_i hQ S hr hlk (u := X) I (by simp [sp_week, c_5, e_j, c_16o, c_16]) dX12_week_30
  · skip
    have c_5 := bI_f c_5
    refine lv_iconst (v := (-1)) S.1 S.2.1 dX12_week_8 (by decide) ?_
    refine lv_goto (tgt := 30) S.1 S.2.1 dX12_week_9 (by decide) ?_
    exact ru_i hQ S hr hlk (u := X) I (by simp [sp_week, c_5]) dX12_week_30
set_option maxHeartbeats 4000000 in
set_option maxRecDepth 100000 in
theorem c_moved (l : Launch) (D : va_G) (cy : Nat → ClassId) (q : Nat → Nat) (N : Nat → Nat) (R X : Nat → Nat → Int32) (hW : WFm N R) : MS (α := (Nat → Nat → Int32)) l D cy yX12_moved cX12_moved 3 (Option.some FieldType.int) rm_X12_moved [.ref (q 33)] (wM cy q N R X) (fun v_ (_ : (Nat → Nat → Int32)) => v_ = some (.int (sp_moved N R))) (fun u_ => wM cy q N R u_) := by
  refine MS.mk2 (by decide) (Nat.le_of_ble_eq_true rfl) [(0, .ref (q 33))] rfl ?_
  intro p e s m args below meth c A ls Q hQ S hr hlk hnm hK hA I hl
  have hW0 := hW
  obtain ⟨hB, hPt, hBo, hH, hM, hQu⟩ := hW0
  have hB0 := hB
  obtain ⟨b0, b6, b17, b24, b30⟩ := hB0
  refine lv_aload_n S.1 S.2.1 dX12_moved_0 rfl (lv_at hl 0 rfl) ?_
  refine rg (ci := 12) (q0 := 0) (v := .int (nI (N 30))) 30 S hK I cl_X12 rfl wf_X12_176 (by decide) rfl rfl rfl dX12_moved_1 ?_
  refine lv_iconst (v := nI 2) S.1 S.2.1 dX12_moved_4 (by decide) ?_
  refine lv_icmp_ge (tgt := 11) S.1 S.2.1 dX12_moved_5 (by decide) (fun c_5 => ?_) (fun c_5 => ?_)
  · skip
    have c_5o := c_5
    have c_5 := nI_cgeT (by omega) (by omega) c_5
    refine lv_iconst (v := nI 0) S.1 S.2.1 dX12_moved_11 (by decide) ?_
    refine lv_istore_n (lv' := [(1, .int (nI 0)), (0, .ref (q 33))]) S.1 S.2.1 dX12_moved_12 rfl hl (by decide) rfl (fun ls hl => ?_)
    refine lv_iconst (v := nI 0) S.1 S.2.1 dX12_moved_13 (by decide) ?_
    refine lv_istore_n (lv' := [(2, .int (nI 0)), (1, .int (nI 0)), (0, .ref (q 33))]) S.1 S.2.1 dX12_moved_14 rfl hl (by decide) rfl (fun ls hl => ?_)
    have loop_15 : ∀ (k_ : Nat) (k2 : Nat) (bi : Nat), 8 - k2 < k_ → k2 ≤ 8 → bi = msk (mvB R) k2 → ∀ (H : Heap) (locs : List Loc) (ls : Array Slot), IX D A s.heap (wM cy q N R X) H locs → lv_has ls 3 [(0, .ref (q 33)), (1, .int (nI bi)), (2, .int (nI k2))] → W p l e rm_X12_moved s m args below meth c H locs 0 0 Q (F0 m 15 ls []) := by
      intro k_
      induction k_ with
      | zero => intro k2 bi hm_; exact absurd hm_ (Nat.not_lt_zero _)
      | succ k_ ih_15 =>
        intro k2 bi hm_ hk2 hb H locs ls I hl
        refine lv_iload_n S.1 S.2.1 dX12_moved_15 rfl (lv_at hl 2 rfl) ?_
        refine lv_bipush (v := nI 8) S.1 S.2.1 dX12_moved_16 (by decide) ?_
        refine lv_icmp_ge (tgt := 52) S.1 S.2.1 dX12_moved_18 (by decide) (fun c_18 => ?_) (fun c_18 => ?_)
        · skip
          have c_18o := c_18
          have c_18 := nI_cgeT (by omega) (by omega) c_18
          refine lv_iload_n S.1 S.2.1 dX12_moved_52 rfl (lv_at hl 1 rfl) ?_
          exact ru_i hQ S hr hlk (u := X) I (congrArg (fun z => some (Value.int z)) (by rw [sp_moved, if_neg (by omega), hb, show k2 = 8 by omega])) dX12_moved_53
        · skip
          have c_18o := c_18
          have c_18 := nI_cgeF (by omega) (by omega) c_18
          refine lv_iload_n S.1 S.2.1 dX12_moved_21 rfl (lv_at hl 1 rfl) ?_
          refine lv_aload_n S.1 S.2.1 dX12_moved_22 rfl (lv_at hl 0 rfl) ?_
          refine rg (ci := 12) (q0 := 0) (v := .ref (q 31)) 31 S hK I cl_X12 rfl wf_X12_89 (by decide) rfl rfl rfl dX12_moved_23 ?_
          refine lv_iload_n S.1 S.2.1 dX12_moved_26 rfl (lv_at hl 2 rfl) ?_
          refine ri (q0 := 27) (n := 8) (f := R 31) k2 S hK I rfl rfl (by omega) (by decide) dX12_moved_27 ?_
          refine lv_aload_n S.1 S.2.1 dX12_moved_28 rfl (lv_at hl 0 rfl) ?_
          refine rg (ci := 12) (q0 := 0) (v := .ref (q 32)) 32 S hK I cl_X12 rfl wf_X12_92 (by decide) rfl rfl rfl dX12_moved_29 ?_
          refine lv_iload_n S.1 S.2.1 dX12_moved_32 rfl (lv_at hl 2 rfl) ?_
          refine ri (q0 := 28) (n := 8) (f := R 32) k2 S hK I rfl rfl (by omega) (by decide) dX12_moved_33 ?_
          refine lv_icmp_ne (tgt := 41) S.1 S.2.1 dX12_moved_34 (by decide) (fun c_34 => ?_) (fun c_34 => ?_)
          · skip
            refine lv_iconst (v := nI 1) S.1 S.2.1 dX12_moved_41 (by decide) ?_
            refine lv_iload_n S.1 S.2.1 dX12_moved_42 rfl (lv_at hl 2 rfl) ?_
            refine lv_ishl S.1 S.2.1 dX12_moved_43 ?_
            refine tI (y := nI (2 ^ k2)) (bitS (by omega)) ?_
            refine lv_ior S.1 S.2.1 dX12_moved_44 ?_
            refine tI (y := nI (bi ||| (2 ^ k2))) (fa_or _ _) ?_
            refine lv_istore_n (lv' := [(1, .int (nI (bi ||| (2 ^ k2)))), (0, .ref (q 33)), (2, .int (nI k2))]) S.1 S.2.1 dX12_moved_45 rfl hl (by decide) rfl (fun ls hl => ?_)
            refine lv_iinc (v := nI (k2 + 1)) (lv' := [(2, .int (nI (k2 + 1))), (1, .int (nI (bi ||| (2 ^ k2)))), (0, .ref (q 33))]) S.1 S.2.1 dX12_moved_46 hl (k := 2) rfl (nI_1 _) (by decide) rfl (fun ls hl => ?_)
            refine lv_goto (tgt := 15) S.1 S.2.1 dX12_moved_49 (by decide) ?_
            exact ih_15 (k2 + 1) (bi ||| (2 ^ k2)) (by omega) (by omega) (by rw [msk, ← hb, mvB, decide_eq_true c_34, if_pos rfl]) _ _ _ I (lv_sub hl [2, 1, 0] rfl)
          · skip
            refine lv_iconst (v := nI 0) S.1 S.2.1 dX12_moved_37 (by decide) ?_
            refine lv_goto (tgt := 44) S.1 S.2.1 dX12_moved_38 (by decide) ?_
            refine lv_ior S.1 S.2.1 dX12_moved_44 ?_
            refine tI (y := nI (bi ||| 0)) (fa_or _ _) ?_
            refine lv_istore_n (lv' := [(1, .int (nI (bi ||| 0))), (0, .ref (q 33)), (2, .int (nI k2))]) S.1 S.2.1 dX12_moved_45 rfl hl (by decide) rfl (fun ls hl => ?_)
            refine lv_iinc (v := nI (k2 + 1)) (lv' := [(2, .int (nI (k2 + 1))), (1, .int (nI (bi ||| 0))), (0, .ref (q 33))]) S.1 S.2.1 dX12_moved_46 hl (k := 2) rfl (nI_1 _) (by decide) rfl (fun ls hl => ?_)
            refine lv_goto (tgt := 15) S.1 S.2.1 dX12_moved_49 (by decide) ?_
            exact ih_15 (k2 + 1) (bi ||| 0) (by omega) (by omega) (by rw [msk, ← hb, mvB, decide_eq_false (fun h => h c_34), if_neg Bool.false_ne_true]) _ _ _ I (lv_sub hl [2, 1, 0] rfl)
    exact loop_15 _ 0 0 (Nat.lt_succ_self _) (Nat.zero_le _) rfl _ _ _ I (lv_sub hl [2, 1, 0] rfl)
  · skip
    have c_5o := c_5
    have c_5 := nI_cgeF (by omega) (by omega) c_5
    refine lv_bipush (v := (-4)) S.1 S.2.1 dX12_moved_8 (by decide) ?_
    exact ru_i hQ S hr hlk (u := X) I (congrArg (fun z => some (Value.int z)) (by rw [sp_moved, if_pos (by omega)])) dX12_moved_10
set_option maxHeartbeats 4000000 in
set_option maxRecDepth 100000 in
theorem c_count (l : Launch) (D : va_G) (cy : Nat → ClassId) (q : Nat → Nat) (N : Nat → Nat) (R X : Nat → Nat → Int32) (w : Int32) (hW : WFm N R) : MS (α := (Nat → Nat → Int32)) l D cy yX12_count cX12_count 5 (Option.some FieldType.int) rm_X12_count [.ref (q 33), .int w] (wM cy q N R X) (fun v_ (_ : (Nat → Nat → Int32)) => v_ = some (.int (sp_count N R w))) (fun u_ => wM cy q N R u_) := by
  refine MS.mk2 (by decide) (Nat.le_of_ble_eq_true rfl) [(0, .ref (q 33)), (1, .int w)] rfl ?_
  intro p e s m args below meth c A ls Q hQ S hr hlk hnm hK hA I hl
  have hW0 := hW
  obtain ⟨hB, hPt, hBo, hH, hM, hQu⟩ := hW0
  have hB0 := hB
  obtain ⟨b0, b6, b17, b24, b30⟩ := hB0
  refine lv_iconst (v := nI 0) S.1 S.2.1 dX12_count_0 (by decide) ?_
  refine lv_istore_n (lv' := [(2, .int (nI 0)), (0, .ref (q 33)), (1, .int w)]) S.1 S.2.1 dX12_count_1 rfl hl (by decide) rfl (fun ls hl => ?_)
  refine lv_iload_n S.1 S.2.1 dX12_count_2 rfl (lv_at hl 2 rfl) ?_
  rcases sw_6 w with hsw | hsw | hsw | hsw | hsw | hsw | hsw
  · skip
    refine lv_tableIn (off := 37) (tgt := 40) S.1 S.2.1 dX12_count_3 (by rw [hsw]; decide) (by rw [hsw]; decide) (by rw [hsw]; rfl) (by decide) ?_
    refine lv_aload_n S.1 S.2.1 dX12_count_40 rfl (lv_at hl 1 rfl) ?_
    refine rg (ci := 12) (q0 := 0) (v := .int (nI (N 0))) 0 S hK I cl_X12 rfl wf_X12_95 (by decide) rfl rfl rfl dX12_count_41 ?_
    exact ru_i hQ S hr hlk (u := X) I (congrArg (fun z => some (Value.int z)) (by simp [sp_count, hsw])) dX12_count_44
  · skip
    refine lv_tableIn (off := 42) (tgt := 45) S.1 S.2.1 dX12_count_3 (by rw [hsw]; decide) (by rw [hsw]; decide) (by rw [hsw]; rfl) (by decide) ?_
    refine lv_aload_n S.1 S.2.1 dX12_count_45 rfl (lv_at hl 1 rfl) ?_
    refine rg (ci := 12) (q0 := 0) (v := .int (nI (N 6))) 6 S hK I cl_X12 rfl wf_X12_110 (by decide) rfl rfl rfl dX12_count_46 ?_
    exact ru_i hQ S hr hlk (u := X) I (congrArg (fun z => some (Value.int z)) (by simp [sp_count, hsw])) dX12_count_49
  · skip
    refine lv_tableIn (off := 47) (tgt := 50) S.1 S.2.1 dX12_count_3 (by rw [hsw]; decide) (by rw [hsw]; decide) (by rw [hsw]; rfl) (by decide) ?_
    refine lv_aload_n S.1 S.2.1 dX12_count_50 rfl (lv_at hl 1 rfl) ?_
    refine rg (ci := 12) (q0 := 0) (v := .int (nI (N 17))) 17 S hK I cl_X12 rfl wf_X12_123 (by decide) rfl rfl rfl dX12_count_51 ?_
    exact ru_i hQ S hr hlk (u := X) I (congrArg (fun z => some (Value.int z)) (by simp [sp_count, hsw])) dX12_count_54
  · skip
    refine lv_tableIn (off := 52) (tgt := 55) S.1 S.2.1 dX12_count_3 (by rw [hsw]; decide) (by rw [hsw]; decide) (by rw [hsw]; rfl) (by decide) ?_
    refine lv_aload_n S.1 S.2.1 dX12_count_55 rfl (lv_at hl 1 rfl) ?_
    refine rg (ci := 12) (q0 := 0) (v := .int (nI (N 24))) 24 S hK I cl_X12 rfl wf_X12_152 (by decide) rfl rfl rfl dX12_count_56 ?_
    exact ru_i hQ S hr hlk (u := X) I (congrArg (fun z => some (Value.int z)) (by simp [sp_count, hsw])) dX12_count_59
  · skip
    refine lv_tableIn (off := 57) (tgt := 60) S.1 S.2.1 dX12_count_3 (by rw [hsw]; decide) (by rw [hsw]; decide) (by rw [hsw]; rfl) (by decide) ?_
    refine lv_aload_n S.1 S.2.1 dX12_count_60 rfl (lv_at hl 1 rfl) ?_
    refine lv_iconst (v := nI 0) S.1 S.2.1 dX12_count_61 (by decide) ?_
    refine cV (np := 1) (ci := 12) (q0 := 0) (As := [.int (nI 0)]) (rest := []) S (c_takeVersions l D cy q N R X 0 hW (by omega)) hK hA I wm_X12_140 wi_X12_takeVersions ws_X12_X12_takeVersions wn_X12 wk_X12_takeVersions ⟨rfl, hd_X12_takeVersions⟩ rfl ⟨by decide, by decide⟩ rfl rfl hl.1 rfl (Nat.le_of_ble_eq_true rfl) dX12_count_62 ⟨by decide, by decide⟩ (fun v_ u_ H locs h_ I => ?_)
    obtain ⟨rfl, hnw_62⟩ := h_
    generalize u_ = nw_62 at hnw_62 I
    have hnw_62 : ∀ p, p < N 0 → nw_62 p = vtF R 0 (N 17) p := hnw_62
    have I : IX D A s.heap (wM cy q N R (va_up X 13 nw_62)) H locs := I
    refine W.eq (g2 := F0 m 65 ls []) rfl ?_
    refine lv_iconst (v := nI 0) S.1 S.2.1 dX12_count_65 (by decide) ?_
    refine lv_istore_n (lv' := [(3, .int (nI 0)), (2, .int (nI 0)), (0, .ref (q 33)), (1, .int w)]) S.1 S.2.1 dX12_count_66 rfl hl (by decide) rfl (fun ls hl => ?_)
    have loop_67 : ∀ (k_ : Nat) (h2 : Nat) (n2 : Nat), N 6 - h2 < k_ → h2 ≤ N 6 → n2 = fb_ct (stB R (R 1)) h2 → ∀ (H : Heap) (locs : List Loc) (ls : Array Slot), IX D A s.heap (wM cy q N R (va_up X 13 nw_62)) H locs → lv_has ls 5 [(0, .ref (q 33)), (1, .int w), (2, .int (nI n2)), (3, .int (nI h2))] → W p l e rm_X12_count s m args below meth c H locs 0 0 Q (F0 m 67 ls []) := by
      intro k_
      induction k_ with
      | zero => intro h2 n2 hm_; exact absurd hm_ (Nat.not_lt_zero _)
      | succ k_ ih_67 =>
        intro h2 n2 hm_ hh2 hn2 H locs ls I hl
        refine lv_iload_n S.1 S.2.1 dX12_count_67 rfl (lv_at hl 3 rfl) ?_
        refine lv_aload_n S.1 S.2.1 dX12_count_68 rfl (lv_at hl 0 rfl) ?_
        refine rg (ci := 12) (q0 := 0) (v := .int (nI (N 6))) 6 S hK I cl_X12 rfl wf_X12_110 (by decide) rfl rfl rfl dX12_count_69 ?_
        refine lv_icmp_ge (tgt := 97) S.1 S.2.1 dX12_count_72 (by decide) (fun c_72 => ?_) (fun c_72 => ?_)
        · skip
          have c_72o := c_72
          have c_72 := nI_cgeT (by omega) (by omega) c_72
          refine lv_iload_n S.1 S.2.1 dX12_count_97 rfl (lv_at hl 2 rfl) ?_
          exact ru_i hQ S hr hlk (u := (va_up X 13 nw_62)) I (congrArg (fun z => some (Value.int z)) (by rw [hn2, show h2 = N 6 by omega]; simp [sp_count, hsw])) dX12_count_98
        · skip
          have c_72o := c_72
          have c_72 := nI_cgeF (by omega) (by omega) c_72
          refine lv_iload_n S.1 S.2.1 dX12_count_75 rfl (lv_at hl 2 rfl) ?_
          refine lv_aload_n S.1 S.2.1 dX12_count_76 rfl (lv_at hl 0 rfl) ?_
          refine lv_iload_n S.1 S.2.1 dX12_count_77 rfl (lv_at hl 3 rfl) ?_
          refine cV (np := 1) (ci := 12) (q0 := 0) (As := [.int (nI h2)]) (rest := [.int (nI n2)]) S (c_stands l D cy q N R (va_up X 13 nw_62) h2 hW (by omega)) hK hA I wm_X12_126 wi_X12_stands ws_X12_X12_stands wn_X12 wk_X12_stands ⟨rfl, hd_X12_stands⟩ rfl ⟨by decide, by decide⟩ rfl rfl hl.1 rfl (Nat.le_of_ble_eq_true rfl) dX12_count_78 ⟨by decide, by decide⟩ (fun v_ u_ H locs h_ I => ?_)
          obtain rfl := h_
          have I : IX D A s.heap (wM cy q N R (va_up X 13 nw_62)) H locs := I
          refine W.eq (g2 := F0 m 81 ls [.int (bI (stB R nw_62 h2)), .int (nI n2)]) rfl ?_
          refine tI (y := bI (stB R (R 1) h2)) (congrArg bI ((stB_cg hH hnw_62 (by omega)).trans (by rw [vt0]))) ?_
          refine lv_if_eq (tgt := 88) S.1 S.2.1 dX12_count_81 (by decide) (fun c_81 => ?_) (fun c_81 => ?_)
          · skip
            have c_81 := bI_f c_81
            refine lv_iconst (v := nI 0) S.1 S.2.1 dX12_count_88 (by decide) ?_
            refine lv_iadd S.1 S.2.1 dX12_count_89 ?_
            refine tI (y := nI (n2 + 0)) (nI_add _ _) ?_
            refine lv_istore_n (lv' := [(2, .int (nI (n2 + 0))), (0, .ref (q 33)), (1, .int w), (3, .int (nI h2))]) S.1 S.2.1 dX12_count_90 rfl hl (by decide) rfl (fun ls hl => ?_)
            refine lv_iinc (v := nI (h2 + 1)) (lv' := [(3, .int (nI (h2 + 1))), (2, .int (nI (n2 + 0))), (0, .ref (q 33)), (1, .int w)]) S.1 S.2.1 dX12_count_91 hl (k := 3) rfl (nI_1 _) (by decide) rfl (fun ls hl => ?_)
            refine lv_goto (tgt := 67) S.1 S.2.1 dX12_count_94 (by decide) ?_
            exact ih_67 (h2 + 1) (n2 + 0) (by omega) (by omega) (by rw [fb_ct_succ, ← hn2, c_81]; rfl) _ _ _ I (lv_sub hl [2, 3, 1, 0] rfl)
          · skip
            have c_81 := bI_t c_81
            refine lv_iconst (v := nI 1) S.1 S.2.1 dX12_count_84 (by decide) ?_
            refine lv_goto (tgt := 89) S.1 S.2.1 dX12_count_85 (by decide) ?_
            refine lv_iadd S.1 S.2.1 dX12_count_89 ?_
            refine tI (y := nI (n2 + 1)) (nI_add _ _) ?_
            refine lv_istore_n (lv' := [(2, .int (nI (n2 + 1))), (0, .ref (q 33)), (1, .int w), (3, .int (nI h2))]) S.1 S.2.1 dX12_count_90 rfl hl (by decide) rfl (fun ls hl => ?_)
            refine lv_iinc (v := nI (h2 + 1)) (lv' := [(3, .int (nI (h2 + 1))), (2, .int (nI (n2 + 1))), (0, .ref (q 33)), (1, .int w)]) S.1 S.2.1 dX12_count_91 hl (k := 3) rfl (nI_1 _) (by decide) rfl (fun ls hl => ?_)
            refine lv_goto (tgt := 67) S.1 S.2.1 dX12_count_94 (by decide) ?_
            exact ih_67 (h2 + 1) (n2 + 1) (by omega) (by omega) (by rw [fb_ct_succ, ← hn2, c_81]; rfl) _ _ _ I (lv_sub hl [2, 3, 1, 0] rfl)
    exact loop_67 _ 0 0 (Nat.lt_succ_self _) (Nat.zero_le _) rfl _ _ _ I (lv_sub hl [2, 3, 1, 0] rfl)
  · skip
    refine lv_tableIn (off := 96) (tgt := 99) S.1 S.2.1 dX12_count_3 (by rw [hsw]; decide) (by rw [hsw]; decide) (by rw [hsw]; rfl) (by decide) ?_
    refine lv_aload_n S.1 S.2.1 dX12_count_99 rfl (lv_at hl 1 rfl) ?_
    refine lv_iconst (v := nI 0) S.1 S.2.1 dX12_count_100 (by decide) ?_
    refine cV (np := 1) (ci := 12) (q0 := 0) (As := [.int (nI 0)]) (rest := []) S (c_riskOf l D cy q N R X 0 hW (by omega)) hK hA I wm_X12_148 wi_X12_riskOf ws_X12_X12_riskOf wn_X12 wk_X12_riskOf ⟨rfl, hd_X12_riskOf⟩ rfl ⟨by decide, by decide⟩ rfl rfl hl.1 rfl (Nat.le_of_ble_eq_true rfl) dX12_count_101 ⟨by decide, by decide⟩ (fun v_ u_ H locs h_ I => ?_)
    obtain ⟨rfl, hv_101, hr_101⟩ := h_
    obtain ⟨a13_101, a14_101, a15_101, a16_101⟩ := u_
    have hr_101 : RowS N R (vtF R 0 (N 17)) (eS N R (vtF R 0 (N 17))) a14_101 a15_101 a16_101 := hr_101
    have I : IX D A s.heap (wM cy q N R (va_up (va_up (va_up (va_up X 13 a13_101) 14 a14_101) 15 a15_101) 16 a16_101)) H locs := I
    refine W.eq (g2 := F0 m 104 ls [.int (nI (rsk N R (vtF R 0 (N 17))))]) rfl ?_
    refine tI (y := nI (rsk N R (R 1))) (by rw [vt0]) ?_
    refine lv_istore_n (lv' := [(3, .int (nI (rsk N R (R 1)))), (2, .int (nI 0)), (0, .ref (q 33)), (1, .int w)]) S.1 S.2.1 dX12_count_104 rfl hl (by decide) rfl (fun ls hl => ?_)
    refine lv_iconst (v := nI 0) S.1 S.2.1 dX12_count_105 (by decide) ?_
    refine lv_istore (lv' := [(4, .int (nI 0)), (3, .int (nI (rsk N R (R 1)))), (2, .int (nI 0)), (0, .ref (q 33)), (1, .int w)]) S.1 S.2.1 dX12_count_106 hl (by decide) rfl (fun ls hl => ?_)
    have loop_108 : ∀ (k_ : Nat) (p2 : Nat) (n2 : Nat), N 0 - p2 < k_ → p2 ≤ N 0 → n2 = fb_ct (tkN (eS N R (R 1))) p2 → ∀ (H : Heap) (locs : List Loc) (ls : Array Slot), IX D A s.heap (wM cy q N R (va_up (va_up (va_up (va_up X 13 a13_101) 14 a14_101) 15 a15_101) 16 a16_101)) H locs → lv_has ls 5 [(0, .ref (q 33)), (1, .int w), (2, .int (nI n2)), (4, .int (nI p2))] → W p l e rm_X12_count s m args below meth c H locs 0 0 Q (F0 m 108 ls []) := by
      intro k_
      induction k_ with
      | zero => intro p2 n2 hm_; exact absurd hm_ (Nat.not_lt_zero _)
      | succ k_ ih_108 =>
        intro p2 n2 hm_ hp2 hn2 H locs ls I hl
        refine lv_iload S.1 S.2.1 dX12_count_108 (lv_at hl 3 rfl) ?_
        refine lv_aload_n S.1 S.2.1 dX12_count_110 rfl (lv_at hl 0 rfl) ?_
        refine rg (ci := 12) (q0 := 0) (v := .int (nI (N 0))) 0 S hK I cl_X12 rfl wf_X12_95 (by decide) rfl rfl rfl dX12_count_111 ?_
        refine lv_icmp_ge (tgt := 141) S.1 S.2.1 dX12_count_114 (by decide) (fun c_114 => ?_) (fun c_114 => ?_)
        · skip
          have c_114o := c_114
          have c_114 := nI_cgeT (by omega) (by omega) c_114
          refine lv_iload_n S.1 S.2.1 dX12_count_141 rfl (lv_at hl 2 rfl) ?_
          exact ru_i hQ S hr hlk (u := (va_up (va_up (va_up (va_up X 13 a13_101) 14 a14_101) 15 a15_101) 16 a16_101)) I (congrArg (fun z => some (Value.int z)) (by rw [hn2, show p2 = N 0 by omega]; simp [sp_count, hsw])) dX12_count_142
        · skip
          have c_114o := c_114
          have c_114 := nI_cgeF (by omega) (by omega) c_114
          refine lv_iload_n S.1 S.2.1 dX12_count_117 rfl (lv_at hl 2 rfl) ?_
          refine lv_aload_n S.1 S.2.1 dX12_count_118 rfl (lv_at hl 0 rfl) ?_
          refine rg (ci := 12) (q0 := 0) (v := .ref (q 14)) 14 S hK I cl_X12 rfl wf_X12_47 (by decide) rfl rfl rfl dX12_count_119 ?_
          refine lv_iload S.1 S.2.1 dX12_count_122 (lv_at hl 3 rfl) ?_
          have hsle : eS N R (R 1) p2 ≤ 8 := stF_le N R (R 1) 8 p2
          refine ri (q0 := 13) (n := 8) (f := a14_101) p2 S hK I rfl rfl (by omega) (by decide) dX12_count_124 ?_
          refine tI (y := nI (eS N R (R 1) p2)) ((hr_101 p2 (by omega)).1.trans (by rw [vt0])) ?_
          refine lv_if_le (tgt := 132) S.1 S.2.1 dX12_count_125 (by decide) (fun c_125 => ?_) (fun c_125 => ?_)
          · skip
            have c_125o := c_125
            have c_125 := nI_zleT (by omega) c_125
            refine lv_iconst (v := nI 0) S.1 S.2.1 dX12_count_132 (by decide) ?_
            refine lv_iadd S.1 S.2.1 dX12_count_133 ?_
            refine tI (y := nI (n2 + 0)) (nI_add _ _) ?_
            refine lv_istore_n (lv' := [(2, .int (nI (n2 + 0))), (0, .ref (q 33)), (1, .int w), (4, .int (nI p2))]) S.1 S.2.1 dX12_count_134 rfl hl (by decide) rfl (fun ls hl => ?_)
            refine lv_iinc (v := nI (p2 + 1)) (lv' := [(4, .int (nI (p2 + 1))), (2, .int (nI (n2 + 0))), (0, .ref (q 33)), (1, .int w)]) S.1 S.2.1 dX12_count_135 hl (k := 3) rfl (nI_1 _) (by decide) rfl (fun ls hl => ?_)
            refine lv_goto (tgt := 108) S.1 S.2.1 dX12_count_138 (by decide) ?_
            exact ih_108 (p2 + 1) (n2 + 0) (by omega) (by omega) (by rw [fb_ct_succ, ← hn2, tkN, decide_eq_false (by omega)]; rfl) _ _ _ I (lv_sub hl [2, 3, 1, 0] rfl)
          · skip
            have c_125o := c_125
            have c_125 := nI_zleF (by omega) c_125
            refine lv_iconst (v := nI 1) S.1 S.2.1 dX12_count_128 (by decide) ?_
            refine lv_goto (tgt := 133) S.1 S.2.1 dX12_count_129 (by decide) ?_
            refine lv_iadd S.1 S.2.1 dX12_count_133 ?_
            refine tI (y := nI (n2 + 1)) (nI_add _ _) ?_
            refine lv_istore_n (lv' := [(2, .int (nI (n2 + 1))), (0, .ref (q 33)), (1, .int w), (4, .int (nI p2))]) S.1 S.2.1 dX12_count_134 rfl hl (by decide) rfl (fun ls hl => ?_)
            refine lv_iinc (v := nI (p2 + 1)) (lv' := [(4, .int (nI (p2 + 1))), (2, .int (nI (n2 + 1))), (0, .ref (q 33)), (1, .int w)]) S.1 S.2.1 dX12_count_135 hl (k := 3) rfl (nI_1 _) (by decide) rfl (fun ls hl => ?_)
            refine lv_goto (tgt := 108) S.1 S.2.1 dX12_count_138 (by decide) ?_
            exact ih_108 (p2 + 1) (n2 + 1) (by omega) (by omega) (by rw [fb_ct_succ, ← hn2, tkN, decide_eq_true c_125]; rfl) _ _ _ I (lv_sub hl [2, 3, 1, 0] rfl)
    exact loop_108 _ 0 0 (Nat.lt_succ_self _) (Nat.zero_le _) rfl _ _ _ I (lv_sub hl [3, 4, 2, 0] rfl)
  · skip
    refine lv_tableOut (tgt := 143) S.1 S.2.1 dX12_count_3 hsw.2 (by decide) ?_
    refine lv_iconst (v := (-1)) S.1 S.2.1 dX12_count_143 (by decide) ?_
    exact ru_i hQ S hr hlk (u := X) I (congrArg (fun z => some (Value.int z)) (by obtain ⟨⟨a0, a1, a2, a3, a4, a5⟩, _⟩ := hsw; simp [sp_count, a0, a1, a2, a3, a4, a5])) dX12_count_144
set_option maxHeartbeats 4000000 in
set_option maxRecDepth 100000 in
theorem c_make (l : Launch) (D : va_G) (cy : Nat → ClassId) (q : Nat → Nat) (N : Nat → Nat) (R X : Nat → Nat → Int32) (x : Int32) (hW : WFm N R) : MS (α := SR × (Nat → Nat → Int32)) l D cy yX12_make cX12_make 5 (Option.some FieldType.int) rm_X12_make [.ref (q 33), .int x] (wM cy q N R X) (fun v_ u_ => v_ = some (.int (sp_make N R x).1) ∧ u_.1 = (sp_make N R x).2) (fun u_ => wM cy q u_.1.1 u_.1.2 u_.2) := by
  refine MS.mk2 (by decide) (Nat.le_of_ble_eq_true rfl) [(0, .ref (q 33)), (1, .int x)] rfl ?_
  intro p e s m args below meth c A ls Q hQ S hr hlk hnm hK hA I hl
  have hW0 := hW
  obtain ⟨hB, hPt, hBo, hH, hM, hQu⟩ := hW0
  have hB0 := hB
  obtain ⟨b0, b6, b17, b24, b30⟩ := hB0
  refine lv_aload_n S.1 S.2.1 dX12_make_0 rfl (lv_at hl 0 rfl) ?_
  refine lv_iload_n S.1 S.2.1 dX12_make_1 rfl (lv_at hl 1 rfl) ?_
  refine cV (np := 1) (ci := 12) (q0 := 0) (As := [.int x]) (rest := []) S (c_isMend l D cy q N R X (x) hB) hK hA I wm_X12_165 wi_X12_isMend ws_X12_X12_isMend wn_X12 wk_X12_isMend ⟨rfl, hd_X12_isMend⟩ rfl ⟨by decide, by decide⟩ rfl rfl hl.1 rfl (Nat.le_of_ble_eq_true rfl) dX12_make_2 ⟨by decide, by decide⟩ (fun v_ u_ H locs h_ I => ?_)
  obtain rfl := h_
  have I : IX D A s.heap (wM cy q N R X) H locs := I
  refine W.eq (g2 := F0 m 5 ls [.int (bI (isP (N 17) x))]) rfl ?_
  refine lv_if_ne (tgt := 10) S.1 S.2.1 dX12_make_5 (by decide) (fun c_5 => ?_) (fun c_5 => ?_)
  · skip
    have c_5 := bI_t c_5
    obtain ⟨j, h_j, rfl⟩ := isP_of c_5 (by omega)
    have e_j : (nI j).toNatClampNeg = j := nI_clamp (by omega)
    refine lv_aload_n S.1 S.2.1 dX12_make_10 rfl (lv_at hl 0 rfl) ?_
    refine rg (ci := 12) (q0 := 0) (v := .ref (q 21)) 21 S hK I cl_X12 rfl wf_X12_65 (by decide) rfl rfl rfl dX12_make_11 ?_
    refine lv_iload_n S.1 S.2.1 dX12_make_14 rfl (lv_at hl 1 rfl) ?_
    refine ri (q0 := 19) (n := 8) (f := R 21) j S hK I rfl rfl (by omega) (by decide) dX12_make_15 ?_
    refine lv_istore_n (lv' := [(2, .int (R 21 j)), (0, .ref (q 33)), (1, .int (nI j))]) S.1 S.2.1 dX12_make_16 rfl hl (by decide) rfl (fun ls hl => ?_)
    refine lv_aload_n S.1 S.2.1 dX12_make_17 rfl (lv_at hl 1 rfl) ?_
    refine lv_iconst (v := nI 1) S.1 S.2.1 dX12_make_18 (by decide) ?_
    refine lv_iload_n S.1 S.2.1 dX12_make_19 rfl (lv_at hl 2 rfl) ?_
    refine lv_ishl S.1 S.2.1 dX12_make_20 ?_
    refine tI (y := nI (2 ^ j)) (bitS (by omega)) ?_
    refine cV (np := 1) (ci := 12) (q0 := 0) (As := [.int (nI (2 ^ j))]) (rest := []) S (c_takeVersions l D cy q N R X (2 ^ j) hW (by have := pow_31 (show j < 31 by omega); omega)) hK hA I wm_X12_140 wi_X12_takeVersions ws_X12_X12_takeVersions wn_X12 wk_X12_takeVersions ⟨rfl, hd_X12_takeVersions⟩ rfl ⟨by decide, by decide⟩ rfl rfl hl.1 rfl (Nat.le_of_ble_eq_true rfl) dX12_make_21 ⟨by decide, by decide⟩ (fun v_ u_ H locs h_ I => ?_)
    obtain ⟨rfl, hnw_21⟩ := h_
    generalize u_ = nw_21 at hnw_21 I
    have hnw_21 : ∀ p, p < N 0 → nw_21 p = vtF R (2 ^ j) (N 17) p := hnw_21
    have I : IX D A s.heap (wM cy q N R (va_up X 13 nw_21)) H locs := I
    refine W.eq (g2 := F0 m 24 ls []) rfl ?_
    refine lv_aload_n S.1 S.2.1 dX12_make_24 rfl (lv_at hl 1 rfl) ?_
    refine cV (np := 0) (ci := 12) (q0 := 0) (As := []) (rest := []) S (c_isQuarrelling l D cy q N R (va_up X 13 nw_21) hW) hK hA I wm_X12_155 wi_X12_isQuarrelling ws_X12_X12_isQuarrelling wn_X12 wk_X12_isQuarrelling ⟨rfl, hd_X12_isQuarrelling⟩ rfl ⟨by decide, by decide⟩ rfl rfl hl.1 rfl (Nat.le_of_ble_eq_true rfl) dX12_make_25 ⟨by decide, by decide⟩ (fun v_ u_ H locs h_ I => ?_)
    obtain rfl := h_
    have I : IX D A s.heap (wM cy q N R (va_up X 13 nw_21)) H locs := I
    refine W.eq (g2 := F0 m 28 ls [.int (bI (quF R nw_21 (N 24)))]) rfl ?_
    refine tI (y := bI (quF R (vtF R (2 ^ j) (N 17)) (N 24))) (congrArg bI (quF_cg hQu hnw_21 _ (Nat.le_refl _))) ?_
    have join_58 : ∀ (_ : Unit), mkN N R j = false → ∀ (H : Heap) (locs : List Loc) (ls : Array Slot), IX D A s.heap (wM cy q N R (va_up X 13 nw_21)) H locs → lv_has ls 5 [(0, .ref (q 33)), (1, .int (nI j))] → W p l e rm_X12_make s m args below meth c H locs 0 0 Q (F0 m 58 ls []) := by
      intro _ hmk H locs ls I hl
      refine lv_aload_n S.1 S.2.1 dX12_make_58 rfl (lv_at hl 0 rfl) ?_
      refine lv_iconst (v := nI 0) S.1 S.2.1 dX12_make_59 (by decide) ?_
      refine cV (np := 1) (ci := 12) (q0 := 0) (As := [.int (nI 0)]) (rest := []) S (c_riskOf l D cy q N R (va_up X 13 nw_21) 0 hW (by omega)) hK hA I wm_X12_148 wi_X12_riskOf ws_X12_X12_riskOf wn_X12 wk_X12_riskOf ⟨rfl, hd_X12_riskOf⟩ rfl ⟨by decide, by decide⟩ rfl rfl hl.1 rfl (Nat.le_of_ble_eq_true rfl) dX12_make_60 ⟨by decide, by decide⟩ (fun v_ u_ H locs h_ I => ?_)
      obtain ⟨rfl, hv_60, hr_60⟩ := h_
      obtain ⟨a13_60, a14_60, a15_60, a16_60⟩ := u_
      have hr_60 : RowS N R (vtF R 0 (N 17)) (eS N R (vtF R 0 (N 17))) a14_60 a15_60 a16_60 := hr_60
      have I : IX D A s.heap (wM cy q N R (va_up (va_up (va_up (va_up X 13 a13_60) 14 a14_60) 15 a15_60) 16 a16_60)) H locs := I
      refine W.eq (g2 := F0 m 63 ls [.int (nI (rsk N R (vtF R 0 (N 17))))]) rfl ?_
      refine tI (y := nI (rsk N R (R 1))) (by rw [vt0]) ?_
      refine lv_istore_n (lv' := [(3, .int (nI (rsk N R (R 1)))), (0, .ref (q 33)), (1, .int (nI j))]) S.1 S.2.1 dX12_make_63 rfl hl (by decide) rfl (fun ls hl => ?_)
      have hmj := (hM j (by omega)).2.1
      refine lv_aload_n S.1 S.2.1 dX12_make_64 rfl (lv_at hl 1 rfl) ?_
      refine rg (ci := 12) (q0 := 0) (v := .ref (q 18)) 18 S hK I cl_X12 rfl wf_X12_56 (by decide) rfl rfl rfl dX12_make_65 ?_
      refine lv_iload_n S.1 S.2.1 dX12_make_68 rfl (lv_at hl 2 rfl) ?_
      refine ri (q0 := 16) (n := 8) (f := R 18) j S hK I rfl rfl (by omega) (by decide) dX12_make_69 ?_
      refine tI (y := nI (mp R j)) (hM j (by omega)).1 ?_
      refine lv_istore (lv' := [(4, .int (nI (mp R j))), (3, .int (nI (rsk N R (R 1)))), (0, .ref (q 33)), (1, .int (nI j))]) S.1 S.2.1 dX12_make_70 hl (by decide) rfl (fun ls hl => ?_)
      refine lv_aload_n S.1 S.2.1 dX12_make_72 rfl (lv_at hl 2 rfl) ?_
      refine rg (ci := 12) (q0 := 0) (v := .ref (q 1)) 1 S hK I cl_X12 rfl wf_X12_7 (by decide) rfl rfl rfl dX12_make_73 ?_
      refine lv_iload S.1 S.2.1 dX12_make_76 (lv_at hl 0 rfl) ?_
      refine lv_aload_n S.1 S.2.1 dX12_make_78 rfl (lv_at hl 2 rfl) ?_
      refine rg (ci := 12) (q0 := 0) (v := .ref (q 19)) 19 S hK I cl_X12 rfl wf_X12_59 (by decide) rfl rfl rfl dX12_make_79 ?_
      refine lv_iload_n S.1 S.2.1 dX12_make_82 rfl (lv_at hl 3 rfl) ?_
      refine ri (q0 := 17) (n := 8) (f := R 19) j S hK I rfl rfl (by omega) (by decide) dX12_make_83 ?_
      refine lv_aload_n S.1 S.2.1 dX12_make_84 rfl (lv_at hl 2 rfl) ?_
      refine rg (ci := 12) (q0 := 0) (v := .ref (q 1)) 1 S hK I cl_X12 rfl wf_X12_7 (by decide) rfl rfl rfl dX12_make_85 ?_
      refine lv_iload S.1 S.2.1 dX12_make_88 (lv_at hl 0 rfl) ?_
      refine ri (q0 := 1) (n := 8) (f := R 1) (mp R j) S hK I rfl rfl (by omega) (by decide) dX12_make_90 ?_
      have join_110 : ∀ (_ : Unit), ∀ (H : Heap) (locs : List Loc) (ls : Array Slot), IX D A s.heap (wM cy q N R (va_up (va_up (va_up (va_up X 13 a13_60) 14 a14_60) 15 a15_60) 16 a16_60)) H locs → lv_has ls 5 [(4, .int (nI (mp R j))), (3, .int (nI (rsk N R (R 1)))), (0, .ref (q 33)), (1, .int (nI j))] → W p l e rm_X12_make s m args below meth c H locs 0 0 Q (F0 m 110 ls [.int (mkV R j), .int (nI (mp R j)), .ref (q 1)]) := by
        intro _  H locs ls I hl
        refine si (q0 := 1) (n := 8) (f := R 1) (mp R j) S hK I rfl rfl (by omega) (by decide) dX12_make_110 (fun H locs I => ?_)
        have I : IX D A s.heap (wM cy q N (va_up R 1 (upd (R 1) (mp R j) (mkV R j))) (va_up (va_up (va_up (va_up X 13 a13_60) 14 a14_60) 15 a15_60) 16 a16_60)) H locs := I
        refine lv_ldc (v := 100000) S.1 S.2.1 S.2.2.2.1 (S.2.2.2.2 _ (List.mem_cons_of_mem _ wx_931)) dX12_make_111 ?_
        refine lv_iload_n S.1 S.2.1 dX12_make_113 rfl (lv_at hl 1 rfl) ?_
        refine lv_iadd S.1 S.2.1 dX12_make_114 ?_
        refine lv_aload_n S.1 S.2.1 dX12_make_115 rfl (lv_at hl 2 rfl) ?_
        refine lv_iconst (v := nI 0) S.1 S.2.1 dX12_make_116 (by decide) ?_
        refine cV (np := 1) (ci := 12) (q0 := 0) (As := [.int (nI 0)]) (rest := [.int ((100000) + (nI (rsk N R (R 1))))]) S (c_riskOf l D cy q N (va_up R 1 (upd (R 1) (mp R j) (mkV R j))) (va_up (va_up (va_up (va_up X 13 a13_60) 14 a14_60) 15 a15_60) 16 a16_60) 0 (WFm_mk hW h_j) (by omega)) hK hA I wm_X12_148 wi_X12_riskOf ws_X12_X12_riskOf wn_X12 wk_X12_riskOf ⟨rfl, hd_X12_riskOf⟩ rfl ⟨by decide, by decide⟩ rfl rfl hl.1 rfl (Nat.le_of_ble_eq_true rfl) dX12_make_117 ⟨by decide, by decide⟩ (fun v_ u_ H locs h_ I => ?_)
        obtain ⟨rfl, hv_117, hr_117⟩ := h_
        obtain ⟨a13_117, a14_117, a15_117, a16_117⟩ := u_
        have hr_117 : RowS N (va_up R 1 (upd (R 1) (mp R j) (mkV R j))) (vtF (va_up R 1 (upd (R 1) (mp R j) (mkV R j))) 0 (N 17)) (eS N (va_up R 1 (upd (R 1) (mp R j) (mkV R j))) (vtF (va_up R 1 (upd (R 1) (mp R j) (mkV R j))) 0 (N 17))) a14_117 a15_117 a16_117 := hr_117
        have I : IX D A s.heap (wM cy q N (va_up R 1 (upd (R 1) (mp R j) (mkV R j))) (va_up (va_up (va_up (va_up X 13 a13_117) 14 a14_117) 15 a15_117) 16 a16_117)) H locs := I
        refine W.eq (g2 := F0 m 120 ls [.int (nI (rsk N (va_up R 1 (upd (R 1) (mp R j) (mkV R j))) (vtF (va_up R 1 (upd (R 1) (mp R j) (mkV R j))) 0 (N 17)))), .int ((100000) + (nI (rsk N R (R 1))))]) rfl ?_
        refine tI (y := nI (rsk N (mkR R j) (mkR R j 1))) (by rw [vt0]; rfl) ?_
        refine lv_isub S.1 S.2.1 dX12_make_120 ?_
        exact ru_i hQ S hr hlk (u := ((N, mkR R j), (va_up (va_up (va_up (va_up X 13 a13_117) 14 a14_117) 15 a15_117) 16 a16_117))) I (by rw [sp_make, if_pos c_5, e_j, if_neg (by rw [hmk]; exact Bool.false_ne_true)]; exact ⟨rfl, rfl⟩) dX12_make_121
      refine lv_icmp_le (tgt := 103) S.1 S.2.1 dX12_make_91 (by decide) (fun c_91 => ?_) (fun c_91 => ?_)
      · skip
        refine lv_aload_n S.1 S.2.1 dX12_make_103 rfl (lv_at hl 2 rfl) ?_
        refine rg (ci := 12) (q0 := 0) (v := .ref (q 1)) 1 S hK I cl_X12 rfl wf_X12_7 (by decide) rfl rfl rfl dX12_make_104 ?_
        refine lv_iload S.1 S.2.1 dX12_make_107 (lv_at hl 0 rfl) ?_
        refine ri (q0 := 1) (n := 8) (f := R 1) (mp R j) S hK I rfl rfl (by omega) (by decide) dX12_make_109 ?_
        refine tI (y := mkV R j) (by rw [mkV, if_pos c_91]) ?_
        exact join_110 ()  _ _ _ I (lv_sub hl [0, 1, 2, 3] rfl)
      · skip
        refine lv_aload_n S.1 S.2.1 dX12_make_94 rfl (lv_at hl 2 rfl) ?_
        refine rg (ci := 12) (q0 := 0) (v := .ref (q 19)) 19 S hK I cl_X12 rfl wf_X12_59 (by decide) rfl rfl rfl dX12_make_95 ?_
        refine lv_iload_n S.1 S.2.1 dX12_make_98 rfl (lv_at hl 3 rfl) ?_
        refine ri (q0 := 17) (n := 8) (f := R 19) j S hK I rfl rfl (by omega) (by decide) dX12_make_99 ?_
        refine lv_goto (tgt := 110) S.1 S.2.1 dX12_make_100 (by decide) ?_
        refine tI (y := mkV R j) (by rw [mkV, if_neg c_91]) ?_
        exact join_110 ()  _ _ _ I (lv_sub hl [0, 1, 2, 3] rfl)
    refine lv_if_ne (tgt := 55) S.1 S.2.1 dX12_make_28 (by decide) (fun c_28 => ?_) (fun c_28 => ?_)
    · skip
      have c_28 := bI_t c_28
      refine lv_bipush (v := (-2)) S.1 S.2.1 dX12_make_55 (by decide) ?_
      exact ru_i hQ S hr hlk (u := ((N, R), (va_up X 13 nw_21))) I (by rw [sp_make, if_pos c_5, e_j, if_pos (by simp [mkN, c_28])]; exact ⟨rfl, rfl⟩) dX12_make_57
    · skip
      have c_28 := bI_f c_28
      refine lv_iload_n S.1 S.2.1 dX12_make_31 rfl (lv_at hl 0 rfl) ?_
      refine lv_if_lt (tgt := 58) S.1 S.2.1 dX12_make_32 (by decide) (fun c_32 => ?_) (fun c_32 => ?_)
      · skip
        exact join_58 () (by simp [mkN, c_28, c_32]) _ _ _ I (lv_sub hl [1, 2] rfl)
      · skip
        have hmn := need_of (hM j (by omega)).2.2.2.2.1 c_32
        have hmq := (hM (mn R j) (by omega)).2.1
        rw [hmn.1] at hl
        refine lv_aload_n S.1 S.2.1 dX12_make_35 rfl (lv_at hl 1 rfl) ?_
        refine rg (ci := 12) (q0 := 0) (v := .ref (q 1)) 1 S hK I cl_X12 rfl wf_X12_7 (by decide) rfl rfl rfl dX12_make_36 ?_
        refine lv_aload_n S.1 S.2.1 dX12_make_39 rfl (lv_at hl 1 rfl) ?_
        refine rg (ci := 12) (q0 := 0) (v := .ref (q 18)) 18 S hK I cl_X12 rfl wf_X12_56 (by decide) rfl rfl rfl dX12_make_40 ?_
        refine lv_iload_n S.1 S.2.1 dX12_make_43 rfl (lv_at hl 0 rfl) ?_
        refine ri (q0 := 16) (n := 8) (f := R 18) (mn R j) S hK I rfl rfl (by omega) (by decide) dX12_make_44 ?_
        refine tI (y := nI (mp R (mn R j))) (hM (mn R j) (by omega)).1 ?_
        refine ri (q0 := 1) (n := 8) (f := R 1) (mp R (mn R j)) S hK I rfl rfl (by omega) (by decide) dX12_make_45 ?_
        refine lv_aload_n S.1 S.2.1 dX12_make_46 rfl (lv_at hl 1 rfl) ?_
        refine rg (ci := 12) (q0 := 0) (v := .ref (q 19)) 19 S hK I cl_X12 rfl wf_X12_59 (by decide) rfl rfl rfl dX12_make_47 ?_
        refine lv_iload_n S.1 S.2.1 dX12_make_50 rfl (lv_at hl 0 rfl) ?_
        refine ri (q0 := 17) (n := 8) (f := R 19) (mn R j) S hK I rfl rfl (by omega) (by decide) dX12_make_51 ?_
        refine lv_icmp_ge (tgt := 58) S.1 S.2.1 dX12_make_52 (by decide) (fun c_52 => ?_) (fun c_52 => ?_)
        · skip
          exact join_58 () (by simp [mkN, c_28, c_32, c_52]) _ _ _ I (lv_sub hl [1, 2] rfl)
        · skip
          refine lv_bipush (v := (-2)) S.1 S.2.1 dX12_make_55 (by decide) ?_
          exact ru_i hQ S hr hlk (u := ((N, R), (va_up X 13 nw_21))) I (by rw [sp_make, if_pos c_5, e_j, if_pos (by simp [mkN, c_28, c_32, c_52])]; exact ⟨rfl, rfl⟩) dX12_make_57
  · skip
    have c_5 := bI_f c_5
    refine lv_iconst (v := (-1)) S.1 S.2.1 dX12_make_8 (by decide) ?_
    exact ru_i hQ S hr hlk (u := ((N, R), X)) I (by simp [sp_make, c_5]) dX12_make_9
set_option maxHeartbeats 4000000 in
set_option maxRecDepth 100000 in
theorem c_mayIn (l : Launch) (D : va_G) (cy : Nat → ClassId) (q : Nat → Nat) (N : Nat → Nat) (R X : Nat → Nat → Int32) (d w : Nat) (hn : Int32) (hW : WFm N R) (hd : d < 2147483648) : MS (α := Unit) l D cy yX12_mayIn cX12_mayIn 6 (Option.some FieldType.boolean) rm_X12_mayIn [.ref (q 33), .int (nI d), .int (nI w), .int hn] (wM cy q N R X) (fun v_ (_ : Unit) => v_ = some (.int (bI (mayB N R d w hn)))) (fun _ => wM cy q N R X) := by
  refine MS.mk2 (by decide) (Nat.le_of_ble_eq_true rfl) [(0, .ref (q 33)), (1, .int (nI d)), (2, .int (nI w)), (3, .int hn)] rfl ?_
  intro p e s m args below meth c A ls Q hQ S hr hlk hnm hK hA I hl
  have hW0 := hW
  obtain ⟨hB, hPt, hBo, hH, hM, hQu⟩ := hW0
  have hB0 := hB
  obtain ⟨b0, b6, b17, b24, b30⟩ := hB0
  refine lv_iconst (v := nI 0) S.1 S.2.1 dX12_mayIn_0 (by decide) ?_
  refine lv_istore (lv' := [(4, .int (nI 0)), (0, .ref (q 33)), (1, .int (nI d)), (2, .int (nI w)), (3, .int hn)]) S.1 S.2.1 dX12_mayIn_1 hl (by decide) rfl (fun ls hl => ?_)
  refine lv_iconst (v := nI 0) S.1 S.2.1 dX12_mayIn_3 (by decide) ?_
  refine lv_istore (lv' := [(5, .int (nI 0)), (4, .int (nI 0)), (0, .ref (q 33)), (1, .int (nI d)), (2, .int (nI w)), (3, .int hn)]) S.1 S.2.1 dX12_mayIn_4 hl (by decide) rfl (fun ls hl => ?_)
  have loop_6 : ∀ (k_ : Nat) (i : Nat) (su : Nat), N 17 - i < k_ → i ≤ N 17 → miF R d w i = true → su = haF R d i → ∀ (H : Heap) (locs : List Loc) (ls : Array Slot), IX D A s.heap (wM cy q N R X) H locs → lv_has ls 6 [(0, .ref (q 33)), (1, .int (nI d)), (2, .int (nI w)), (3, .int hn), (4, .int (nI su)), (5, .int (nI i))] → W p l e rm_X12_mayIn s m args below meth c H locs 0 0 Q (F0 m 6 ls []) := by
    intro k_
    induction k_ with
    | zero => intro i su hm_; exact absurd hm_ (Nat.not_lt_zero _)
    | succ k_ ih_6 =>
      intro i su hm_ hi hmi hsu H locs ls I hl
      refine lv_iload S.1 S.2.1 dX12_mayIn_6 (lv_at hl 5 rfl) ?_
      refine lv_aload_n S.1 S.2.1 dX12_mayIn_8 rfl (lv_at hl 0 rfl) ?_
      refine rg (ci := 12) (q0 := 0) (v := .int (nI (N 17))) 17 S hK I cl_X12 rfl wf_X12_123 (by decide) rfl rfl rfl dX12_mayIn_9 ?_
      refine lv_icmp_ge (tgt := 66) S.1 S.2.1 dX12_mayIn_12 (by decide) (fun c_12 => ?_) (fun c_12 => ?_)
      · skip
        have c_12o := c_12
        have c_12 := nI_cgeT (by omega) (by omega) c_12
        refine lv_iload S.1 S.2.1 dX12_mayIn_66 (lv_at hl 4 rfl) ?_
        refine lv_iload_n S.1 S.2.1 dX12_mayIn_68 rfl (lv_at hl 3 rfl) ?_
        refine lv_icmp_gt (tgt := 76) S.1 S.2.1 dX12_mayIn_69 (by decide) (fun c_69 => ?_) (fun c_69 => ?_)
        · skip
          refine lv_iconst (v := nI 0) S.1 S.2.1 dX12_mayIn_76 (by decide) ?_
          exact ru_z hQ S hr hlk (by decide) (u := ()) I (congrArg (fun z => some (Value.int z)) (bI_0 (by rw [mayB, show N 17 = i by omega, hmi, ← hsu, decide_eq_false (fa_of_lt c_69).2.1]; rfl))) dX12_mayIn_77
        · skip
          refine lv_iconst (v := nI 1) S.1 S.2.1 dX12_mayIn_72 (by decide) ?_
          refine lv_goto (tgt := 77) S.1 S.2.1 dX12_mayIn_73 (by decide) ?_
          exact ru_z hQ S hr hlk (by decide) (u := ()) I (congrArg (fun z => some (Value.int z)) (bI_1 (by rw [mayB, show N 17 = i by omega, hmi, ← hsu, decide_eq_true (fa_of_nlt c_69)]; rfl))) dX12_mayIn_77
      · skip
        have c_12o := c_12
        have c_12 := nI_cgeF (by omega) (by omega) c_12
        refine lv_iload_n S.1 S.2.1 dX12_mayIn_15 rfl (lv_at hl 1 rfl) ?_
        refine lv_iload S.1 S.2.1 dX12_mayIn_16 (lv_at hl 5 rfl) ?_
        refine lv_ishr S.1 S.2.1 dX12_mayIn_18 ?_
        refine lv_iconst (v := nI 1) S.1 S.2.1 dX12_mayIn_19 (by decide) ?_
        refine lv_iand S.1 S.2.1 dX12_mayIn_20 ?_
        refine tI (y := bI (d.testBit i)) (bitD hd (by omega)) ?_
        refine lv_iconst (v := nI 1) S.1 S.2.1 dX12_mayIn_21 (by decide) ?_
        refine lv_icmp_ne (tgt := 60) S.1 S.2.1 dX12_mayIn_22 (by decide) (fun c_22 => ?_) (fun c_22 => ?_)
        · skip
          have c_22 := bI_eq1F c_22
          refine lv_iinc (v := nI (i + 1)) (lv' := [(5, .int (nI (i + 1))), (0, .ref (q 33)), (1, .int (nI d)), (2, .int (nI w)), (3, .int hn), (4, .int (nI su))]) S.1 S.2.1 dX12_mayIn_60 hl (k := 5) rfl (nI_1 _) (by decide) rfl (fun ls hl => ?_)
          refine lv_goto (tgt := 6) S.1 S.2.1 dX12_mayIn_63 (by decide) ?_
          exact ih_6 (i + 1) su (by omega) (by omega) (by rw [miF, hmi]; simp [c_22]) (by rw [haF, ← hsu, c_22]; rfl) _ _ _ I (lv_sub hl [1, 2, 3, 4, 5, 0] rfl)
        · skip
          have c_22 := bI_eq1T c_22
          refine lv_iload S.1 S.2.1 dX12_mayIn_25 (lv_at hl 4 rfl) ?_
          refine lv_aload_n S.1 S.2.1 dX12_mayIn_27 rfl (lv_at hl 0 rfl) ?_
          refine rg (ci := 12) (q0 := 0) (v := .ref (q 20)) 20 S hK I cl_X12 rfl wf_X12_62 (by decide) rfl rfl rfl dX12_mayIn_28 ?_
          refine lv_iload S.1 S.2.1 dX12_mayIn_31 (lv_at hl 5 rfl) ?_
          refine ri (q0 := 18) (n := 8) (f := R 20) i S hK I rfl rfl (by omega) (by decide) dX12_mayIn_33 ?_
          refine tI (y := nI (mh R i)) (hM i (by omega)).2.2.1 ?_
          refine lv_iadd S.1 S.2.1 dX12_mayIn_34 ?_
          refine tI (y := nI (su + (mh R i))) (nI_add _ _) ?_
          refine lv_istore (lv' := [(4, .int (nI (su + (mh R i)))), (0, .ref (q 33)), (1, .int (nI d)), (2, .int (nI w)), (3, .int hn), (5, .int (nI i))]) S.1 S.2.1 dX12_mayIn_35 hl (by decide) rfl (fun ls hl => ?_)
          refine lv_iload_n S.1 S.2.1 dX12_mayIn_37 rfl (lv_at hl 3 rfl) ?_
          refine lv_aload_n S.1 S.2.1 dX12_mayIn_38 rfl (lv_at hl 1 rfl) ?_
          refine rg (ci := 12) (q0 := 0) (v := .ref (q 22)) 22 S hK I cl_X12 rfl wf_X12_68 (by decide) rfl rfl rfl dX12_mayIn_39 ?_
          refine lv_iload S.1 S.2.1 dX12_mayIn_42 (lv_at hl 5 rfl) ?_
          refine ri (q0 := 20) (n := 8) (f := R 22) i S hK I rfl rfl (by omega) (by decide) dX12_mayIn_44 ?_
          refine lv_aload_n S.1 S.2.1 dX12_mayIn_45 rfl (lv_at hl 1 rfl) ?_
          refine rg (ci := 12) (q0 := 0) (v := .ref (q 23)) 23 S hK I cl_X12 rfl wf_X12_71 (by decide) rfl rfl rfl dX12_mayIn_46 ?_
          refine lv_iload S.1 S.2.1 dX12_mayIn_49 (lv_at hl 5 rfl) ?_
          refine ri (q0 := 21) (n := 8) (f := R 23) i S hK I rfl rfl (by omega) (by decide) dX12_mayIn_51 ?_
          refine cS (np := 3) (As := [.int (nI w), .int (R 22 i), .int (R 23 i)]) (rest := []) S (c_in l D cy (wM cy q N R X) (nI w) (R 22 i) (R 23 i)) hK hA I wm_X12_99 wt_X12_in wn_X12 wk_X12_in ⟨rfl, hd_X12_in⟩ rfl ⟨by decide, by decide⟩ hl.1 rfl (Nat.le_of_ble_eq_true rfl) dX12_mayIn_52 ⟨by decide, by decide⟩ (fun v_ u_ H locs h_ I => ?_)
          obtain rfl := h_
          have I : IX D A s.heap (wM cy q N R X) H locs := I
          refine W.eq (g2 := F0 m 55 ls [.int (bI (inB (nI w) (R 22 i) (R 23 i)))]) rfl ?_
          refine lv_if_ne (tgt := 60) S.1 S.2.1 dX12_mayIn_55 (by decide) (fun c_55 => ?_) (fun c_55 => ?_)
          · skip
            have c_55 := bI_t c_55
            refine lv_iinc (v := nI (i + 1)) (lv' := [(5, .int (nI (i + 1))), (4, .int (nI (su + (mh R i)))), (0, .ref (q 33)), (1, .int (nI d)), (2, .int (nI w)), (3, .int hn)]) S.1 S.2.1 dX12_mayIn_60 hl (k := 5) rfl (nI_1 _) (by decide) rfl (fun ls hl => ?_)
            refine lv_goto (tgt := 6) S.1 S.2.1 dX12_mayIn_63 (by decide) ?_
            exact ih_6 (i + 1) (su + (mh R i)) (by omega) (by omega) (by rw [miF, hmi]; simp [c_22, c_55]) (by rw [haF, ← hsu, c_22]; rfl) _ _ _ I (lv_sub hl [2, 3, 4, 5, 1, 0] rfl)
          · skip
            have c_55 := bI_f c_55
            refine lv_iconst (v := nI 0) S.1 S.2.1 dX12_mayIn_58 (by decide) ?_
            exact ru_z hQ S hr hlk (by decide) (u := ()) I (congrArg (fun z => some (Value.int z)) (bI_0 (by rw [mayB, miF_false (show i < N 17 by omega) (by simp [c_22, c_55]), Bool.false_and]))) dX12_mayIn_59
  exact loop_6 _ 0 0 (Nat.lt_succ_self _) (Nat.zero_le _) rfl rfl _ _ _ I (lv_sub hl [2, 3, 4, 5, 1, 0] rfl)
set_option maxHeartbeats 4000000 in
set_option maxRecDepth 100000 in
theorem c_planFrom (l : Launch) (D : va_G) (cy : Nat → ClassId) (q : Nat → Nat) (N : Nat → Nat) (R X : Nat → Nat → Int32) (w ws : Nat) (hn : Int32) (rs : Nat → Int32) (hW : WFm N R) (hw : w + 1 ≤ ws) (hws : ws ≤ 6) (hrk : ∀ z, z < 2 ^ N 17 → X 26 z = nI (rk N R z)) (hsd : ∀ z, z < 2 ^ N 17 → X 27 z = bI (soB N R z)) (hrest : ∀ z, z < 2 ^ N 17 → (if w + 1 = ws then X 26 z else X 28 (256 * (w + 1) + z)) = rs z) : MS (α := (Nat → Int32) × (Nat → Int32)) l D cy yX12_planFrom cX12_planFrom 10 (Option.none : Option FieldType) rm_X12_planFrom [.ref (q 33), .int (nI w), .int (nI ws), .int hn, .int (nI (2 ^ N 17 - 1))] (wM cy q N R X) (fun v_ u_ => v_ = none ∧ (∀ z, z < 2 ^ N 17 → u_.1 (256 * w + z) = (bsF N R w hn rs z (2 ^ N 17)).1 ∧ (¬ (bsF N R w hn rs z (2 ^ N 17)).1 < 0 → u_.2 (256 * w + z) = nI (bsF N R w hn rs z (2 ^ N 17)).2)) ∧ (∀ i, 256 * (w + 1) ≤ i → u_.1 i = X 28 i ∧ u_.2 i = X 29 i)) (fun u_ => wM cy q N R (va_up (va_up X 28 u_.1) 29 u_.2)) := by
  refine MS.mk2 (by decide) (Nat.le_of_ble_eq_true rfl) [(0, .ref (q 33)), (1, .int (nI w)), (2, .int (nI ws)), (3, .int hn), (4, .int (nI (2 ^ N 17 - 1)))] rfl ?_
  intro p e s m args below meth c A ls Q hQ S hr hlk hnm hK hA I hl
  have hW0 := hW
  obtain ⟨hB, hPt, hBo, hH, hM, hQu⟩ := hW0
  have hB0 := hB
  obtain ⟨b0, b6, b17, b24, b30⟩ := hB0
  have hp2 := pow_256 b17
  have hp1 := Nat.two_pow_pos (N 17)
  refine lv_iconst (v := nI 0) S.1 S.2.1 dX12_planFrom_0 (by decide) ?_
  refine lv_istore (lv' := [(5, .int (nI 0)), (0, .ref (q 33)), (1, .int (nI w)), (2, .int (nI ws)), (3, .int hn), (4, .int (nI (2 ^ N 17 - 1)))]) S.1 S.2.1 dX12_planFrom_1 hl (by decide) rfl (fun ls hl => ?_)
  have loop_3 : ∀ (k_ : Nat) (d : Nat) (r28 : Nat → Int32) (r29 : Nat → Int32), 2 ^ N 17 - d < k_ → d ≤ 2 ^ N 17 → (∀ z, z < d → r28 (256 * w + z) = (bsF N R w hn rs z (2 ^ N 17)).1 ∧ (¬ (bsF N R w hn rs z (2 ^ N 17)).1 < 0 → r29 (256 * w + z) = nI (bsF N R w hn rs z (2 ^ N 17)).2)) → (∀ i, 256 * (w + 1) ≤ i → r28 i = X 28 i ∧ r29 i = X 29 i) → ∀ (H : Heap) (locs : List Loc) (ls : Array Slot), IX D A s.heap (wM cy q N R (va_up (va_up X 28 r28) 29 r29)) H locs → lv_has ls 10 [(0, .ref (q 33)), (1, .int (nI w)), (2, .int (nI ws)), (3, .int hn), (4, .int (nI (2 ^ N 17 - 1))), (5, .int (nI d))] → W p l e rm_X12_planFrom s m args below meth c H locs 0 0 Q (F0 m 3 ls []) := by
    intro k_
    induction k_ with
    | zero => intro d r28 r29 hm_; exact absurd hm_ (Nat.not_lt_zero _)
    | succ k_ ih_3 =>
      intro d r28 r29 hm_ hd h28 hup H locs ls I hl
      refine lv_iload S.1 S.2.1 dX12_planFrom_3 (lv_at hl 5 rfl) ?_
      refine lv_iload S.1 S.2.1 dX12_planFrom_5 (lv_at hl 4 rfl) ?_
      refine lv_icmp_gt (tgt := 172) S.1 S.2.1 dX12_planFrom_7 (by decide) (fun c_7 => ?_) (fun c_7 => ?_)
      · skip
        have c_7o := c_7
        have c_7 := nI_cgtT (by omega) (by omega) c_7
        exact ru_v hQ S hr hlk (u := (r28, r29)) I (⟨rfl, fun z hz => h28 z (by omega), hup⟩) dX12_planFrom_172
      · skip
        have c_7o := c_7
        have c_7 := nI_cgtF (by omega) (by omega) c_7
        have hd2 : d < 2 ^ N 17 := by omega
        refine lv_iconst (v := (-1)) S.1 S.2.1 dX12_planFrom_10 (by decide) ?_
        refine lv_istore (lv' := [(6, .int (-1)), (0, .ref (q 33)), (1, .int (nI w)), (2, .int (nI ws)), (3, .int hn), (4, .int (nI (2 ^ N 17 - 1))), (5, .int (nI d))]) S.1 S.2.1 dX12_planFrom_11 hl (by decide) rfl (fun ls hl => ?_)
        refine lv_sipush (v := nI 256) S.1 S.2.1 dX12_planFrom_13 (by decide) ?_
        refine lv_iload_n S.1 S.2.1 dX12_planFrom_16 rfl (lv_at hl 2 rfl) ?_
        refine lv_imul S.1 S.2.1 dX12_planFrom_17 ?_
        refine tI (y := nI (256 * w)) (pk_mul _ _) ?_
        refine lv_iload S.1 S.2.1 dX12_planFrom_18 (lv_at hl 6 rfl) ?_
        refine lv_iadd S.1 S.2.1 dX12_planFrom_20 ?_
        refine tI (y := nI (256 * w + d)) (nI_add _ _) ?_
        refine lv_istore (lv' := [(7, .int (nI (256 * w + d))), (6, .int (-1)), (0, .ref (q 33)), (1, .int (nI w)), (2, .int (nI ws)), (3, .int hn), (4, .int (nI (2 ^ N 17 - 1))), (5, .int (nI d))]) S.1 S.2.1 dX12_planFrom_21 hl (by decide) rfl (fun ls hl => ?_)
        refine lv_iconst (v := nI 0) S.1 S.2.1 dX12_planFrom_23 (by decide) ?_
        refine lv_istore (lv' := [(8, .int (nI 0)), (7, .int (nI (256 * w + d))), (6, .int (-1)), (0, .ref (q 33)), (1, .int (nI w)), (2, .int (nI ws)), (3, .int hn), (4, .int (nI (2 ^ N 17 - 1))), (5, .int (nI d))]) S.1 S.2.1 dX12_planFrom_24 hl (by decide) rfl (fun ls hl => ?_)
        have loop_26 : ∀ (k_ : Nat) (n : Nat) (be : Int32) (cb : Nat) (k29 : Nat → Int32), 2 ^ N 17 - n < k_ → n ≤ 2 ^ N 17 → (be, cb) = bsF N R w hn rs d n → (∀ i, i ≠ 256 * w + d → k29 i = r29 i) → (¬ be < 0 → k29 (256 * w + d) = nI cb) → ∀ (H : Heap) (locs : List Loc) (ls : Array Slot), IX D A s.heap (wM cy q N R (va_up (va_up X 28 r28) 29 k29)) H locs → lv_has ls 10 [(0, .ref (q 33)), (1, .int (nI w)), (2, .int (nI ws)), (3, .int hn), (4, .int (nI (2 ^ N 17 - 1))), (5, .int (nI d)), (6, .int be), (7, .int (nI (256 * w + d))), (8, .int (nI n))] → W p l e rm_X12_planFrom s m args below meth c H locs 0 0 Q (F0 m 26 ls []) := by
          intro k_
          induction k_ with
          | zero => intro n be cb k29 hm_; exact absurd hm_ (Nat.not_lt_zero _)
          | succ k_ ih_26 =>
            intro n be cb k29 hm_ hn2 hbs hk29 hkc H locs ls I hl
            refine lv_iload S.1 S.2.1 dX12_planFrom_26 (lv_at hl 8 rfl) ?_
            refine lv_iload S.1 S.2.1 dX12_planFrom_28 (lv_at hl 4 rfl) ?_
            refine lv_icmp_gt (tgt := 157) S.1 S.2.1 dX12_planFrom_30 (by decide) (fun c_30 => ?_) (fun c_30 => ?_)
            · skip
              have c_30o := c_30
              have c_30 := nI_cgtT (by omega) (by omega) c_30
              have hbs9 : (be, cb) = bsF N R w hn rs d (2 ^ N 17) := by rw [hbs, show n = 2 ^ N 17 by omega]
              refine lv_aload_n S.1 S.2.1 dX12_planFrom_157 rfl (lv_at hl 0 rfl) ?_
              refine rg (ci := 12) (q0 := 0) (v := .ref (q 28)) 28 S hK I cl_X12 rfl wf_X12_83 (by decide) rfl rfl rfl dX12_planFrom_158 ?_
              refine lv_iload S.1 S.2.1 dX12_planFrom_161 (lv_at hl 7 rfl) ?_
              refine lv_iload S.1 S.2.1 dX12_planFrom_163 (lv_at hl 6 rfl) ?_
              refine si (q0 := 25) (n := 1792) (f := r28) (256 * w + d) S hK I rfl rfl (by omega) (by decide) dX12_planFrom_165 (fun H locs I => ?_)
              have I : IX D A s.heap (wM cy q N R (va_up (va_up X 28 (upd r28 (256 * w + d) be)) 29 k29)) H locs := I
              refine lv_iinc (v := nI (d + 1)) (lv' := [(5, .int (nI (d + 1))), (0, .ref (q 33)), (1, .int (nI w)), (2, .int (nI ws)), (3, .int hn), (4, .int (nI (2 ^ N 17 - 1))), (6, .int be), (7, .int (nI (256 * w + d))), (8, .int (nI n))]) S.1 S.2.1 dX12_planFrom_166 hl (k := 5) rfl (nI_1 _) (by decide) rfl (fun ls hl => ?_)
              refine lv_goto (tgt := 3) S.1 S.2.1 dX12_planFrom_169 (by decide) ?_
              exact ih_3 (d + 1) (upd r28 (256 * w + d) be) k29 (by omega) (by omega) (pf_row (by omega) h28 (by rw [← hbs9]) (by rw [← hbs9]; exact hkc) hk29) (fun i hi => ⟨by rw [pk_un (by omega)]; exact (hup i hi).1, by rw [hk29 i (by omega)]; exact (hup i hi).2⟩) _ _ _ I (lv_sub hl [1, 2, 3, 4, 5, 0] rfl)
            · skip
              have c_30o := c_30
              have c_30 := nI_cgtF (by omega) (by omega) c_30
              have hn3 : n < 2 ^ N 17 := by omega
              have hdn : d ||| n < 2 ^ N 17 := or_lt2 hd2 hn3
              have hnd : n &&& d < 2 ^ N 17 := Nat.lt_of_le_of_lt Nat.and_le_left hn3
              refine lv_iload S.1 S.2.1 dX12_planFrom_33 (lv_at hl 8 rfl) ?_
              refine lv_iload S.1 S.2.1 dX12_planFrom_35 (lv_at hl 5 rfl) ?_
              refine lv_iand S.1 S.2.1 dX12_planFrom_37 ?_
              refine tI (y := nI (n &&& d)) (fa_and _ _) ?_
              refine lv_if_ne (tgt := 151) S.1 S.2.1 dX12_planFrom_38 (by decide) (fun c_38 => ?_) (fun c_38 => ?_)
              · skip
                have c_38o := c_38
                have c_38 := nI_zneT (by omega) c_38
                refine lv_iinc (v := nI (n + 1)) (lv' := [(8, .int (nI (n + 1))), (0, .ref (q 33)), (1, .int (nI w)), (2, .int (nI ws)), (3, .int hn), (4, .int (nI (2 ^ N 17 - 1))), (5, .int (nI d)), (6, .int be), (7, .int (nI (256 * w + d)))]) S.1 S.2.1 dX12_planFrom_151 hl (k := 8) rfl (nI_1 _) (by decide) rfl (fun ls hl => ?_)
                refine lv_goto (tgt := 26) S.1 S.2.1 dX12_planFrom_154 (by decide) ?_
                exact ih_26 (n + 1) be cb k29 (by omega) (by omega) (by rw [bsF, ← hbs, if_neg (fun h => c_38 h.1)]) hk29 hkc _ _ _ I (lv_sub hl [1, 2, 3, 4, 5, 6, 7, 8, 0] rfl)
              · skip
                have c_38o := c_38
                have c_38 := nI_zneF (by omega) c_38
                refine lv_aload_n S.1 S.2.1 dX12_planFrom_41 rfl (lv_at hl 0 rfl) ?_
                refine rg (ci := 12) (q0 := 0) (v := .ref (q 27)) 27 S hK I cl_X12 rfl wf_X12_80 (by decide) rfl rfl rfl dX12_planFrom_42 ?_
                refine lv_iload S.1 S.2.1 dX12_planFrom_45 (lv_at hl 5 rfl) ?_
                refine lv_iload S.1 S.2.1 dX12_planFrom_47 (lv_at hl 8 rfl) ?_
                refine lv_ior S.1 S.2.1 dX12_planFrom_49 ?_
                refine tI (y := nI (d ||| n)) (fa_or _ _) ?_
                refine rz (q0 := 24) (n := 256) (f := X 27) (d ||| n) S hK I rfl rfl (by omega) (by decide) dX12_planFrom_50 ?_
                refine tI (y := bI (soB N R (d ||| n))) (hsd _ hdn) ?_
                refine lv_if_eq (tgt := 151) S.1 S.2.1 dX12_planFrom_51 (by decide) (fun c_51 => ?_) (fun c_51 => ?_)
                · skip
                  have c_51 := bI_f c_51
                  refine lv_iinc (v := nI (n + 1)) (lv' := [(8, .int (nI (n + 1))), (0, .ref (q 33)), (1, .int (nI w)), (2, .int (nI ws)), (3, .int hn), (4, .int (nI (2 ^ N 17 - 1))), (5, .int (nI d)), (6, .int be), (7, .int (nI (256 * w + d)))]) S.1 S.2.1 dX12_planFrom_151 hl (k := 8) rfl (nI_1 _) (by decide) rfl (fun ls hl => ?_)
                  refine lv_goto (tgt := 26) S.1 S.2.1 dX12_planFrom_154 (by decide) ?_
                  exact ih_26 (n + 1) be cb k29 (by omega) (by omega) (by rw [bsF, ← hbs, if_neg (fun h => by rw [c_51] at h; exact Bool.false_ne_true h.2.1)]) hk29 hkc _ _ _ I (lv_sub hl [1, 2, 3, 4, 5, 6, 7, 8, 0] rfl)
                · skip
                  have c_51 := bI_t c_51
                  refine lv_aload_n S.1 S.2.1 dX12_planFrom_54 rfl (lv_at hl 0 rfl) ?_
                  refine lv_iload S.1 S.2.1 dX12_planFrom_55 (lv_at hl 8 rfl) ?_
                  refine lv_iload_n S.1 S.2.1 dX12_planFrom_57 rfl (lv_at hl 1 rfl) ?_
                  refine lv_iload_n S.1 S.2.1 dX12_planFrom_58 rfl (lv_at hl 3 rfl) ?_
                  refine cV (np := 3) (ci := 12) (q0 := 0) (As := [.int (nI n), .int (nI w), .int hn]) (rest := []) S (c_mayIn l D cy q N R (va_up (va_up X 28 r28) 29 k29) n w hn hW (by omega)) hK hA I wm_X12_169 wi_X12_mayIn ws_X12_X12_mayIn wn_X12 wk_X12_mayIn ⟨rfl, hd_X12_mayIn⟩ rfl ⟨by decide, by decide⟩ rfl rfl hl.1 rfl (Nat.le_of_ble_eq_true rfl) dX12_planFrom_59 ⟨by decide, by decide⟩ (fun v_ u_ H locs h_ I => ?_)
                  obtain rfl := h_
                  have I : IX D A s.heap (wM cy q N R (va_up (va_up X 28 r28) 29 k29)) H locs := I
                  refine W.eq (g2 := F0 m 62 ls [.int (bI (mayB N R n w hn))]) rfl ?_
                  refine lv_if_eq (tgt := 151) S.1 S.2.1 dX12_planFrom_62 (by decide) (fun c_62 => ?_) (fun c_62 => ?_)
                  · skip
                    have c_62 := bI_f c_62
                    refine lv_iinc (v := nI (n + 1)) (lv' := [(8, .int (nI (n + 1))), (0, .ref (q 33)), (1, .int (nI w)), (2, .int (nI ws)), (3, .int hn), (4, .int (nI (2 ^ N 17 - 1))), (5, .int (nI d)), (6, .int be), (7, .int (nI (256 * w + d)))]) S.1 S.2.1 dX12_planFrom_151 hl (k := 8) rfl (nI_1 _) (by decide) rfl (fun ls hl => ?_)
                    refine lv_goto (tgt := 26) S.1 S.2.1 dX12_planFrom_154 (by decide) ?_
                    exact ih_26 (n + 1) be cb k29 (by omega) (by omega) (by rw [bsF, ← hbs, if_neg (fun h => by rw [c_62] at h; exact Bool.false_ne_true h.2.2.1)]) hk29 hkc _ _ _ I (lv_sub hl [1, 2, 3, 4, 5, 6, 7, 8, 0] rfl)
                  · skip
                    have c_62 := bI_t c_62
                    refine lv_iload_n S.1 S.2.1 dX12_planFrom_65 rfl (lv_at hl 1 rfl) ?_
                    refine lv_iconst (v := nI 1) S.1 S.2.1 dX12_planFrom_66 (by decide) ?_
                    refine lv_iadd S.1 S.2.1 dX12_planFrom_67 ?_
                    refine tI (y := nI (w + 1)) (nI_add _ _) ?_
                    refine lv_iload_n S.1 S.2.1 dX12_planFrom_68 rfl (lv_at hl 2 rfl) ?_
                    have join_103 : ∀ (xr : Int32), xr = rs (d ||| n) → ∀ (H : Heap) (locs : List Loc) (ls : Array Slot), IX D A s.heap (wM cy q N R (va_up (va_up X 28 r28) 29 k29)) H locs → lv_has ls 10 [(0, .ref (q 33)), (1, .int (nI w)), (2, .int (nI ws)), (3, .int hn), (4, .int (nI (2 ^ N 17 - 1))), (5, .int (nI d)), (6, .int be), (7, .int (nI (256 * w + d))), (8, .int (nI n))] → W p l e rm_X12_planFrom s m args below meth c H locs 0 0 Q (F0 m 103 ls [.int xr]) := by
                      intro xr hxr H locs ls I hl
                      refine lv_istore (lv' := [(9, .int xr), (0, .ref (q 33)), (1, .int (nI w)), (2, .int (nI ws)), (3, .int hn), (4, .int (nI (2 ^ N 17 - 1))), (5, .int (nI d)), (6, .int be), (7, .int (nI (256 * w + d))), (8, .int (nI n))]) S.1 S.2.1 dX12_planFrom_103 hl (by decide) rfl (fun ls hl => ?_)
                      refine lv_iload S.1 S.2.1 dX12_planFrom_105 (lv_at hl 0 rfl) ?_
                      refine lv_if_lt (tgt := 151) S.1 S.2.1 dX12_planFrom_107 (by decide) (fun c_107 => ?_) (fun c_107 => ?_)
                      · skip
                        refine lv_iinc (v := nI (n + 1)) (lv' := [(8, .int (nI (n + 1))), (9, .int xr), (0, .ref (q 33)), (1, .int (nI w)), (2, .int (nI ws)), (3, .int hn), (4, .int (nI (2 ^ N 17 - 1))), (5, .int (nI d)), (6, .int be), (7, .int (nI (256 * w + d)))]) S.1 S.2.1 dX12_planFrom_151 hl (k := 9) rfl (nI_1 _) (by decide) rfl (fun ls hl => ?_)
                        refine lv_goto (tgt := 26) S.1 S.2.1 dX12_planFrom_154 (by decide) ?_
                        exact ih_26 (n + 1) be cb k29 (by omega) (by omega) (by rw [bsF, ← hbs, if_neg (fun h => h.2.2.2.1 (by rw [← hxr]; exact c_107))]) hk29 hkc _ _ _ I (lv_sub hl [2, 3, 4, 5, 6, 7, 8, 9, 0] rfl)
                      · skip
                        refine lv_iload S.1 S.2.1 dX12_planFrom_110 (lv_at hl 7 rfl) ?_
                        refine lv_if_lt (tgt := 130) S.1 S.2.1 dX12_planFrom_112 (by decide) (fun c_112 => ?_) (fun c_112 => ?_)
                        · skip
                          refine lv_iload S.1 S.2.1 dX12_planFrom_130 (lv_at hl 0 rfl) ?_
                          refine lv_aload_n S.1 S.2.1 dX12_planFrom_132 rfl (lv_at hl 1 rfl) ?_
                          refine rg (ci := 12) (q0 := 0) (v := .ref (q 26)) 26 S hK I cl_X12 rfl wf_X12_77 (by decide) rfl rfl rfl dX12_planFrom_133 ?_
                          refine lv_iload S.1 S.2.1 dX12_planFrom_136 (lv_at hl 6 rfl) ?_
                          refine ri (q0 := 23) (n := 256) (f := X 26) d S hK I rfl rfl (by omega) (by decide) dX12_planFrom_138 ?_
                          refine tI (y := nI (rk N R d)) (hrk _ hd2) ?_
                          refine lv_iadd S.1 S.2.1 dX12_planFrom_139 ?_
                          refine lv_istore (lv' := [(6, .int (xr + (nI (rk N R d)))), (9, .int xr), (0, .ref (q 33)), (1, .int (nI w)), (2, .int (nI ws)), (3, .int hn), (4, .int (nI (2 ^ N 17 - 1))), (5, .int (nI d)), (7, .int (nI (256 * w + d))), (8, .int (nI n))]) S.1 S.2.1 dX12_planFrom_140 hl (by decide) rfl (fun ls hl => ?_)
                          refine lv_aload_n S.1 S.2.1 dX12_planFrom_142 rfl (lv_at hl 2 rfl) ?_
                          refine rg (ci := 12) (q0 := 0) (v := .ref (q 29)) 29 S hK I cl_X12 rfl wf_X12_86 (by decide) rfl rfl rfl dX12_planFrom_143 ?_
                          refine lv_iload S.1 S.2.1 dX12_planFrom_146 (lv_at hl 8 rfl) ?_
                          refine lv_iload S.1 S.2.1 dX12_planFrom_148 (lv_at hl 9 rfl) ?_
                          refine si (q0 := 26) (n := 1792) (f := k29) (256 * w + d) S hK I rfl rfl (by omega) (by decide) dX12_planFrom_150 (fun H locs I => ?_)
                          have I : IX D A s.heap (wM cy q N R (va_up (va_up X 28 r28) 29 (upd k29 (256 * w + d) (nI n)))) H locs := I
                          refine lv_iinc (v := nI (n + 1)) (lv' := [(8, .int (nI (n + 1))), (6, .int (xr + (nI (rk N R d)))), (9, .int xr), (0, .ref (q 33)), (1, .int (nI w)), (2, .int (nI ws)), (3, .int hn), (4, .int (nI (2 ^ N 17 - 1))), (5, .int (nI d)), (7, .int (nI (256 * w + d)))]) S.1 S.2.1 dX12_planFrom_151 hl (k := 9) rfl (nI_1 _) (by decide) rfl (fun ls hl => ?_)
                          refine lv_goto (tgt := 26) S.1 S.2.1 dX12_planFrom_154 (by decide) ?_
                          exact ih_26 (n + 1) (xr + (nI (rk N R d))) n (upd k29 (256 * w + d) (nI n)) (by omega) (by omega) (by rw [bsF, ← hbs, if_pos ⟨c_38, c_51, c_62, by rw [← hxr]; exact c_107, Or.inl c_112⟩, ← hxr]) (fun i hi => by rw [pk_un hi]; exact hk29 i hi) (fun _ => pk_us) _ _ _ I (lv_sub hl [3, 4, 5, 6, 7, 8, 1, 9, 0] rfl)
                        · skip
                          refine lv_iload S.1 S.2.1 dX12_planFrom_115 (lv_at hl 0 rfl) ?_
                          refine lv_aload_n S.1 S.2.1 dX12_planFrom_117 rfl (lv_at hl 1 rfl) ?_
                          refine rg (ci := 12) (q0 := 0) (v := .ref (q 26)) 26 S hK I cl_X12 rfl wf_X12_77 (by decide) rfl rfl rfl dX12_planFrom_118 ?_
                          refine lv_iload S.1 S.2.1 dX12_planFrom_121 (lv_at hl 6 rfl) ?_
                          refine ri (q0 := 23) (n := 256) (f := X 26) d S hK I rfl rfl (by omega) (by decide) dX12_planFrom_123 ?_
                          refine tI (y := nI (rk N R d)) (hrk _ hd2) ?_
                          refine lv_iadd S.1 S.2.1 dX12_planFrom_124 ?_
                          refine lv_iload S.1 S.2.1 dX12_planFrom_125 (lv_at hl 7 rfl) ?_
                          refine lv_icmp_ge (tgt := 151) S.1 S.2.1 dX12_planFrom_127 (by decide) (fun c_127 => ?_) (fun c_127 => ?_)
                          · skip
                            refine lv_iinc (v := nI (n + 1)) (lv' := [(8, .int (nI (n + 1))), (9, .int xr), (0, .ref (q 33)), (1, .int (nI w)), (2, .int (nI ws)), (3, .int hn), (4, .int (nI (2 ^ N 17 - 1))), (5, .int (nI d)), (6, .int be), (7, .int (nI (256 * w + d)))]) S.1 S.2.1 dX12_planFrom_151 hl (k := 9) rfl (nI_1 _) (by decide) rfl (fun ls hl => ?_)
                            refine lv_goto (tgt := 26) S.1 S.2.1 dX12_planFrom_154 (by decide) ?_
                            exact ih_26 (n + 1) be cb k29 (by omega) (by omega) (by rw [bsF, ← hbs, if_neg (fun h => h.2.2.2.2.elim (fun h1 => c_112 h1) (fun h1 => by rw [← hxr] at h1; exact h1 c_127))]) hk29 hkc _ _ _ I (lv_sub hl [2, 3, 4, 5, 6, 7, 8, 9, 0] rfl)
                          · skip
                            refine lv_iload S.1 S.2.1 dX12_planFrom_130 (lv_at hl 0 rfl) ?_
                            refine lv_aload_n S.1 S.2.1 dX12_planFrom_132 rfl (lv_at hl 1 rfl) ?_
                            refine rg (ci := 12) (q0 := 0) (v := .ref (q 26)) 26 S hK I cl_X12 rfl wf_X12_77 (by decide) rfl rfl rfl dX12_planFrom_133 ?_
                            refine lv_iload S.1 S.2.1 dX12_planFrom_136 (lv_at hl 6 rfl) ?_
                            refine ri (q0 := 23) (n := 256) (f := X 26) d S hK I rfl rfl (by omega) (by decide) dX12_planFrom_138 ?_
                            refine tI (y := nI (rk N R d)) (hrk _ hd2) ?_
                            refine lv_iadd S.1 S.2.1 dX12_planFrom_139 ?_
                            refine lv_istore (lv' := [(6, .int (xr + (nI (rk N R d)))), (9, .int xr), (0, .ref (q 33)), (1, .int (nI w)), (2, .int (nI ws)), (3, .int hn), (4, .int (nI (2 ^ N 17 - 1))), (5, .int (nI d)), (7, .int (nI (256 * w + d))), (8, .int (nI n))]) S.1 S.2.1 dX12_planFrom_140 hl (by decide) rfl (fun ls hl => ?_)
                            refine lv_aload_n S.1 S.2.1 dX12_planFrom_142 rfl (lv_at hl 2 rfl) ?_
                            refine rg (ci := 12) (q0 := 0) (v := .ref (q 29)) 29 S hK I cl_X12 rfl wf_X12_86 (by decide) rfl rfl rfl dX12_planFrom_143 ?_
                            refine lv_iload S.1 S.2.1 dX12_planFrom_146 (lv_at hl 8 rfl) ?_
                            refine lv_iload S.1 S.2.1 dX12_planFrom_148 (lv_at hl 9 rfl) ?_
                            refine si (q0 := 26) (n := 1792) (f := k29) (256 * w + d) S hK I rfl rfl (by omega) (by decide) dX12_planFrom_150 (fun H locs I => ?_)
                            have I : IX D A s.heap (wM cy q N R (va_up (va_up X 28 r28) 29 (upd k29 (256 * w + d) (nI n)))) H locs := I
                            refine lv_iinc (v := nI (n + 1)) (lv' := [(8, .int (nI (n + 1))), (6, .int (xr + (nI (rk N R d)))), (9, .int xr), (0, .ref (q 33)), (1, .int (nI w)), (2, .int (nI ws)), (3, .int hn), (4, .int (nI (2 ^ N 17 - 1))), (5, .int (nI d)), (7, .int (nI (256 * w + d)))]) S.1 S.2.1 dX12_planFrom_151 hl (k := 9) rfl (nI_1 _) (by decide) rfl (fun ls hl => ?_)
                            refine lv_goto (tgt := 26) S.1 S.2.1 dX12_planFrom_154 (by decide) ?_
                            exact ih_26 (n + 1) (xr + (nI (rk N R d))) n (upd k29 (256 * w + d) (nI n)) (by omega) (by omega) (by rw [bsF, ← hbs, if_pos ⟨c_38, c_51, c_62, by rw [← hxr]; exact c_107, Or.inr (by rw [← hxr]; exact c_127)⟩, ← hxr]) (fun i hi => by rw [pk_un hi]; exact hk29 i hi) (fun _ => pk_us) _ _ _ I (lv_sub hl [3, 4, 5, 6, 7, 8, 1, 9, 0] rfl)
                    refine lv_icmp_ne (tgt := 85) S.1 S.2.1 dX12_planFrom_69 (by decide) (fun c_69 => ?_) (fun c_69 => ?_)
                    · skip
                      have c_69o := c_69
                      have c_69 := nI_cneT (by omega) (by omega) c_69
                      refine lv_aload_n S.1 S.2.1 dX12_planFrom_85 rfl (lv_at hl 0 rfl) ?_
                      refine rg (ci := 12) (q0 := 0) (v := .ref (q 28)) 28 S hK I cl_X12 rfl wf_X12_83 (by decide) rfl rfl rfl dX12_planFrom_86 ?_
                      refine lv_sipush (v := nI 256) S.1 S.2.1 dX12_planFrom_89 (by decide) ?_
                      refine lv_iload_n S.1 S.2.1 dX12_planFrom_92 rfl (lv_at hl 1 rfl) ?_
                      refine lv_iconst (v := nI 1) S.1 S.2.1 dX12_planFrom_93 (by decide) ?_
                      refine lv_iadd S.1 S.2.1 dX12_planFrom_94 ?_
                      refine tI (y := nI (w + 1)) (nI_add _ _) ?_
                      refine lv_imul S.1 S.2.1 dX12_planFrom_95 ?_
                      refine tI (y := nI (256 * (w + 1))) (pk_mul _ _) ?_
                      refine lv_iload S.1 S.2.1 dX12_planFrom_96 (lv_at hl 5 rfl) ?_
                      refine lv_iload S.1 S.2.1 dX12_planFrom_98 (lv_at hl 8 rfl) ?_
                      refine lv_ior S.1 S.2.1 dX12_planFrom_100 ?_
                      refine tI (y := nI (d ||| n)) (fa_or _ _) ?_
                      refine lv_iadd S.1 S.2.1 dX12_planFrom_101 ?_
                      refine tI (y := nI ((256 * (w + 1)) + (d ||| n))) (nI_add _ _) ?_
                      refine ri (q0 := 25) (n := 1792) (f := r28) ((256 * (w + 1)) + (d ||| n)) S hK I rfl rfl (by omega) (by decide) dX12_planFrom_102 ?_
                      exact join_103 (r28 ((256 * (w + 1)) + (d ||| n))) (by rw [← hrest _ hdn, if_neg c_69]; exact (hup _ (by omega)).1) _ _ _ I (lv_sub hl [0, 1, 2, 3, 4, 5, 6, 7, 8] rfl)
                    · skip
                      have c_69o := c_69
                      have c_69 := nI_cneF (by omega) (by omega) c_69
                      refine lv_aload_n S.1 S.2.1 dX12_planFrom_72 rfl (lv_at hl 0 rfl) ?_
                      refine rg (ci := 12) (q0 := 0) (v := .ref (q 26)) 26 S hK I cl_X12 rfl wf_X12_77 (by decide) rfl rfl rfl dX12_planFrom_73 ?_
                      refine lv_iload S.1 S.2.1 dX12_planFrom_76 (lv_at hl 5 rfl) ?_
                      refine lv_iload S.1 S.2.1 dX12_planFrom_78 (lv_at hl 8 rfl) ?_
                      refine lv_ior S.1 S.2.1 dX12_planFrom_80 ?_
                      refine tI (y := nI (d ||| n)) (fa_or _ _) ?_
                      refine ri (q0 := 23) (n := 256) (f := X 26) (d ||| n) S hK I rfl rfl (by omega) (by decide) dX12_planFrom_81 ?_
                      refine lv_goto (tgt := 103) S.1 S.2.1 dX12_planFrom_82 (by decide) ?_
                      exact join_103 (X 26 (d ||| n)) (by rw [← hrest _ hdn, if_pos c_69]) _ _ _ I (lv_sub hl [0, 1, 2, 3, 4, 5, 6, 7, 8] rfl)
        exact loop_26 _ 0 (-1) 0 r29 (Nat.lt_succ_self _) (Nat.zero_le _) rfl (fun i hi => rfl) (fun h => absurd (by decide) h) _ _ _ I (lv_sub hl [3, 4, 5, 6, 7, 8, 2, 1, 0] rfl)
  exact loop_3 _ 0 (X 28) (X 29) (Nat.lt_succ_self _) (Nat.zero_le _) (fun z hz => absurd hz (Nat.not_lt_zero z)) (fun i hi => ⟨rfl, rfl⟩) _ _ _ I (lv_sub hl [1, 2, 3, 4, 5, 0] rfl)
