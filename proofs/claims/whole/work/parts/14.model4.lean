set_option maxHeartbeats 4000000 in
set_option maxRecDepth 100000 in
theorem c_told (l : Launch) (D : va_G) (cy : Nat → ClassId) (q : Nat → Nat) (N : Nat → Nat) (R X : Nat → Nat → Int32) (h w : Int32) (hW : WFm N R) : MS (α := (Nat → Nat → Int32)) l D cy yX12_told cX12_told 3 (Option.some FieldType.int) rm_X12_told [.ref (q 33), .int h, .int w] (wM cy q N R X) (fun v_ (_ : (Nat → Nat → Int32)) => v_ = some (.int (sp_told N R h w))) (fun u_ => wM cy q N R u_) := by
  refine MS.mk2 (by decide) (Nat.le_of_ble_eq_true rfl) [(0, .ref (q 33)), (1, .int h), (2, .int w)] rfl ?_
  intro p e s m args below meth c A ls Q hQ S hr hlk hnm hK hA I hl
  have hW0 := hW
  obtain ⟨hB, hPt, hBo, hH, hM, hQu⟩ := hW0
  have hB0 := hB
  obtain ⟨b0, b6, b17, b24, b30⟩ := hB0
  refine lv_aload_n S.1 S.2.1 dX12_told_0 rfl (lv_at hl 0 rfl) ?_
  refine lv_iload_n S.1 S.2.1 dX12_told_1 rfl (lv_at hl 1 rfl) ?_
  refine cV (np := 1) (ci := 12) (q0 := 0) (As := [.int h]) (rest := []) S (c_isHole l D cy q N R X (h) hB) hK hA I wm_X12_120 wi_X12_isHole ws_X12_X12_isHole wn_X12 wk_X12_isHole ⟨rfl, hd_X12_isHole⟩ rfl ⟨by decide, by decide⟩ rfl rfl hl.1 rfl (Nat.le_of_ble_eq_true rfl) dX12_told_2 ⟨by decide, by decide⟩ (fun v_ u_ H locs h_ I => ?_)
  obtain rfl := h_
  have I : IX D A s.heap (wM cy q N R X) H locs := I
  refine W.eq (g2 := F0 m 5 ls [.int (bI (isP (N 6) h))]) rfl ?_
  refine lv_if_ne (tgt := 10) S.1 S.2.1 dX12_told_5 (by decide) (fun c_5 => ?_) (fun c_5 => ?_)
  · skip
    have c_5 := bI_t c_5
    obtain ⟨j, h_j, rfl⟩ := isP_of c_5 (by omega)
    have e_j : (nI j).toNatClampNeg = j := nI_clamp (by omega)
    refine lv_aload_n S.1 S.2.1 dX12_told_10 rfl (lv_at hl 0 rfl) ?_
    refine lv_iconst (v := nI 0) S.1 S.2.1 dX12_told_11 (by decide) ?_
    refine cV (np := 1) (ci := 12) (q0 := 0) (As := [.int (nI 0)]) (rest := []) S (c_takeVersions l D cy q N R X 0 hW (by omega)) hK hA I wm_X12_140 wi_X12_takeVersions ws_X12_X12_takeVersions wn_X12 wk_X12_takeVersions ⟨rfl, hd_X12_takeVersions⟩ rfl ⟨by decide, by decide⟩ rfl rfl hl.1 rfl (Nat.le_of_ble_eq_true rfl) dX12_told_12 ⟨by decide, by decide⟩ (fun v_ u_ H locs h_ I => ?_)
    obtain ⟨rfl, hnw_12⟩ := h_
    generalize u_ = nw_12 at hnw_12 I
    have hnw_12 : ∀ p, p < N 0 → nw_12 p = vtF R 0 (N 17) p := hnw_12
    have I : IX D A s.heap (wM cy q N R (va_up X 13 nw_12)) H locs := I
    refine W.eq (g2 := F0 m 15 ls []) rfl ?_
    refine lv_iload_n S.1 S.2.1 dX12_told_15 rfl (lv_at hl 2 rfl) ?_
    rcases sw_5 w with hsw | hsw | hsw | hsw | hsw | hsw
    · skip
      refine lv_tableIn (off := 36) (tgt := 52) S.1 S.2.1 dX12_told_16 (by rw [hsw]; decide) (by rw [hsw]; decide) (by rw [hsw]; rfl) (by decide) ?_
      refine lv_aload_n S.1 S.2.1 dX12_told_52 rfl (lv_at hl 0 rfl) ?_
      refine rg (ci := 12) (q0 := 0) (v := .ref (q 7)) 7 S hK I cl_X12 rfl wf_X12_26 (by decide) rfl rfl rfl dX12_told_53 ?_
      refine lv_iload_n S.1 S.2.1 dX12_told_56 rfl (lv_at hl 1 rfl) ?_
      refine ri (q0 := 6) (n := 12) (f := R 7) j S hK I rfl rfl (by omega) (by decide) dX12_told_57 ?_
      exact ru_i hQ S hr hlk (u := (va_up X 13 nw_12)) I (by simp [sp_told, c_5, e_j, hsw, bI, nI_one, nI_zero]) dX12_told_58
    · skip
      refine lv_tableIn (off := 43) (tgt := 59) S.1 S.2.1 dX12_told_16 (by rw [hsw]; decide) (by rw [hsw]; decide) (by rw [hsw]; rfl) (by decide) ?_
      refine lv_aload_n S.1 S.2.1 dX12_told_59 rfl (lv_at hl 0 rfl) ?_
      refine rg (ci := 12) (q0 := 0) (v := .ref (q 8)) 8 S hK I cl_X12 rfl wf_X12_29 (by decide) rfl rfl rfl dX12_told_60 ?_
      refine lv_iload_n S.1 S.2.1 dX12_told_63 rfl (lv_at hl 1 rfl) ?_
      refine ri (q0 := 7) (n := 12) (f := R 8) j S hK I rfl rfl (by omega) (by decide) dX12_told_64 ?_
      exact ru_i hQ S hr hlk (u := (va_up X 13 nw_12)) I (by simp [sp_told, c_5, e_j, hsw, bI, nI_one, nI_zero]) dX12_told_65
    · skip
      refine lv_tableIn (off := 50) (tgt := 66) S.1 S.2.1 dX12_told_16 (by rw [hsw]; decide) (by rw [hsw]; decide) (by rw [hsw]; rfl) (by decide) ?_
      refine lv_aload_n S.1 S.2.1 dX12_told_66 rfl (lv_at hl 0 rfl) ?_
      refine rg (ci := 12) (q0 := 0) (v := .ref (q 9)) 9 S hK I cl_X12 rfl wf_X12_32 (by decide) rfl rfl rfl dX12_told_67 ?_
      refine lv_iload_n S.1 S.2.1 dX12_told_70 rfl (lv_at hl 1 rfl) ?_
      refine ri (q0 := 8) (n := 12) (f := R 9) j S hK I rfl rfl (by omega) (by decide) dX12_told_71 ?_
      exact ru_i hQ S hr hlk (u := (va_up X 13 nw_12)) I (by simp [sp_told, c_5, e_j, hsw, bI, nI_one, nI_zero]) dX12_told_72
    · skip
      refine lv_tableIn (off := 57) (tgt := 73) S.1 S.2.1 dX12_told_16 (by rw [hsw]; decide) (by rw [hsw]; decide) (by rw [hsw]; rfl) (by decide) ?_
      refine lv_aload_n S.1 S.2.1 dX12_told_73 rfl (lv_at hl 0 rfl) ?_
      refine rg (ci := 12) (q0 := 0) (v := .ref (q 10)) 10 S hK I cl_X12 rfl wf_X12_35 (by decide) rfl rfl rfl dX12_told_74 ?_
      refine lv_iload_n S.1 S.2.1 dX12_told_77 rfl (lv_at hl 1 rfl) ?_
      refine ri (q0 := 9) (n := 12) (f := R 10) j S hK I rfl rfl (by omega) (by decide) dX12_told_78 ?_
      exact ru_i hQ S hr hlk (u := (va_up X 13 nw_12)) I (by simp [sp_told, c_5, e_j, hsw, bI, nI_one, nI_zero]) dX12_told_79
    · skip
      refine lv_tableIn (off := 64) (tgt := 80) S.1 S.2.1 dX12_told_16 (by rw [hsw]; decide) (by rw [hsw]; decide) (by rw [hsw]; rfl) (by decide) ?_
      refine lv_aload_n S.1 S.2.1 dX12_told_80 rfl (lv_at hl 0 rfl) ?_
      refine lv_iload_n S.1 S.2.1 dX12_told_81 rfl (lv_at hl 1 rfl) ?_
      refine cV (np := 1) (ci := 12) (q0 := 0) (As := [.int (nI j)]) (rest := []) S (c_stands l D cy q N R (va_up X 13 nw_12) j hW (by omega)) hK hA I wm_X12_126 wi_X12_stands ws_X12_X12_stands wn_X12 wk_X12_stands ⟨rfl, hd_X12_stands⟩ rfl ⟨by decide, by decide⟩ rfl rfl hl.1 rfl (Nat.le_of_ble_eq_true rfl) dX12_told_82 ⟨by decide, by decide⟩ (fun v_ u_ H locs h_ I => ?_)
      obtain rfl := h_
      have I : IX D A s.heap (wM cy q N R (va_up X 13 nw_12)) H locs := I
      refine W.eq (g2 := F0 m 85 ls [.int (bI (stB R nw_12 j))]) rfl ?_
      refine tI (y := bI (stB R (R 1) j)) (congrArg bI ((stB_cg hH hnw_12 (by omega)).trans (by rw [vt0]))) ?_
      refine lv_if_eq (tgt := 92) S.1 S.2.1 dX12_told_85 (by decide) (fun c_85 => ?_) (fun c_85 => ?_)
      · skip
        have c_85 := bI_f c_85
        refine lv_iconst (v := nI 0) S.1 S.2.1 dX12_told_92 (by decide) ?_
        exact ru_i hQ S hr hlk (u := (va_up X 13 nw_12)) I (by simp [sp_told, c_5, e_j, hsw, c_85, bI, nI_one, nI_zero]) dX12_told_93
      · skip
        have c_85 := bI_t c_85
        refine lv_iconst (v := nI 1) S.1 S.2.1 dX12_told_88 (by decide) ?_
        refine lv_goto (tgt := 93) S.1 S.2.1 dX12_told_89 (by decide) ?_
        exact ru_i hQ S hr hlk (u := (va_up X 13 nw_12)) I (by simp [sp_told, c_5, e_j, hsw, c_85, bI, nI_one, nI_zero]) dX12_told_93
    · skip
      refine lv_tableOut (tgt := 94) S.1 S.2.1 dX12_told_16 hsw.2 (by decide) ?_
      refine lv_iconst (v := (-1)) S.1 S.2.1 dX12_told_94 (by decide) ?_
      exact ru_i hQ S hr hlk (u := (va_up X 13 nw_12)) I (by simp [sp_told, c_5, e_j, hsw.1.1, hsw.1.2, bI, nI_one, nI_zero]) dX12_told_95
  · skip
    have c_5 := bI_f c_5
    refine lv_iconst (v := (-1)) S.1 S.2.1 dX12_told_8 (by decide) ?_
    exact ru_i hQ S hr hlk (u := X) I (by simp [sp_told, c_5, bI, nI_one, nI_zero]) dX12_told_9
set_option maxHeartbeats 4000000 in
set_option maxRecDepth 100000 in
theorem c_risk (l : Launch) (D : va_G) (cy : Nat → ClassId) (q : Nat → Nat) (N : Nat → Nat) (R X : Nat → Nat → Int32) (hW : WFm N R) : MS (α := (Nat → Nat → Int32)) l D cy yX12_risk cX12_risk 1 (Option.some FieldType.int) rm_X12_risk [.ref (q 33)] (wM cy q N R X) (fun v_ (_ : (Nat → Nat → Int32)) => v_ = some (.int (sp_risk N R))) (fun u_ => wM cy q N R u_) := by
  refine MS.mk2 (by decide) (Nat.le_of_ble_eq_true rfl) [(0, .ref (q 33))] rfl ?_
  intro p e s m args below meth c A ls Q hQ S hr hlk hnm hK hA I hl
  have hW0 := hW
  obtain ⟨hB, hPt, hBo, hH, hM, hQu⟩ := hW0
  have hB0 := hB
  obtain ⟨b0, b6, b17, b24, b30⟩ := hB0
  refine lv_aload_n S.1 S.2.1 dX12_risk_0 rfl (lv_at hl 0 rfl) ?_
  refine lv_iconst (v := nI 0) S.1 S.2.1 dX12_risk_1 (by decide) ?_
  refine cV (np := 1) (ci := 12) (q0 := 0) (As := [.int (nI 0)]) (rest := []) S (c_riskOf l D cy q N R X 0 hW (by omega)) hK hA I wm_X12_148 wi_X12_riskOf ws_X12_X12_riskOf wn_X12 wk_X12_riskOf ⟨rfl, hd_X12_riskOf⟩ rfl ⟨by decide, by decide⟩ rfl rfl hl.1 rfl (Nat.le_of_ble_eq_true rfl) dX12_risk_2 ⟨by decide, by decide⟩ (fun v_ u_ H locs h_ I => ?_)
  obtain ⟨rfl, hv_2, hr_2⟩ := h_
  obtain ⟨a13_2, a14_2, a15_2, a16_2⟩ := u_
  have hr_2 : RowS N R (vtF R 0 (N 17)) (eS N R (vtF R 0 (N 17))) a14_2 a15_2 a16_2 := hr_2
  have I : IX D A s.heap (wM cy q N R (va_up (va_up (va_up (va_up X 13 a13_2) 14 a14_2) 15 a15_2) 16 a16_2)) H locs := I
  refine W.eq (g2 := F0 m 5 ls [.int (nI (rsk N R (vtF R 0 (N 17))))]) rfl ?_
  refine tI (y := nI (rsk N R (R 1))) (by rw [vt0]) ?_
  exact ru_i hQ S hr hlk (u := (va_up (va_up (va_up (va_up X 13 a13_2) 14 a14_2) 15 a15_2) 16 a16_2)) I rfl dX12_risk_5
set_option maxHeartbeats 4000000 in
set_option maxRecDepth 100000 in
theorem c_taken (l : Launch) (D : va_G) (cy : Nat → ClassId) (q : Nat → Nat) (N : Nat → Nat) (R X : Nat → Nat → Int32) (hW : WFm N R) : MS (α := (Nat → Nat → Int32)) l D cy yX12_taken cX12_taken 4 (Option.some FieldType.int) rm_X12_taken [.ref (q 33)] (wM cy q N R X) (fun v_ (_ : (Nat → Nat → Int32)) => v_ = some (.int (sp_taken N R))) (fun u_ => wM cy q N R u_) := by
  refine MS.mk2 (by decide) (Nat.le_of_ble_eq_true rfl) [(0, .ref (q 33))] rfl ?_
  intro p e s m args below meth c A ls Q hQ S hr hlk hnm hK hA I hl
  have hW0 := hW
  obtain ⟨hB, hPt, hBo, hH, hM, hQu⟩ := hW0
  have hB0 := hB
  obtain ⟨b0, b6, b17, b24, b30⟩ := hB0
  refine lv_aload_n S.1 S.2.1 dX12_taken_0 rfl (lv_at hl 0 rfl) ?_
  refine lv_iconst (v := nI 0) S.1 S.2.1 dX12_taken_1 (by decide) ?_
  refine cV (np := 1) (ci := 12) (q0 := 0) (As := [.int (nI 0)]) (rest := []) S (c_riskOf l D cy q N R X 0 hW (by omega)) hK hA I wm_X12_148 wi_X12_riskOf ws_X12_X12_riskOf wn_X12 wk_X12_riskOf ⟨rfl, hd_X12_riskOf⟩ rfl ⟨by decide, by decide⟩ rfl rfl hl.1 rfl (Nat.le_of_ble_eq_true rfl) dX12_taken_2 ⟨by decide, by decide⟩ (fun v_ u_ H locs h_ I => ?_)
  obtain ⟨rfl, hv_2, hr_2⟩ := h_
  obtain ⟨a13_2, a14_2, a15_2, a16_2⟩ := u_
  have hr_2 : RowS N R (vtF R 0 (N 17)) (eS N R (vtF R 0 (N 17))) a14_2 a15_2 a16_2 := hr_2
  have I : IX D A s.heap (wM cy q N R (va_up (va_up (va_up (va_up X 13 a13_2) 14 a14_2) 15 a15_2) 16 a16_2)) H locs := I
  refine W.eq (g2 := F0 m 5 ls [.int (nI (rsk N R (vtF R 0 (N 17))))]) rfl ?_
  refine tI (y := nI (rsk N R (R 1))) (by rw [vt0]) ?_
  refine lv_istore_n (lv' := [(1, .int (nI (rsk N R (R 1)))), (0, .ref (q 33))]) S.1 S.2.1 dX12_taken_5 rfl hl (by decide) rfl (fun ls hl => ?_)
  refine lv_iconst (v := nI 0) S.1 S.2.1 dX12_taken_6 (by decide) ?_
  refine lv_istore_n (lv' := [(2, .int (nI 0)), (1, .int (nI (rsk N R (R 1)))), (0, .ref (q 33))]) S.1 S.2.1 dX12_taken_7 rfl hl (by decide) rfl (fun ls hl => ?_)
  refine lv_iconst (v := nI 0) S.1 S.2.1 dX12_taken_8 (by decide) ?_
  refine lv_istore_n (lv' := [(3, .int (nI 0)), (2, .int (nI 0)), (1, .int (nI (rsk N R (R 1)))), (0, .ref (q 33))]) S.1 S.2.1 dX12_taken_9 rfl hl (by decide) rfl (fun ls hl => ?_)
  have loop_10 : ∀ (k_ : Nat) (pa : Nat) (bi : Nat), N 0 - pa < k_ → pa ≤ N 0 → bi = msk (tkN (eS N R (R 1))) pa → ∀ (H : Heap) (locs : List Loc) (ls : Array Slot), IX D A s.heap (wM cy q N R (va_up (va_up (va_up (va_up X 13 a13_2) 14 a14_2) 15 a15_2) 16 a16_2)) H locs → lv_has ls 4 [(0, .ref (q 33)), (2, .int (nI bi)), (3, .int (nI pa))] → W p l e rm_X12_taken s m args below meth c H locs 0 0 Q (F0 m 10 ls []) := by
    intro k_
    induction k_ with
    | zero => intro pa bi hm_; exact absurd hm_ (Nat.not_lt_zero _)
    | succ k_ ih_10 =>
      intro pa bi hm_ hpa hb H locs ls I hl
      refine lv_iload_n S.1 S.2.1 dX12_taken_10 rfl (lv_at hl 2 rfl) ?_
      refine lv_aload_n S.1 S.2.1 dX12_taken_11 rfl (lv_at hl 0 rfl) ?_
      refine rg (ci := 12) (q0 := 0) (v := .int (nI (N 0))) 0 S hK I cl_X12 rfl wf_X12_95 (by decide) rfl rfl rfl dX12_taken_12 ?_
      refine lv_icmp_ge (tgt := 43) S.1 S.2.1 dX12_taken_15 (by decide) (fun c_15 => ?_) (fun c_15 => ?_)
      · skip
        have c_15o := c_15
        have c_15 := nI_cgeT (by omega) (by omega) c_15
        refine lv_iload_n S.1 S.2.1 dX12_taken_43 rfl (lv_at hl 1 rfl) ?_
        exact ru_i hQ S hr hlk (u := (va_up (va_up (va_up (va_up X 13 a13_2) 14 a14_2) 15 a15_2) 16 a16_2)) I (congrArg (fun z => some (Value.int z)) (by rw [hb, show pa = N 0 by omega]; rfl)) dX12_taken_44
      · skip
        have c_15o := c_15
        have c_15 := nI_cgeF (by omega) (by omega) c_15
        refine lv_iload_n S.1 S.2.1 dX12_taken_18 rfl (lv_at hl 1 rfl) ?_
        refine lv_aload_n S.1 S.2.1 dX12_taken_19 rfl (lv_at hl 0 rfl) ?_
        refine rg (ci := 12) (q0 := 0) (v := .ref (q 14)) 14 S hK I cl_X12 rfl wf_X12_47 (by decide) rfl rfl rfl dX12_taken_20 ?_
        refine lv_iload_n S.1 S.2.1 dX12_taken_23 rfl (lv_at hl 2 rfl) ?_
        have hsle : eS N R (R 1) pa ≤ 8 := stF_le N R (R 1) 8 pa
        refine ri (q0 := 13) (n := 8) (f := a14_2) pa S hK I rfl rfl (by omega) (by decide) dX12_taken_24 ?_
        refine tI (y := nI (eS N R (R 1) pa)) ((hr_2 pa (by omega)).1.trans (by rw [vt0])) ?_
        refine lv_if_le (tgt := 34) S.1 S.2.1 dX12_taken_25 (by decide) (fun c_25 => ?_) (fun c_25 => ?_)
        · skip
          have c_25o := c_25
          have c_25 := nI_zleT (by omega) c_25
          refine lv_iconst (v := nI 0) S.1 S.2.1 dX12_taken_34 (by decide) ?_
          refine lv_ior S.1 S.2.1 dX12_taken_35 ?_
          refine tI (y := nI (bi ||| 0)) (fa_or _ _) ?_
          refine lv_istore_n (lv' := [(2, .int (nI (bi ||| 0))), (0, .ref (q 33)), (3, .int (nI pa))]) S.1 S.2.1 dX12_taken_36 rfl hl (by decide) rfl (fun ls hl => ?_)
          refine lv_iinc (v := nI (pa + 1)) (lv' := [(3, .int (nI (pa + 1))), (2, .int (nI (bi ||| 0))), (0, .ref (q 33))]) S.1 S.2.1 dX12_taken_37 hl (k := 2) rfl (nI_1 _) (by decide) rfl (fun ls hl => ?_)
          refine lv_goto (tgt := 10) S.1 S.2.1 dX12_taken_40 (by decide) ?_
          exact ih_10 (pa + 1) (bi ||| 0) (by omega) (by omega) (by rw [msk, ← hb, tkN, decide_eq_false (by omega), if_neg Bool.false_ne_true]) _ _ _ I (lv_sub hl [2, 1, 0] rfl)
        · skip
          have c_25o := c_25
          have c_25 := nI_zleF (by omega) c_25
          refine lv_iconst (v := nI 1) S.1 S.2.1 dX12_taken_28 (by decide) ?_
          refine lv_iload_n S.1 S.2.1 dX12_taken_29 rfl (lv_at hl 2 rfl) ?_
          refine lv_ishl S.1 S.2.1 dX12_taken_30 ?_
          refine tI (y := nI (2 ^ pa)) (bitS (by omega)) ?_
          refine lv_goto (tgt := 35) S.1 S.2.1 dX12_taken_31 (by decide) ?_
          refine lv_ior S.1 S.2.1 dX12_taken_35 ?_
          refine tI (y := nI (bi ||| (2 ^ pa))) (fa_or _ _) ?_
          refine lv_istore_n (lv' := [(2, .int (nI (bi ||| (2 ^ pa)))), (0, .ref (q 33)), (3, .int (nI pa))]) S.1 S.2.1 dX12_taken_36 rfl hl (by decide) rfl (fun ls hl => ?_)
          refine lv_iinc (v := nI (pa + 1)) (lv' := [(3, .int (nI (pa + 1))), (2, .int (nI (bi ||| (2 ^ pa)))), (0, .ref (q 33))]) S.1 S.2.1 dX12_taken_37 hl (k := 2) rfl (nI_1 _) (by decide) rfl (fun ls hl => ?_)
          refine lv_goto (tgt := 10) S.1 S.2.1 dX12_taken_40 (by decide) ?_
          exact ih_10 (pa + 1) (bi ||| (2 ^ pa)) (by omega) (by omega) (by rw [msk, ← hb, tkN, decide_eq_true c_25, if_pos rfl]) _ _ _ I (lv_sub hl [2, 1, 0] rfl)
  exact loop_10 _ 0 0 (Nat.lt_succ_self _) (Nat.zero_le _) rfl _ _ _ I (lv_sub hl [3, 1, 0] rfl)
set_option maxHeartbeats 4000000 in
set_option maxRecDepth 100000 in
theorem c_way (l : Launch) (D : va_G) (cy : Nat → ClassId) (q : Nat → Nat) (N : Nat → Nat) (R X : Nat → Nat → Int32) (x w : Int32) (hW : WFm N R) : MS (α := (Nat → Nat → Int32)) l D cy yX12_way cX12_way 4 (Option.some FieldType.int) rm_X12_way [.ref (q 33), .int x, .int w] (wM cy q N R X) (fun v_ (_ : (Nat → Nat → Int32)) => v_ = some (.int (sp_way N R x w))) (fun u_ => wM cy q N R u_) := by
  refine MS.mk2 (by decide) (Nat.le_of_ble_eq_true rfl) [(0, .ref (q 33)), (1, .int x), (2, .int w)] rfl ?_
  intro p e s m args below meth c A ls Q hQ S hr hlk hnm hK hA I hl
  have hW0 := hW
  obtain ⟨hB, hPt, hBo, hH, hM, hQu⟩ := hW0
  have hB0 := hB
  obtain ⟨b0, b6, b17, b24, b30⟩ := hB0
  refine lv_aload_n S.1 S.2.1 dX12_way_0 rfl (lv_at hl 0 rfl) ?_
  refine lv_iload_n S.1 S.2.1 dX12_way_1 rfl (lv_at hl 1 rfl) ?_
  refine cV (np := 1) (ci := 12) (q0 := 0) (As := [.int x]) (rest := []) S (c_isPart l D cy q N R X (x) hB) hK hA I wm_X12_107 wi_X12_isPart ws_X12_X12_isPart wn_X12 wk_X12_isPart ⟨rfl, hd_X12_isPart⟩ rfl ⟨by decide, by decide⟩ rfl rfl hl.1 rfl (Nat.le_of_ble_eq_true rfl) dX12_way_2 ⟨by decide, by decide⟩ (fun v_ u_ H locs h_ I => ?_)
  obtain rfl := h_
  have I : IX D A s.heap (wM cy q N R X) H locs := I
  refine W.eq (g2 := F0 m 5 ls [.int (bI (isP (N 0) x))]) rfl ?_
  refine lv_if_eq (tgt := 17) S.1 S.2.1 dX12_way_5 (by decide) (fun c_5 => ?_) (fun c_5 => ?_)
  · skip
    have c_5 := bI_f c_5
    refine lv_iconst (v := (-1)) S.1 S.2.1 dX12_way_17 (by decide) ?_
    exact ru_i hQ S hr hlk (u := X) I (by simp [sp_way, c_5]) dX12_way_18
  · skip
    have c_5 := bI_t c_5
    obtain ⟨j, h_j, rfl⟩ := isP_of c_5 (by omega)
    have e_j : (nI j).toNatClampNeg = j := nI_clamp (by omega)
    refine lv_iload_n S.1 S.2.1 dX12_way_8 rfl (lv_at hl 2 rfl) ?_
    refine lv_iconst (v := nI 0) S.1 S.2.1 dX12_way_9 (by decide) ?_
    refine lv_iconst (v := nI 2) S.1 S.2.1 dX12_way_10 (by decide) ?_
    refine cS (np := 3) (As := [.int w, .int (nI 0), .int (nI 2)]) (rest := []) S (c_in l D cy (wM cy q N R X) w (nI 0) (nI 2)) hK hA I wm_X12_99 wt_X12_in wn_X12 wk_X12_in ⟨rfl, hd_X12_in⟩ rfl ⟨by decide, by decide⟩ hl.1 rfl (Nat.le_of_ble_eq_true rfl) dX12_way_11 ⟨by decide, by decide⟩ (fun v_ u_ H locs h_ I => ?_)
    obtain rfl := h_
    have I : IX D A s.heap (wM cy q N R X) H locs := I
    refine W.eq (g2 := F0 m 14 ls [.int (bI (inB w (nI 0) (nI 2)))]) rfl ?_
    refine lv_if_ne (tgt := 19) S.1 S.2.1 dX12_way_14 (by decide) (fun c_14 => ?_) (fun c_14 => ?_)
    · skip
      have c_14 := bI_t c_14
      refine lv_aload_n S.1 S.2.1 dX12_way_19 rfl (lv_at hl 0 rfl) ?_
      refine lv_iconst (v := nI 0) S.1 S.2.1 dX12_way_20 (by decide) ?_
      refine cV (np := 1) (ci := 12) (q0 := 0) (As := [.int (nI 0)]) (rest := []) S (c_riskOf l D cy q N R X 0 hW (by omega)) hK hA I wm_X12_148 wi_X12_riskOf ws_X12_X12_riskOf wn_X12 wk_X12_riskOf ⟨rfl, hd_X12_riskOf⟩ rfl ⟨by decide, by decide⟩ rfl rfl hl.1 rfl (Nat.le_of_ble_eq_true rfl) dX12_way_21 ⟨by decide, by decide⟩ (fun v_ u_ H locs h_ I => ?_)
      obtain ⟨rfl, hv_21, hr_21⟩ := h_
      obtain ⟨a13_21, a14_21, a15_21, a16_21⟩ := u_
      have hr_21 : RowS N R (vtF R 0 (N 17)) (eS N R (vtF R 0 (N 17))) a14_21 a15_21 a16_21 := hr_21
      have I : IX D A s.heap (wM cy q N R (va_up (va_up (va_up (va_up X 13 a13_21) 14 a14_21) 15 a15_21) 16 a16_21)) H locs := I
      refine W.eq (g2 := F0 m 24 ls [.int (nI (rsk N R (vtF R 0 (N 17))))]) rfl ?_
      refine tI (y := nI (rsk N R (R 1))) (by rw [vt0]) ?_
      refine lv_istore_n (lv' := [(3, .int (nI (rsk N R (R 1)))), (0, .ref (q 33)), (1, .int (nI j)), (2, .int w)]) S.1 S.2.1 dX12_way_24 rfl hl (by decide) rfl (fun ls hl => ?_)
      have hr0 : RowS N R (R 1) (eS N R (R 1)) a14_21 a15_21 a16_21 := by have h9 := hr_21; rw [vt0] at h9; exact h9
      have hsle : eS N R (R 1) j ≤ 8 := stF_le N R (R 1) 8 j
      refine lv_aload_n S.1 S.2.1 dX12_way_25 rfl (lv_at hl 1 rfl) ?_
      refine rg (ci := 12) (q0 := 0) (v := .ref (q 14)) 14 S hK I cl_X12 rfl wf_X12_47 (by decide) rfl rfl rfl dX12_way_26 ?_
      refine lv_iload_n S.1 S.2.1 dX12_way_29 rfl (lv_at hl 2 rfl) ?_
      refine ri (q0 := 13) (n := 8) (f := a14_21) j S hK I rfl rfl (by omega) (by decide) dX12_way_30 ?_
      refine tI (y := nI (eS N R (R 1) j)) ((hr0 j (by omega)).1) ?_
      refine lv_if_ne (tgt := 37) S.1 S.2.1 dX12_way_31 (by decide) (fun c_31 => ?_) (fun c_31 => ?_)
      · skip
        have c_31o := c_31
        have c_31 := nI_zneT (by omega) c_31
        refine lv_iload_n S.1 S.2.1 dX12_way_37 rfl (lv_at hl 3 rfl) ?_
        refine lv_if_ne (tgt := 50) S.1 S.2.1 dX12_way_38 (by decide) (fun c_38 => ?_) (fun c_38 => ?_)
        · skip
          refine lv_iload_n S.1 S.2.1 dX12_way_50 rfl (lv_at hl 3 rfl) ?_
          refine lv_iconst (v := nI 1) S.1 S.2.1 dX12_way_51 (by decide) ?_
          refine lv_icmp_ne (tgt := 64) S.1 S.2.1 dX12_way_52 (by decide) (fun c_52 => ?_) (fun c_52 => ?_)
          · skip
            refine lv_aload_n S.1 S.2.1 dX12_way_64 rfl (lv_at hl 1 rfl) ?_
            refine rg (ci := 12) (q0 := 0) (v := .ref (q 16)) 16 S hK I cl_X12 rfl wf_X12_53 (by decide) rfl rfl rfl dX12_way_65 ?_
            refine lv_iload_n S.1 S.2.1 dX12_way_68 rfl (lv_at hl 2 rfl) ?_
            refine ri (q0 := 15) (n := 8) (f := a16_21) j S hK I rfl rfl (by omega) (by decide) dX12_way_69 ?_
            refine tI (y := fmI N R (tkN (stF N R (R 1) (eS N R (R 1) j - 1))) j) (((hr0 j (by omega)).2 (by omega)).2) ?_
            exact ru_i hQ S hr hlk (u := (va_up (va_up (va_up (va_up X 13 a13_21) 14 a14_21) 15 a15_21) 16 a16_21)) I (congrArg (fun z => some (Value.int z)) (by rw [sp_way, if_pos ⟨c_5, c_14⟩, e_j, if_neg c_31, if_neg c_38, if_neg c_52])) dX12_way_70
          · skip
            refine lv_aload_n S.1 S.2.1 dX12_way_55 rfl (lv_at hl 1 rfl) ?_
            refine rg (ci := 12) (q0 := 0) (v := .ref (q 15)) 15 S hK I cl_X12 rfl wf_X12_50 (by decide) rfl rfl rfl dX12_way_56 ?_
            refine lv_iload_n S.1 S.2.1 dX12_way_59 rfl (lv_at hl 2 rfl) ?_
            refine ri (q0 := 14) (n := 8) (f := a15_21) j S hK I rfl rfl (by omega) (by decide) dX12_way_60 ?_
            refine tI (y := nI (nwH N R (R 1) (tkN (stF N R (R 1) (eS N R (R 1) j - 1))) j)) (((hr0 j (by omega)).2 (by omega)).1) ?_
            refine lv_goto (tgt := 70) S.1 S.2.1 dX12_way_61 (by decide) ?_
            exact ru_i hQ S hr hlk (u := (va_up (va_up (va_up (va_up X 13 a13_21) 14 a14_21) 15 a15_21) 16 a16_21)) I (congrArg (fun z => some (Value.int z)) (by rw [sp_way, if_pos ⟨c_5, c_14⟩, e_j, if_neg c_31, if_neg c_38, if_pos c_52])) dX12_way_70
        · skip
          refine lv_aload_n S.1 S.2.1 dX12_way_41 rfl (lv_at hl 1 rfl) ?_
          refine rg (ci := 12) (q0 := 0) (v := .ref (q 14)) 14 S hK I cl_X12 rfl wf_X12_47 (by decide) rfl rfl rfl dX12_way_42 ?_
          refine lv_iload_n S.1 S.2.1 dX12_way_45 rfl (lv_at hl 2 rfl) ?_
          refine ri (q0 := 13) (n := 8) (f := a14_21) j S hK I rfl rfl (by omega) (by decide) dX12_way_46 ?_
          refine tI (y := nI (eS N R (R 1) j)) ((hr0 j (by omega)).1) ?_
          refine lv_goto (tgt := 70) S.1 S.2.1 dX12_way_47 (by decide) ?_
          exact ru_i hQ S hr hlk (u := (va_up (va_up (va_up (va_up X 13 a13_21) 14 a14_21) 15 a15_21) 16 a16_21)) I (congrArg (fun z => some (Value.int z)) (by rw [sp_way, if_pos ⟨c_5, c_14⟩, e_j, if_neg c_31, if_pos c_38])) dX12_way_70
      · skip
        have c_31o := c_31
        have c_31 := nI_zneF (by omega) c_31
        refine lv_bipush (v := (-4)) S.1 S.2.1 dX12_way_34 (by decide) ?_
        exact ru_i hQ S hr hlk (u := (va_up (va_up (va_up (va_up X 13 a13_21) 14 a14_21) 15 a15_21) 16 a16_21)) I (by simp [sp_way, c_5, e_j, c_14, c_31o, c_31]) dX12_way_36
    · skip
      have c_14 := bI_f c_14
      refine lv_iconst (v := (-1)) S.1 S.2.1 dX12_way_17 (by decide) ?_
      exact ru_i hQ S hr hlk (u := X) I (by simp [sp_way, c_5, e_j, c_14]) dX12_way_18
set_option maxHeartbeats 4000000 in
set_option maxRecDepth 100000 in
theorem c_bestGuard (l : Launch) (D : va_G) (cy : Nat → ClassId) (q : Nat → Nat) (N : Nat → Nat) (R X : Nat → Nat → Int32) (hW : WFm N R) : MS (α := (Nat → Nat → Int32)) l D cy yX12_bestGuard cX12_bestGuard 5 (Option.some FieldType.int) rm_X12_bestGuard [.ref (q 33)] (wM cy q N R X) (fun v_ (_ : (Nat → Nat → Int32)) => v_ = some (.int (sp_bestGuard N R))) (fun u_ => wM cy q N R u_) := by
  refine MS.mk2 (by decide) (Nat.le_of_ble_eq_true rfl) [(0, .ref (q 33))] rfl ?_
  intro p e s m args below meth c A ls Q hQ S hr hlk hnm hK hA I hl
  have hW0 := hW
  obtain ⟨hB, hPt, hBo, hH, hM, hQu⟩ := hW0
  have hB0 := hB
  obtain ⟨b0, b6, b17, b24, b30⟩ := hB0
  refine lv_bipush (v := (-4)) S.1 S.2.1 dX12_bestGuard_0 (by decide) ?_
  refine lv_istore_n (lv' := [(1, .int (-4)), (0, .ref (q 33))]) S.1 S.2.1 dX12_bestGuard_2 rfl hl (by decide) rfl (fun ls hl => ?_)
  refine lv_aload_n S.1 S.2.1 dX12_bestGuard_3 rfl (lv_at hl 1 rfl) ?_
  refine lv_iconst (v := nI 0) S.1 S.2.1 dX12_bestGuard_4 (by decide) ?_
  refine cV (np := 1) (ci := 12) (q0 := 0) (As := [.int (nI 0)]) (rest := []) S (c_riskOf l D cy q N R X 0 hW (by omega)) hK hA I wm_X12_148 wi_X12_riskOf ws_X12_X12_riskOf wn_X12 wk_X12_riskOf ⟨rfl, hd_X12_riskOf⟩ rfl ⟨by decide, by decide⟩ rfl rfl hl.1 rfl (Nat.le_of_ble_eq_true rfl) dX12_bestGuard_5 ⟨by decide, by decide⟩ (fun v_ u_ H locs h_ I => ?_)
  obtain ⟨rfl, hv_5, hr_5⟩ := h_
  obtain ⟨a13_5, a14_5, a15_5, a16_5⟩ := u_
  have hr_5 : RowS N R (vtF R 0 (N 17)) (eS N R (vtF R 0 (N 17))) a14_5 a15_5 a16_5 := hr_5
  have I : IX D A s.heap (wM cy q N R (va_up (va_up (va_up (va_up X 13 a13_5) 14 a14_5) 15 a15_5) 16 a16_5)) H locs := I
  refine W.eq (g2 := F0 m 8 ls [.int (nI (rsk N R (vtF R 0 (N 17))))]) rfl ?_
  refine tI (y := nI (rsk N R (R 1))) (by rw [vt0]) ?_
  refine lv_istore_n (lv' := [(2, .int (nI (rsk N R (R 1)))), (1, .int (-4)), (0, .ref (q 33))]) S.1 S.2.1 dX12_bestGuard_8 rfl hl (by decide) rfl (fun ls hl => ?_)
  refine lv_iconst (v := nI 0) S.1 S.2.1 dX12_bestGuard_9 (by decide) ?_
  refine lv_istore_n (lv' := [(3, .int (nI 0)), (2, .int (nI (rsk N R (R 1)))), (1, .int (-4)), (0, .ref (q 33))]) S.1 S.2.1 dX12_bestGuard_10 rfl hl (by decide) rfl (fun ls hl => ?_)
  have loop_11 : ∀ (k_ : Nat) (pa : Nat) (be : Int32) (le : Nat) (z13 : Nat → Int32) (z14 : Nat → Int32) (z15 : Nat → Int32) (z16 : Nat → Int32), N 0 - pa < k_ → pa ≤ N 0 → (be, le) = bgF N R pa → le ≤ 16000 → ∀ (H : Heap) (locs : List Loc) (ls : Array Slot), IX D A s.heap (wM cy q N R (va_up (va_up (va_up (va_up X 13 z13) 14 z14) 15 z15) 16 z16)) H locs → lv_has ls 5 [(0, .ref (q 33)), (1, .int be), (2, .int (nI le)), (3, .int (nI pa))] → W p l e rm_X12_bestGuard s m args below meth c H locs 0 0 Q (F0 m 11 ls []) := by
    intro k_
    induction k_ with
    | zero => intro pa be le z13 z14 z15 z16 hm_; exact absurd hm_ (Nat.not_lt_zero _)
    | succ k_ ih_11 =>
      intro pa be le z13 z14 z15 z16 hm_ hpa hbl hle H locs ls I hl
      refine lv_iload_n S.1 S.2.1 dX12_bestGuard_11 rfl (lv_at hl 3 rfl) ?_
      refine lv_aload_n S.1 S.2.1 dX12_bestGuard_12 rfl (lv_at hl 0 rfl) ?_
      refine rg (ci := 12) (q0 := 0) (v := .int (nI (N 0))) 0 S hK I cl_X12 rfl wf_X12_95 (by decide) rfl rfl rfl dX12_bestGuard_13 ?_
      refine lv_icmp_ge (tgt := 66) S.1 S.2.1 dX12_bestGuard_16 (by decide) (fun c_16 => ?_) (fun c_16 => ?_)
      · skip
        have c_16o := c_16
        have c_16 := nI_cgeT (by omega) (by omega) c_16
        refine lv_iload_n S.1 S.2.1 dX12_bestGuard_66 rfl (lv_at hl 1 rfl) ?_
        exact ru_i hQ S hr hlk (u := (va_up (va_up (va_up (va_up X 13 z13) 14 z14) 15 z15) 16 z16)) I (congrArg (fun z => some (Value.int z)) (by rw [sp_bestGuard, show N 0 = pa by omega, ← hbl])) dX12_bestGuard_67
      · skip
        have c_16o := c_16
        have c_16 := nI_cgeF (by omega) (by omega) c_16
        refine lv_aload_n S.1 S.2.1 dX12_bestGuard_19 rfl (lv_at hl 0 rfl) ?_
        refine rg (ci := 12) (q0 := 0) (v := .ref (q 4)) 4 S hK I cl_X12 rfl wf_X12_20 (by decide) rfl rfl rfl dX12_bestGuard_20 ?_
        refine lv_iload_n S.1 S.2.1 dX12_bestGuard_23 rfl (lv_at hl 3 rfl) ?_
        refine rz (q0 := 4) (n := 8) (f := R 4) pa S hK I rfl rfl (by omega) (by decide) dX12_bestGuard_24 ?_
        refine lv_if_ne (tgt := 60) S.1 S.2.1 dX12_bestGuard_25 (by decide) (fun c_25 => ?_) (fun c_25 => ?_)
        · skip
          refine lv_iinc (v := nI (pa + 1)) (lv' := [(3, .int (nI (pa + 1))), (0, .ref (q 33)), (1, .int be), (2, .int (nI le))]) S.1 S.2.1 dX12_bestGuard_60 hl (k := 3) rfl (nI_1 _) (by decide) rfl (fun ls hl => ?_)
          refine lv_goto (tgt := 11) S.1 S.2.1 dX12_bestGuard_63 (by decide) ?_
          exact ih_11 (pa + 1) be le z13 z14 z15 z16 (by omega) (by omega) (by rw [bgF, ← hbl, if_neg (fun h => c_25 h.1)]) hle _ _ _ I (lv_sub hl [1, 2, 3, 0] rfl)
        · skip
          refine lv_aload_n S.1 S.2.1 dX12_bestGuard_28 rfl (lv_at hl 0 rfl) ?_
          refine rg (ci := 12) (q0 := 0) (v := .ref (q 4)) 4 S hK I cl_X12 rfl wf_X12_20 (by decide) rfl rfl rfl dX12_bestGuard_29 ?_
          refine lv_iload_n S.1 S.2.1 dX12_bestGuard_32 rfl (lv_at hl 3 rfl) ?_
          refine lv_iconst (v := nI 1) S.1 S.2.1 dX12_bestGuard_33 (by decide) ?_
          refine sz (q0 := 4) (n := 8) (f := R 4) pa S hK I rfl rfl (by omega) (by decide) (by decide) dX12_bestGuard_34 (fun H locs I => ?_)
          have I : IX D A s.heap (wM cy q N (va_up R 4 (upd (R 4) pa (nI 1))) (va_up (va_up (va_up (va_up X 13 z13) 14 z14) 15 z15) 16 z16)) H locs := I
          refine lv_aload_n S.1 S.2.1 dX12_bestGuard_35 rfl (lv_at hl 0 rfl) ?_
          refine lv_iconst (v := nI 0) S.1 S.2.1 dX12_bestGuard_36 (by decide) ?_
          refine cV (np := 1) (ci := 12) (q0 := 0) (As := [.int (nI 0)]) (rest := []) S (c_riskOf l D cy q N (va_up R 4 (upd (R 4) pa (nI 1))) (va_up (va_up (va_up (va_up X 13 z13) 14 z14) 15 z15) 16 z16) 0 (WFm_g hW) (by omega)) hK hA I wm_X12_148 wi_X12_riskOf ws_X12_X12_riskOf wn_X12 wk_X12_riskOf ⟨rfl, hd_X12_riskOf⟩ rfl ⟨by decide, by decide⟩ rfl rfl hl.1 rfl (Nat.le_of_ble_eq_true rfl) dX12_bestGuard_37 ⟨by decide, by decide⟩ (fun v_ u_ H locs h_ I => ?_)
          obtain ⟨rfl, hv_37, hr_37⟩ := h_
          obtain ⟨a13_37, a14_37, a15_37, a16_37⟩ := u_
          have hr_37 : RowS N (va_up R 4 (upd (R 4) pa (nI 1))) (vtF (va_up R 4 (upd (R 4) pa (nI 1))) 0 (N 17)) (eS N (va_up R 4 (upd (R 4) pa (nI 1))) (vtF (va_up R 4 (upd (R 4) pa (nI 1))) 0 (N 17))) a14_37 a15_37 a16_37 := hr_37
          have I : IX D A s.heap (wM cy q N (va_up R 4 (upd (R 4) pa (nI 1))) (va_up (va_up (va_up (va_up X 13 a13_37) 14 a14_37) 15 a15_37) 16 a16_37)) H locs := I
          refine W.eq (g2 := F0 m 40 ls [.int (nI (rsk N (va_up R 4 (upd (R 4) pa (nI 1))) (vtF (va_up R 4 (upd (R 4) pa (nI 1))) 0 (N 17))))]) rfl ?_
          refine tI (y := nI (rsk N (gR R pa) (R 1))) (by rw [vt0]; rfl) ?_
          refine lv_istore (lv' := [(4, .int (nI (rsk N (gR R pa) (R 1)))), (0, .ref (q 33)), (1, .int be), (2, .int (nI le)), (3, .int (nI pa))]) S.1 S.2.1 dX12_bestGuard_40 hl (by decide) rfl (fun ls hl => ?_)
          have hv1 : rsk N (gR R pa) (R 1) ≤ 16000 := rsk_le (WFm_g (p := pa) hW).2.1 hB
          refine lv_aload_n S.1 S.2.1 dX12_bestGuard_42 rfl (lv_at hl 1 rfl) ?_
          refine rg (ci := 12) (q0 := 0) (v := .ref (q 4)) 4 S hK I cl_X12 rfl wf_X12_20 (by decide) rfl rfl rfl dX12_bestGuard_43 ?_
          refine lv_iload_n S.1 S.2.1 dX12_bestGuard_46 rfl (lv_at hl 4 rfl) ?_
          refine lv_iconst (v := nI 0) S.1 S.2.1 dX12_bestGuard_47 (by decide) ?_
          refine sz (q0 := 4) (n := 8) (f := upd (R 4) pa (nI 1)) pa S hK I rfl rfl (by omega) (by decide) (by decide) dX12_bestGuard_48 (fun H locs I => ?_)
          have I : IX D A s.heap (wM cy q N (va_up R 4 (upd (upd (R 4) pa (nI 1)) pa (nI 0))) (va_up (va_up (va_up (va_up X 13 a13_37) 14 a14_37) 15 a15_37) 16 a16_37)) H locs := I
          rw [gd_back c_25] at I
          refine lv_iload S.1 S.2.1 dX12_bestGuard_49 (lv_at hl 0 rfl) ?_
          refine lv_iload_n S.1 S.2.1 dX12_bestGuard_51 rfl (lv_at hl 3 rfl) ?_
          refine lv_icmp_ge (tgt := 60) S.1 S.2.1 dX12_bestGuard_52 (by decide) (fun c_52 => ?_) (fun c_52 => ?_)
          · skip
            have c_52o := c_52
            have c_52 := nI_cgeT (by omega) (by omega) c_52
            refine lv_iinc (v := nI (pa + 1)) (lv' := [(3, .int (nI (pa + 1))), (4, .int (nI (rsk N (gR R pa) (R 1)))), (0, .ref (q 33)), (1, .int be), (2, .int (nI le))]) S.1 S.2.1 dX12_bestGuard_60 hl (k := 4) rfl (nI_1 _) (by decide) rfl (fun ls hl => ?_)
            refine lv_goto (tgt := 11) S.1 S.2.1 dX12_bestGuard_63 (by decide) ?_
            exact ih_11 (pa + 1) be le a13_37 a14_37 a15_37 a16_37 (by omega) (by omega) (by rw [bgF, ← hbl, if_neg (fun h => by have := h.2; omega)]) hle _ _ _ I (lv_sub hl [2, 3, 4, 0] rfl)
          · skip
            have c_52o := c_52
            have c_52 := nI_cgeF (by omega) (by omega) c_52
            refine lv_iload S.1 S.2.1 dX12_bestGuard_55 (lv_at hl 0 rfl) ?_
            refine lv_istore_n (lv' := [(2, .int (nI (rsk N (gR R pa) (R 1)))), (4, .int (nI (rsk N (gR R pa) (R 1)))), (0, .ref (q 33)), (1, .int be), (3, .int (nI pa))]) S.1 S.2.1 dX12_bestGuard_57 rfl hl (by decide) rfl (fun ls hl => ?_)
            refine lv_iload_n S.1 S.2.1 dX12_bestGuard_58 rfl (lv_at hl 4 rfl) ?_
            refine lv_istore_n (lv' := [(1, .int (nI pa)), (2, .int (nI (rsk N (gR R pa) (R 1)))), (4, .int (nI (rsk N (gR R pa) (R 1)))), (0, .ref (q 33)), (3, .int (nI pa))]) S.1 S.2.1 dX12_bestGuard_59 rfl hl (by decide) rfl (fun ls hl => ?_)
            refine lv_iinc (v := nI (pa + 1)) (lv' := [(3, .int (nI (pa + 1))), (1, .int (nI pa)), (2, .int (nI (rsk N (gR R pa) (R 1)))), (4, .int (nI (rsk N (gR R pa) (R 1)))), (0, .ref (q 33))]) S.1 S.2.1 dX12_bestGuard_60 hl (k := 4) rfl (nI_1 _) (by decide) rfl (fun ls hl => ?_)
            refine lv_goto (tgt := 11) S.1 S.2.1 dX12_bestGuard_63 (by decide) ?_
            exact ih_11 (pa + 1) (nI pa) (rsk N (gR R pa) (R 1)) a13_37 a14_37 a15_37 a16_37 (by omega) (by omega) (by rw [bgF, ← hbl, if_pos ⟨c_25, by omega⟩]) hv1 _ _ _ I (lv_sub hl [4, 1, 2, 0] rfl)
  exact loop_11 _ 0 (-4) (rsk N R (R 1)) a13_5 a14_5 a15_5 a16_5 (Nat.lt_succ_self _) (Nat.zero_le _) rfl (rsk_le hPt hB) _ _ _ I (lv_sub hl [3, 2, 1, 0] rfl)
set_option maxHeartbeats 4000000 in
set_option maxRecDepth 100000 in
theorem c_mend (l : Launch) (D : va_G) (cy : Nat → ClassId) (q : Nat → Nat) (N : Nat → Nat) (R X : Nat → Nat → Int32) (x v hn nd f la : Int32) (hB : Bd N) : MS (α := SR) l D cy yX12_mend cX12_mend 7 (Option.some FieldType.int) rm_X12_mend [.ref (q 33), .int x, .int v, .int hn, .int nd, .int f, .int la] (wM cy q N R X) (fun v_ u_ => v_ = some (.int (sp_mend N R x v hn nd f la).1) ∧ u_ = (sp_mend N R x v hn nd f la).2) (fun u_ => wM cy q u_.1 u_.2 X) := by
  refine MS.mk2 (by decide) (Nat.le_of_ble_eq_true rfl) [(0, .ref (q 33)), (1, .int x), (2, .int v), (3, .int hn), (4, .int nd), (5, .int f), (6, .int la)] rfl ?_
  intro p e s m args below meth c A ls Q hQ S hr hlk hnm hK hA I hl
  have hB0 := hB
  obtain ⟨b0, b6, b17, b24, b30⟩ := hB0
  refine lv_aload_n S.1 S.2.1 dX12_mend_0 rfl (lv_at hl 0 rfl) ?_
  refine lv_iload_n S.1 S.2.1 dX12_mend_1 rfl (lv_at hl 1 rfl) ?_
  refine cV (np := 1) (ci := 12) (q0 := 0) (As := [.int x]) (rest := []) S (c_isPart l D cy q N R X (x) hB) hK hA I wm_X12_107 wi_X12_isPart ws_X12_X12_isPart wn_X12 wk_X12_isPart ⟨rfl, hd_X12_isPart⟩ rfl ⟨by decide, by decide⟩ rfl rfl hl.1 rfl (Nat.le_of_ble_eq_true rfl) dX12_mend_2 ⟨by decide, by decide⟩ (fun v_ u_ H locs h_ I => ?_)
  obtain rfl := h_
  have I : IX D A s.heap (wM cy q N R X) H locs := I
  refine W.eq (g2 := F0 m 5 ls [.int (bI (isP (N 0) x))]) rfl ?_
  refine lv_if_eq (tgt := 57) S.1 S.2.1 dX12_mend_5 (by decide) (fun c_5 => ?_) (fun c_5 => ?_)
  · skip
    have c_5 := bI_f c_5
    refine lv_iconst (v := (-1)) S.1 S.2.1 dX12_mend_57 (by decide) ?_
    exact ru_i hQ S hr hlk (u := (N, R)) I (by simp [sp_mend, c_5]) dX12_mend_58
  · skip
    have c_5 := bI_t c_5
    refine lv_iload_n S.1 S.2.1 dX12_mend_8 rfl (lv_at hl 2 rfl) ?_
    refine cS (np := 1) (As := [.int v]) (rest := []) S (c_isVersion l D cy (wM cy q N R X) v) hK hA I wm_X12_103 wt_X12_isVersion wn_X12 wk_X12_isVersion ⟨rfl, hd_X12_isVersion⟩ rfl ⟨by decide, by decide⟩ hl.1 rfl (Nat.le_of_ble_eq_true rfl) dX12_mend_9 ⟨by decide, by decide⟩ (fun v_ u_ H locs h_ I => ?_)
    obtain rfl := h_
    have I : IX D A s.heap (wM cy q N R X) H locs := I
    refine W.eq (g2 := F0 m 12 ls [.int (bI (isV v))]) rfl ?_
    refine lv_if_eq (tgt := 57) S.1 S.2.1 dX12_mend_12 (by decide) (fun c_12 => ?_) (fun c_12 => ?_)
    · skip
      have c_12 := bI_f c_12
      refine lv_iconst (v := (-1)) S.1 S.2.1 dX12_mend_57 (by decide) ?_
      exact ru_i hQ S hr hlk (u := (N, R)) I (by simp [sp_mend, c_5, c_12]) dX12_mend_58
    · skip
      have c_12 := bI_t c_12
      refine lv_iload_n S.1 S.2.1 dX12_mend_15 rfl (lv_at hl 3 rfl) ?_
      refine lv_iconst (v := nI 1) S.1 S.2.1 dX12_mend_16 (by decide) ?_
      refine lv_bipush (v := nI 9) S.1 S.2.1 dX12_mend_17 (by decide) ?_
      refine cS (np := 3) (As := [.int hn, .int (nI 1), .int (nI 9)]) (rest := []) S (c_in l D cy (wM cy q N R X) hn (nI 1) (nI 9)) hK hA I wm_X12_99 wt_X12_in wn_X12 wk_X12_in ⟨rfl, hd_X12_in⟩ rfl ⟨by decide, by decide⟩ hl.1 rfl (Nat.le_of_ble_eq_true rfl) dX12_mend_19 ⟨by decide, by decide⟩ (fun v_ u_ H locs h_ I => ?_)
      obtain rfl := h_
      have I : IX D A s.heap (wM cy q N R X) H locs := I
      refine W.eq (g2 := F0 m 22 ls [.int (bI (inB hn (nI 1) (nI 9)))]) rfl ?_
      refine lv_if_eq (tgt := 57) S.1 S.2.1 dX12_mend_22 (by decide) (fun c_22 => ?_) (fun c_22 => ?_)
      · skip
        have c_22 := bI_f c_22
        refine lv_iconst (v := (-1)) S.1 S.2.1 dX12_mend_57 (by decide) ?_
        exact ru_i hQ S hr hlk (u := (N, R)) I (by simp [sp_mend, c_5, c_12, c_22]) dX12_mend_58
      · skip
        have c_22 := bI_t c_22
        refine lv_iload S.1 S.2.1 dX12_mend_25 (lv_at hl 4 rfl) ?_
        refine lv_iconst (v := (-1)) S.1 S.2.1 dX12_mend_27 (by decide) ?_
        refine lv_aload_n S.1 S.2.1 dX12_mend_28 rfl (lv_at hl 0 rfl) ?_
        refine rg (ci := 12) (q0 := 0) (v := .int (nI (N 17))) 17 S hK I cl_X12 rfl wf_X12_123 (by decide) rfl rfl rfl dX12_mend_29 ?_
        refine lv_iconst (v := nI 1) S.1 S.2.1 dX12_mend_32 (by decide) ?_
        refine lv_isub S.1 S.2.1 dX12_mend_33 ?_
        refine cS (np := 3) (As := [.int nd, .int (-1), .int ((nI (N 17)) - (nI 1))]) (rest := []) S (c_in l D cy (wM cy q N R X) nd (-1) ((nI (N 17)) - (nI 1))) hK hA I wm_X12_99 wt_X12_in wn_X12 wk_X12_in ⟨rfl, hd_X12_in⟩ rfl ⟨by decide, by decide⟩ hl.1 rfl (Nat.le_of_ble_eq_true rfl) dX12_mend_34 ⟨by decide, by decide⟩ (fun v_ u_ H locs h_ I => ?_)
        obtain rfl := h_
        have I : IX D A s.heap (wM cy q N R X) H locs := I
        refine W.eq (g2 := F0 m 37 ls [.int (bI (inB nd (-1) ((nI (N 17)) - (nI 1))))]) rfl ?_
        refine lv_if_eq (tgt := 57) S.1 S.2.1 dX12_mend_37 (by decide) (fun c_37 => ?_) (fun c_37 => ?_)
        · skip
          have c_37 := bI_f c_37
          refine lv_iconst (v := (-1)) S.1 S.2.1 dX12_mend_57 (by decide) ?_
          exact ru_i hQ S hr hlk (u := (N, R)) I (by simp [sp_mend, c_5, c_12, c_22, c_37]) dX12_mend_58
        · skip
          have c_37 := bI_t c_37
          refine lv_iload S.1 S.2.1 dX12_mend_40 (lv_at hl 5 rfl) ?_
          refine lv_iconst (v := nI 0) S.1 S.2.1 dX12_mend_42 (by decide) ?_
          refine lv_iload S.1 S.2.1 dX12_mend_43 (lv_at hl 6 rfl) ?_
          refine cS (np := 3) (As := [.int f, .int (nI 0), .int la]) (rest := []) S (c_in l D cy (wM cy q N R X) f (nI 0) la) hK hA I wm_X12_99 wt_X12_in wn_X12 wk_X12_in ⟨rfl, hd_X12_in⟩ rfl ⟨by decide, by decide⟩ hl.1 rfl (Nat.le_of_ble_eq_true rfl) dX12_mend_45 ⟨by decide, by decide⟩ (fun v_ u_ H locs h_ I => ?_)
          obtain rfl := h_
          have I : IX D A s.heap (wM cy q N R X) H locs := I
          refine W.eq (g2 := F0 m 48 ls [.int (bI (inB f (nI 0) la))]) rfl ?_
          refine lv_if_eq (tgt := 57) S.1 S.2.1 dX12_mend_48 (by decide) (fun c_48 => ?_) (fun c_48 => ?_)
          · skip
            have c_48 := bI_f c_48
            refine lv_iconst (v := (-1)) S.1 S.2.1 dX12_mend_57 (by decide) ?_
            exact ru_i hQ S hr hlk (u := (N, R)) I (by simp [sp_mend, c_5, c_12, c_22, c_37, c_48]) dX12_mend_58
          · skip
            have c_48 := bI_t c_48
            refine lv_iload S.1 S.2.1 dX12_mend_51 (lv_at hl 6 rfl) ?_
            refine lv_iconst (v := nI 5) S.1 S.2.1 dX12_mend_53 (by decide) ?_
            refine lv_icmp_le (tgt := 59) S.1 S.2.1 dX12_mend_54 (by decide) (fun c_54 => ?_) (fun c_54 => ?_)
            · skip
              refine lv_aload_n S.1 S.2.1 dX12_mend_59 rfl (lv_at hl 0 rfl) ?_
              refine rg (ci := 12) (q0 := 0) (v := .int (nI (N 17))) 17 S hK I cl_X12 rfl wf_X12_123 (by decide) rfl rfl rfl dX12_mend_60 ?_
              refine lv_bipush (v := nI 8) S.1 S.2.1 dX12_mend_63 (by decide) ?_
              refine lv_icmp_ne (tgt := 71) S.1 S.2.1 dX12_mend_65 (by decide) (fun c_65 => ?_) (fun c_65 => ?_)
              · skip
                have c_65o := c_65
                have c_65 := nI_cneT (by omega) (by omega) c_65
                refine lv_aload_n S.1 S.2.1 dX12_mend_71 rfl (lv_at hl 0 rfl) ?_
                refine rg (ci := 12) (q0 := 0) (v := .ref (q 18)) 18 S hK I cl_X12 rfl wf_X12_56 (by decide) rfl rfl rfl dX12_mend_72 ?_
                refine lv_aload_n S.1 S.2.1 dX12_mend_75 rfl (lv_at hl 0 rfl) ?_
                refine rg (ci := 12) (q0 := 0) (v := .int (nI (N 17))) 17 S hK I cl_X12 rfl wf_X12_123 (by decide) rfl rfl rfl dX12_mend_76 ?_
                refine lv_iload_n S.1 S.2.1 dX12_mend_79 rfl (lv_at hl 1 rfl) ?_
                refine si (q0 := 16) (n := 8) (f := R 18) (N 17) S hK I rfl rfl (by omega) (by decide) dX12_mend_80 (fun H locs I => ?_)
                have I : IX D A s.heap (wM cy q N (va_up R 18 (upd (R 18) (N 17) x)) X) H locs := I
                refine lv_aload_n S.1 S.2.1 dX12_mend_81 rfl (lv_at hl 0 rfl) ?_
                refine rg (ci := 12) (q0 := 0) (v := .ref (q 19)) 19 S hK I cl_X12 rfl wf_X12_59 (by decide) rfl rfl rfl dX12_mend_82 ?_
                refine lv_aload_n S.1 S.2.1 dX12_mend_85 rfl (lv_at hl 0 rfl) ?_
                refine rg (ci := 12) (q0 := 0) (v := .int (nI (N 17))) 17 S hK I cl_X12 rfl wf_X12_123 (by decide) rfl rfl rfl dX12_mend_86 ?_
                refine lv_iload_n S.1 S.2.1 dX12_mend_89 rfl (lv_at hl 2 rfl) ?_
                refine si (q0 := 17) (n := 8) (f := R 19) (N 17) S hK I rfl rfl (by omega) (by decide) dX12_mend_90 (fun H locs I => ?_)
                have I : IX D A s.heap (wM cy q N (va_up (va_up R 18 (upd (R 18) (N 17) x)) 19 (upd (R 19) (N 17) v)) X) H locs := I
                refine lv_aload_n S.1 S.2.1 dX12_mend_91 rfl (lv_at hl 0 rfl) ?_
                refine rg (ci := 12) (q0 := 0) (v := .ref (q 20)) 20 S hK I cl_X12 rfl wf_X12_62 (by decide) rfl rfl rfl dX12_mend_92 ?_
                refine lv_aload_n S.1 S.2.1 dX12_mend_95 rfl (lv_at hl 0 rfl) ?_
                refine rg (ci := 12) (q0 := 0) (v := .int (nI (N 17))) 17 S hK I cl_X12 rfl wf_X12_123 (by decide) rfl rfl rfl dX12_mend_96 ?_
                refine lv_iload_n S.1 S.2.1 dX12_mend_99 rfl (lv_at hl 3 rfl) ?_
                refine si (q0 := 18) (n := 8) (f := R 20) (N 17) S hK I rfl rfl (by omega) (by decide) dX12_mend_100 (fun H locs I => ?_)
                have I : IX D A s.heap (wM cy q N (va_up (va_up (va_up R 18 (upd (R 18) (N 17) x)) 19 (upd (R 19) (N 17) v)) 20 (upd (R 20) (N 17) hn)) X) H locs := I
                refine lv_aload_n S.1 S.2.1 dX12_mend_101 rfl (lv_at hl 0 rfl) ?_
                refine rg (ci := 12) (q0 := 0) (v := .ref (q 21)) 21 S hK I cl_X12 rfl wf_X12_65 (by decide) rfl rfl rfl dX12_mend_102 ?_
                refine lv_aload_n S.1 S.2.1 dX12_mend_105 rfl (lv_at hl 0 rfl) ?_
                refine rg (ci := 12) (q0 := 0) (v := .int (nI (N 17))) 17 S hK I cl_X12 rfl wf_X12_123 (by decide) rfl rfl rfl dX12_mend_106 ?_
                refine lv_iload S.1 S.2.1 dX12_mend_109 (lv_at hl 4 rfl) ?_
                refine si (q0 := 19) (n := 8) (f := R 21) (N 17) S hK I rfl rfl (by omega) (by decide) dX12_mend_111 (fun H locs I => ?_)
                have I : IX D A s.heap (wM cy q N (va_up (va_up (va_up (va_up R 18 (upd (R 18) (N 17) x)) 19 (upd (R 19) (N 17) v)) 20 (upd (R 20) (N 17) hn)) 21 (upd (R 21) (N 17) nd)) X) H locs := I
                refine lv_aload_n S.1 S.2.1 dX12_mend_112 rfl (lv_at hl 0 rfl) ?_
                refine rg (ci := 12) (q0 := 0) (v := .ref (q 22)) 22 S hK I cl_X12 rfl wf_X12_68 (by decide) rfl rfl rfl dX12_mend_113 ?_
                refine lv_aload_n S.1 S.2.1 dX12_mend_116 rfl (lv_at hl 0 rfl) ?_
                refine rg (ci := 12) (q0 := 0) (v := .int (nI (N 17))) 17 S hK I cl_X12 rfl wf_X12_123 (by decide) rfl rfl rfl dX12_mend_117 ?_
                refine lv_iload S.1 S.2.1 dX12_mend_120 (lv_at hl 5 rfl) ?_
                refine si (q0 := 20) (n := 8) (f := R 22) (N 17) S hK I rfl rfl (by omega) (by decide) dX12_mend_122 (fun H locs I => ?_)
                have I : IX D A s.heap (wM cy q N (va_up (va_up (va_up (va_up (va_up R 18 (upd (R 18) (N 17) x)) 19 (upd (R 19) (N 17) v)) 20 (upd (R 20) (N 17) hn)) 21 (upd (R 21) (N 17) nd)) 22 (upd (R 22) (N 17) f)) X) H locs := I
                refine lv_aload_n S.1 S.2.1 dX12_mend_123 rfl (lv_at hl 0 rfl) ?_
                refine rg (ci := 12) (q0 := 0) (v := .ref (q 23)) 23 S hK I cl_X12 rfl wf_X12_71 (by decide) rfl rfl rfl dX12_mend_124 ?_
                refine lv_aload_n S.1 S.2.1 dX12_mend_127 rfl (lv_at hl 0 rfl) ?_
                refine rg (ci := 12) (q0 := 0) (v := .int (nI (N 17))) 17 S hK I cl_X12 rfl wf_X12_123 (by decide) rfl rfl rfl dX12_mend_128 ?_
                refine lv_iload S.1 S.2.1 dX12_mend_131 (lv_at hl 6 rfl) ?_
                refine si (q0 := 21) (n := 8) (f := R 23) (N 17) S hK I rfl rfl (by omega) (by decide) dX12_mend_133 (fun H locs I => ?_)
                have I : IX D A s.heap (wM cy q N (va_up (va_up (va_up (va_up (va_up (va_up R 18 (upd (R 18) (N 17) x)) 19 (upd (R 19) (N 17) v)) 20 (upd (R 20) (N 17) hn)) 21 (upd (R 21) (N 17) nd)) 22 (upd (R 22) (N 17) f)) 23 (upd (R 23) (N 17) la)) X) H locs := I
                refine lv_aload_n S.1 S.2.1 dX12_mend_134 rfl (lv_at hl 0 rfl) ?_
                refine lv_dup S.1 S.2.1 dX12_mend_135 rfl ?_
                refine rg (ci := 12) (q0 := 0) (v := .int (nI (N 17))) 17 S hK I cl_X12 rfl wf_X12_123 (by decide) rfl rfl rfl dX12_mend_136 ?_
                refine lv_iconst (v := nI 1) S.1 S.2.1 dX12_mend_139 (by decide) ?_
                refine lv_iadd S.1 S.2.1 dX12_mend_140 ?_
                refine tI (y := nI ((N 17) + 1)) (nI_add _ _) ?_
                refine rp (ci := 12) (q0 := 0) (v := .int (nI ((N 17) + 1))) (ty := .int) 17 S hK I cl_X12 rfl wf_X12_123 (by decide) rfl tyX12_ok nmX12 rfl (by decide +kernel) rfl rfl (by exact Nat.le_of_ble_eq_true rfl) rfl dX12_mend_141 (fun H locs I => ?_)
                have I : IX D A s.heap (wM cy q (va_up N 17 ((N 17) + 1)) (va_up (va_up (va_up (va_up (va_up (va_up R 18 (upd (R 18) (N 17) x)) 19 (upd (R 19) (N 17) v)) 20 (upd (R 20) (N 17) hn)) 21 (upd (R 21) (N 17) nd)) 22 (upd (R 22) (N 17) f)) 23 (upd (R 23) (N 17) la)) X) H locs := I
                refine lv_aload_n S.1 S.2.1 dX12_mend_144 rfl (lv_at hl 0 rfl) ?_
                refine rg (ci := 12) (q0 := 0) (v := .int (nI ((N 17) + 1))) 17 S hK I cl_X12 rfl wf_X12_123 (by decide) rfl rfl rfl dX12_mend_145 ?_
                refine lv_iconst (v := nI 1) S.1 S.2.1 dX12_mend_148 (by decide) ?_
                refine lv_isub S.1 S.2.1 dX12_mend_149 ?_
                refine tI (y := nI (N 17)) (by rw [pk_sub (by omega)]; rfl) ?_
                exact ru_i hQ S hr hlk (u := ((va_up N 17 ((N 17) + 1)), (va_up (va_up (va_up (va_up (va_up (va_up R 18 (upd (R 18) (N 17) x)) 19 (upd (R 19) (N 17) v)) 20 (upd (R 20) (N 17) hn)) 21 (upd (R 21) (N 17) nd)) 22 (upd (R 22) (N 17) f)) 23 (upd (R 23) (N 17) la)))) I (by simp [sp_mend, c_5, c_12, c_22, c_37, c_48, c_54, c_65o, c_65]) dX12_mend_150
              · skip
                have c_65o := c_65
                have c_65 := nI_cneF (by omega) (by omega) c_65
                refine lv_bipush (v := (-3)) S.1 S.2.1 dX12_mend_68 (by decide) ?_
                exact ru_i hQ S hr hlk (u := (N, R)) I (by rw [sp_mend, if_pos ⟨c_5, c_12, c_22, c_37, c_48, c_54⟩, if_pos c_65]; exact ⟨rfl, rfl⟩) dX12_mend_70
            · skip
              refine lv_iconst (v := (-1)) S.1 S.2.1 dX12_mend_57 (by decide) ?_
              exact ru_i hQ S hr hlk (u := (N, R)) I (by simp [sp_mend, c_5, c_12, c_22, c_37, c_48, c_54]) dX12_mend_58
set_option maxHeartbeats 4000000 in
set_option maxRecDepth 100000 in
theorem c_quarrel (l : Launch) (D : va_G) (cy : Nat → ClassId) (q : Nat → Nat) (N : Nat → Nat) (R X : Nat → Nat → Int32) (x v y w : Int32) (hB : Bd N) : MS (α := SR) l D cy yX12_quarrel cX12_quarrel 5 (Option.some FieldType.int) rm_X12_quarrel [.ref (q 33), .int x, .int v, .int y, .int w] (wM cy q N R X) (fun v_ u_ => v_ = some (.int (sp_quarrel N R x v y w).1) ∧ u_ = (sp_quarrel N R x v y w).2) (fun u_ => wM cy q u_.1 u_.2 X) := by
  refine MS.mk2 (by decide) (Nat.le_of_ble_eq_true rfl) [(0, .ref (q 33)), (1, .int x), (2, .int v), (3, .int y), (4, .int w)] rfl ?_
  intro p e s m args below meth c A ls Q hQ S hr hlk hnm hK hA I hl
  have hB0 := hB
  obtain ⟨b0, b6, b17, b24, b30⟩ := hB0
  refine lv_aload_n S.1 S.2.1 dX12_quarrel_0 rfl (lv_at hl 0 rfl) ?_
  refine lv_iload_n S.1 S.2.1 dX12_quarrel_1 rfl (lv_at hl 1 rfl) ?_
  refine cV (np := 1) (ci := 12) (q0 := 0) (As := [.int x]) (rest := []) S (c_isPart l D cy q N R X (x) hB) hK hA I wm_X12_107 wi_X12_isPart ws_X12_X12_isPart wn_X12 wk_X12_isPart ⟨rfl, hd_X12_isPart⟩ rfl ⟨by decide, by decide⟩ rfl rfl hl.1 rfl (Nat.le_of_ble_eq_true rfl) dX12_quarrel_2 ⟨by decide, by decide⟩ (fun v_ u_ H locs h_ I => ?_)
  obtain rfl := h_
  have I : IX D A s.heap (wM cy q N R X) H locs := I
  refine W.eq (g2 := F0 m 5 ls [.int (bI (isP (N 0) x))]) rfl ?_
  refine lv_if_eq (tgt := 36) S.1 S.2.1 dX12_quarrel_5 (by decide) (fun c_5 => ?_) (fun c_5 => ?_)
  · skip
    have c_5 := bI_f c_5
    refine lv_iconst (v := (-1)) S.1 S.2.1 dX12_quarrel_36 (by decide) ?_
    exact ru_i hQ S hr hlk (u := (N, R)) I (by simp [sp_quarrel, c_5]) dX12_quarrel_37
  · skip
    have c_5 := bI_t c_5
    refine lv_aload_n S.1 S.2.1 dX12_quarrel_8 rfl (lv_at hl 0 rfl) ?_
    refine lv_iload_n S.1 S.2.1 dX12_quarrel_9 rfl (lv_at hl 3 rfl) ?_
    refine cV (np := 1) (ci := 12) (q0 := 0) (As := [.int y]) (rest := []) S (c_isPart l D cy q N R X (y) hB) hK hA I wm_X12_107 wi_X12_isPart ws_X12_X12_isPart wn_X12 wk_X12_isPart ⟨rfl, hd_X12_isPart⟩ rfl ⟨by decide, by decide⟩ rfl rfl hl.1 rfl (Nat.le_of_ble_eq_true rfl) dX12_quarrel_10 ⟨by decide, by decide⟩ (fun v_ u_ H locs h_ I => ?_)
    obtain rfl := h_
    have I : IX D A s.heap (wM cy q N R X) H locs := I
    refine W.eq (g2 := F0 m 13 ls [.int (bI (isP (N 0) y))]) rfl ?_
    refine lv_if_eq (tgt := 36) S.1 S.2.1 dX12_quarrel_13 (by decide) (fun c_13 => ?_) (fun c_13 => ?_)
    · skip
      have c_13 := bI_f c_13
      refine lv_iconst (v := (-1)) S.1 S.2.1 dX12_quarrel_36 (by decide) ?_
      exact ru_i hQ S hr hlk (u := (N, R)) I (by simp [sp_quarrel, c_5, c_13]) dX12_quarrel_37
    · skip
      have c_13 := bI_t c_13
      refine lv_iload_n S.1 S.2.1 dX12_quarrel_16 rfl (lv_at hl 1 rfl) ?_
      refine lv_iload_n S.1 S.2.1 dX12_quarrel_17 rfl (lv_at hl 3 rfl) ?_
      refine lv_icmp_eq (tgt := 36) S.1 S.2.1 dX12_quarrel_18 (by decide) (fun c_18 => ?_) (fun c_18 => ?_)
      · skip
        refine lv_iconst (v := (-1)) S.1 S.2.1 dX12_quarrel_36 (by decide) ?_
        exact ru_i hQ S hr hlk (u := (N, R)) I (by simp [sp_quarrel, c_5, c_13, c_18]) dX12_quarrel_37
      · skip
        refine lv_iload_n S.1 S.2.1 dX12_quarrel_21 rfl (lv_at hl 2 rfl) ?_
        refine cS (np := 1) (As := [.int v]) (rest := []) S (c_isVersion l D cy (wM cy q N R X) v) hK hA I wm_X12_103 wt_X12_isVersion wn_X12 wk_X12_isVersion ⟨rfl, hd_X12_isVersion⟩ rfl ⟨by decide, by decide⟩ hl.1 rfl (Nat.le_of_ble_eq_true rfl) dX12_quarrel_22 ⟨by decide, by decide⟩ (fun v_ u_ H locs h_ I => ?_)
        obtain rfl := h_
        have I : IX D A s.heap (wM cy q N R X) H locs := I
        refine W.eq (g2 := F0 m 25 ls [.int (bI (isV v))]) rfl ?_
        refine lv_if_eq (tgt := 36) S.1 S.2.1 dX12_quarrel_25 (by decide) (fun c_25 => ?_) (fun c_25 => ?_)
        · skip
          have c_25 := bI_f c_25
          refine lv_iconst (v := (-1)) S.1 S.2.1 dX12_quarrel_36 (by decide) ?_
          exact ru_i hQ S hr hlk (u := (N, R)) I (by simp [sp_quarrel, c_5, c_13, c_18, c_25]) dX12_quarrel_37
        · skip
          have c_25 := bI_t c_25
          refine lv_iload S.1 S.2.1 dX12_quarrel_28 (lv_at hl 4 rfl) ?_
          refine cS (np := 1) (As := [.int w]) (rest := []) S (c_isVersion l D cy (wM cy q N R X) w) hK hA I wm_X12_103 wt_X12_isVersion wn_X12 wk_X12_isVersion ⟨rfl, hd_X12_isVersion⟩ rfl ⟨by decide, by decide⟩ hl.1 rfl (Nat.le_of_ble_eq_true rfl) dX12_quarrel_30 ⟨by decide, by decide⟩ (fun v_ u_ H locs h_ I => ?_)
          obtain rfl := h_
          have I : IX D A s.heap (wM cy q N R X) H locs := I
          refine W.eq (g2 := F0 m 33 ls [.int (bI (isV w))]) rfl ?_
          refine lv_if_ne (tgt := 38) S.1 S.2.1 dX12_quarrel_33 (by decide) (fun c_33 => ?_) (fun c_33 => ?_)
          · skip
            have c_33 := bI_t c_33
            refine lv_aload_n S.1 S.2.1 dX12_quarrel_38 rfl (lv_at hl 0 rfl) ?_
            refine rg (ci := 12) (q0 := 0) (v := .int (nI (N 24))) 24 S hK I cl_X12 rfl wf_X12_152 (by decide) rfl rfl rfl dX12_quarrel_39 ?_
            refine lv_bipush (v := nI 8) S.1 S.2.1 dX12_quarrel_42 (by decide) ?_
            refine lv_icmp_ne (tgt := 50) S.1 S.2.1 dX12_quarrel_44 (by decide) (fun c_44 => ?_) (fun c_44 => ?_)
            · skip
              have c_44o := c_44
              have c_44 := nI_cneT (by omega) (by omega) c_44
              refine lv_aload_n S.1 S.2.1 dX12_quarrel_50 rfl (lv_at hl 0 rfl) ?_
              refine rg (ci := 12) (q0 := 0) (v := .ref (q 25)) 25 S hK I cl_X12 rfl wf_X12_74 (by decide) rfl rfl rfl dX12_quarrel_51 ?_
              refine lv_iconst (v := nI 4) S.1 S.2.1 dX12_quarrel_54 (by decide) ?_
              refine lv_aload_n S.1 S.2.1 dX12_quarrel_55 rfl (lv_at hl 0 rfl) ?_
              refine rg (ci := 12) (q0 := 0) (v := .int (nI (N 24))) 24 S hK I cl_X12 rfl wf_X12_152 (by decide) rfl rfl rfl dX12_quarrel_56 ?_
              refine lv_imul S.1 S.2.1 dX12_quarrel_59 ?_
              refine tI (y := nI (4 * (N 24))) (pk_mul _ _) ?_
              refine lv_iload_n S.1 S.2.1 dX12_quarrel_60 rfl (lv_at hl 1 rfl) ?_
              refine si (q0 := 22) (n := 32) (f := R 25) (4 * (N 24)) S hK I rfl rfl (by omega) (by decide) dX12_quarrel_61 (fun H locs I => ?_)
              have I : IX D A s.heap (wM cy q N (va_up R 25 (upd (R 25) (4 * (N 24)) x)) X) H locs := I
              refine lv_aload_n S.1 S.2.1 dX12_quarrel_62 rfl (lv_at hl 0 rfl) ?_
              refine rg (ci := 12) (q0 := 0) (v := .ref (q 25)) 25 S hK I cl_X12 rfl wf_X12_74 (by decide) rfl rfl rfl dX12_quarrel_63 ?_
              refine lv_iconst (v := nI 4) S.1 S.2.1 dX12_quarrel_66 (by decide) ?_
              refine lv_aload_n S.1 S.2.1 dX12_quarrel_67 rfl (lv_at hl 0 rfl) ?_
              refine rg (ci := 12) (q0 := 0) (v := .int (nI (N 24))) 24 S hK I cl_X12 rfl wf_X12_152 (by decide) rfl rfl rfl dX12_quarrel_68 ?_
              refine lv_imul S.1 S.2.1 dX12_quarrel_71 ?_
              refine tI (y := nI (4 * (N 24))) (pk_mul _ _) ?_
              refine lv_iconst (v := nI 1) S.1 S.2.1 dX12_quarrel_72 (by decide) ?_
              refine lv_iadd S.1 S.2.1 dX12_quarrel_73 ?_
              refine tI (y := nI ((4 * (N 24)) + 1)) (nI_add _ _) ?_
              refine lv_iload_n S.1 S.2.1 dX12_quarrel_74 rfl (lv_at hl 2 rfl) ?_
              refine si (q0 := 22) (n := 32) (f := upd (R 25) (4 * (N 24)) x) ((4 * (N 24)) + 1) S hK I rfl rfl (by omega) (by decide) dX12_quarrel_75 (fun H locs I => ?_)
              have I : IX D A s.heap (wM cy q N (va_up R 25 (upd (upd (R 25) (4 * (N 24)) x) ((4 * (N 24)) + 1) v)) X) H locs := I
              refine lv_aload_n S.1 S.2.1 dX12_quarrel_76 rfl (lv_at hl 0 rfl) ?_
              refine rg (ci := 12) (q0 := 0) (v := .ref (q 25)) 25 S hK I cl_X12 rfl wf_X12_74 (by decide) rfl rfl rfl dX12_quarrel_77 ?_
              refine lv_iconst (v := nI 4) S.1 S.2.1 dX12_quarrel_80 (by decide) ?_
              refine lv_aload_n S.1 S.2.1 dX12_quarrel_81 rfl (lv_at hl 0 rfl) ?_
              refine rg (ci := 12) (q0 := 0) (v := .int (nI (N 24))) 24 S hK I cl_X12 rfl wf_X12_152 (by decide) rfl rfl rfl dX12_quarrel_82 ?_
              refine lv_imul S.1 S.2.1 dX12_quarrel_85 ?_
              refine tI (y := nI (4 * (N 24))) (pk_mul _ _) ?_
              refine lv_iconst (v := nI 2) S.1 S.2.1 dX12_quarrel_86 (by decide) ?_
              refine lv_iadd S.1 S.2.1 dX12_quarrel_87 ?_
              refine tI (y := nI ((4 * (N 24)) + 2)) (nI_add _ _) ?_
              refine lv_iload_n S.1 S.2.1 dX12_quarrel_88 rfl (lv_at hl 3 rfl) ?_
              refine si (q0 := 22) (n := 32) (f := upd (upd (R 25) (4 * (N 24)) x) ((4 * (N 24)) + 1) v) ((4 * (N 24)) + 2) S hK I rfl rfl (by omega) (by decide) dX12_quarrel_89 (fun H locs I => ?_)
              have I : IX D A s.heap (wM cy q N (va_up R 25 (upd (upd (upd (R 25) (4 * (N 24)) x) ((4 * (N 24)) + 1) v) ((4 * (N 24)) + 2) y)) X) H locs := I
              refine lv_aload_n S.1 S.2.1 dX12_quarrel_90 rfl (lv_at hl 0 rfl) ?_
              refine rg (ci := 12) (q0 := 0) (v := .ref (q 25)) 25 S hK I cl_X12 rfl wf_X12_74 (by decide) rfl rfl rfl dX12_quarrel_91 ?_
              refine lv_iconst (v := nI 4) S.1 S.2.1 dX12_quarrel_94 (by decide) ?_
              refine lv_aload_n S.1 S.2.1 dX12_quarrel_95 rfl (lv_at hl 0 rfl) ?_
              refine rg (ci := 12) (q0 := 0) (v := .int (nI (N 24))) 24 S hK I cl_X12 rfl wf_X12_152 (by decide) rfl rfl rfl dX12_quarrel_96 ?_
              refine lv_imul S.1 S.2.1 dX12_quarrel_99 ?_
              refine tI (y := nI (4 * (N 24))) (pk_mul _ _) ?_
              refine lv_iconst (v := nI 3) S.1 S.2.1 dX12_quarrel_100 (by decide) ?_
              refine lv_iadd S.1 S.2.1 dX12_quarrel_101 ?_
              refine tI (y := nI ((4 * (N 24)) + 3)) (nI_add _ _) ?_
              refine lv_iload S.1 S.2.1 dX12_quarrel_102 (lv_at hl 4 rfl) ?_
              refine si (q0 := 22) (n := 32) (f := upd (upd (upd (R 25) (4 * (N 24)) x) ((4 * (N 24)) + 1) v) ((4 * (N 24)) + 2) y) ((4 * (N 24)) + 3) S hK I rfl rfl (by omega) (by decide) dX12_quarrel_104 (fun H locs I => ?_)
              have I : IX D A s.heap (wM cy q N (va_up R 25 (upd (upd (upd (upd (R 25) (4 * (N 24)) x) ((4 * (N 24)) + 1) v) ((4 * (N 24)) + 2) y) ((4 * (N 24)) + 3) w)) X) H locs := I
              refine lv_aload_n S.1 S.2.1 dX12_quarrel_105 rfl (lv_at hl 0 rfl) ?_
              refine lv_dup S.1 S.2.1 dX12_quarrel_106 rfl ?_
              refine rg (ci := 12) (q0 := 0) (v := .int (nI (N 24))) 24 S hK I cl_X12 rfl wf_X12_152 (by decide) rfl rfl rfl dX12_quarrel_107 ?_
              refine lv_iconst (v := nI 1) S.1 S.2.1 dX12_quarrel_110 (by decide) ?_
              refine lv_iadd S.1 S.2.1 dX12_quarrel_111 ?_
              refine tI (y := nI ((N 24) + 1)) (nI_add _ _) ?_
              refine rp (ci := 12) (q0 := 0) (v := .int (nI ((N 24) + 1))) (ty := .int) 24 S hK I cl_X12 rfl wf_X12_152 (by decide) rfl tyX12_ok nmX12 rfl (by decide +kernel) rfl rfl (by exact Nat.le_of_ble_eq_true rfl) rfl dX12_quarrel_112 (fun H locs I => ?_)
              have I : IX D A s.heap (wM cy q (va_up N 24 ((N 24) + 1)) (va_up R 25 (upd (upd (upd (upd (R 25) (4 * (N 24)) x) ((4 * (N 24)) + 1) v) ((4 * (N 24)) + 2) y) ((4 * (N 24)) + 3) w)) X) H locs := I
              refine lv_aload_n S.1 S.2.1 dX12_quarrel_115 rfl (lv_at hl 0 rfl) ?_
              refine rg (ci := 12) (q0 := 0) (v := .int (nI ((N 24) + 1))) 24 S hK I cl_X12 rfl wf_X12_152 (by decide) rfl rfl rfl dX12_quarrel_116 ?_
              exact ru_i hQ S hr hlk (u := ((va_up N 24 ((N 24) + 1)), (va_up R 25 (upd (upd (upd (upd (R 25) (4 * (N 24)) x) ((4 * (N 24)) + 1) v) ((4 * (N 24)) + 2) y) ((4 * (N 24)) + 3) w)))) I (by simp [sp_quarrel, c_5, c_13, c_18, c_25, c_33, c_44o, c_44]) dX12_quarrel_119
            · skip
              have c_44o := c_44
              have c_44 := nI_cneF (by omega) (by omega) c_44
              refine lv_bipush (v := (-3)) S.1 S.2.1 dX12_quarrel_47 (by decide) ?_
              exact ru_i hQ S hr hlk (u := (N, R)) I (by simp [sp_quarrel, c_5, c_13, c_18, c_25, c_33, c_44o, c_44]) dX12_quarrel_49
          · skip
            have c_33 := bI_f c_33
            refine lv_iconst (v := (-1)) S.1 S.2.1 dX12_quarrel_36 (by decide) ?_
            exact ru_i hQ S hr hlk (u := (N, R)) I (by simp [sp_quarrel, c_5, c_13, c_18, c_25, c_33]) dX12_quarrel_37
set_option maxHeartbeats 4000000 in
set_option maxRecDepth 100000 in
theorem c_isQuarrelling (l : Launch) (D : va_G) (cy : Nat → ClassId) (q : Nat → Nat) (N : Nat → Nat) (R X : Nat → Nat → Int32) (hW : WFm N R) : MS (α := Unit) l D cy yX12_isQuarrelling cX12_isQuarrelling 3 (Option.some FieldType.boolean) rm_X12_isQuarrelling [.ref (q 33)] (wM cy q N R X) (fun v_ (_ : Unit) => v_ = some (.int (bI (quF R (X 13) (N 24))))) (fun _ => wM cy q N R X) := by
  refine MS.mk2 (by decide) (Nat.le_of_ble_eq_true rfl) [(0, .ref (q 33))] rfl ?_
  intro p e s m args below meth c A ls Q hQ S hr hlk hnm hK hA I hl
  have hW0 := hW
  obtain ⟨hB, hPt, hBo, hH, hM, hQu⟩ := hW0
  have hB0 := hB
  obtain ⟨b0, b6, b17, b24, b30⟩ := hB0
  refine lv_iconst (v := nI 0) S.1 S.2.1 dX12_isQuarrelling_0 (by decide) ?_
  refine tI (y := bI false) rfl ?_
  refine lv_istore_n (lv' := [(1, .int (bI false)), (0, .ref (q 33))]) S.1 S.2.1 dX12_isQuarrelling_1 rfl hl (by decide) rfl (fun ls hl => ?_)
  refine lv_iconst (v := nI 0) S.1 S.2.1 dX12_isQuarrelling_2 (by decide) ?_
  refine lv_istore_n (lv' := [(2, .int (nI 0)), (1, .int (bI false)), (0, .ref (q 33))]) S.1 S.2.1 dX12_isQuarrelling_3 rfl hl (by decide) rfl (fun ls hl => ?_)
  have loop_4 : ∀ (k_ : Nat) (k2 : Nat) (ub : Bool), N 24 - k2 < k_ → k2 ≤ N 24 → ub = quF R (X 13) k2 → ∀ (H : Heap) (locs : List Loc) (ls : Array Slot), IX D A s.heap (wM cy q N R X) H locs → lv_has ls 3 [(0, .ref (q 33)), (1, .int (bI ub)), (2, .int (nI k2))] → W p l e rm_X12_isQuarrelling s m args below meth c H locs 0 0 Q (F0 m 4 ls []) := by
    intro k_
    induction k_ with
    | zero => intro k2 ub hm_; exact absurd hm_ (Nat.not_lt_zero _)
    | succ k_ ih_4 =>
      intro k2 ub hm_ hk2 hu H locs ls I hl
      refine lv_iload_n S.1 S.2.1 dX12_isQuarrelling_4 rfl (lv_at hl 2 rfl) ?_
      refine lv_aload_n S.1 S.2.1 dX12_isQuarrelling_5 rfl (lv_at hl 0 rfl) ?_
      refine rg (ci := 12) (q0 := 0) (v := .int (nI (N 24))) 24 S hK I cl_X12 rfl wf_X12_152 (by decide) rfl rfl rfl dX12_isQuarrelling_6 ?_
      refine lv_icmp_ge (tgt := 82) S.1 S.2.1 dX12_isQuarrelling_9 (by decide) (fun c_9 => ?_) (fun c_9 => ?_)
      · skip
        have c_9o := c_9
        have c_9 := nI_cgeT (by omega) (by omega) c_9
        refine lv_iload_n S.1 S.2.1 dX12_isQuarrelling_82 rfl (lv_at hl 1 rfl) ?_
        exact ru_z hQ S hr hlk (bI_01 _) (u := ()) I (congrArg (fun z => some (Value.int z)) (by rw [hu, show k2 = N 24 by omega])) dX12_isQuarrelling_83
      · skip
        have c_9o := c_9
        have c_9 := nI_cgeF (by omega) (by omega) c_9
        refine lv_iload_n S.1 S.2.1 dX12_isQuarrelling_12 rfl (lv_at hl 1 rfl) ?_
        refine lv_if_ne (tgt := 70) S.1 S.2.1 dX12_isQuarrelling_13 (by decide) (fun c_13 => ?_) (fun c_13 => ?_)
        · skip
          have c_13 := bI_t c_13
          skip
          refine lv_iconst (v := nI 1) S.1 S.2.1 dX12_isQuarrelling_70 (by decide) ?_
          refine tI (y := bI true) rfl ?_
          refine lv_goto (tgt := 75) S.1 S.2.1 dX12_isQuarrelling_71 (by decide) ?_
          refine lv_istore_n (lv' := [(1, .int (bI true)), (0, .ref (q 33)), (2, .int (nI k2))]) S.1 S.2.1 dX12_isQuarrelling_75 rfl hl (by decide) rfl (fun ls hl => ?_)
          refine lv_iinc (v := nI (k2 + 1)) (lv' := [(2, .int (nI (k2 + 1))), (1, .int (bI true)), (0, .ref (q 33))]) S.1 S.2.1 dX12_isQuarrelling_76 hl (k := 2) rfl (nI_1 _) (by decide) rfl (fun ls hl => ?_)
          refine lv_goto (tgt := 4) S.1 S.2.1 dX12_isQuarrelling_79 (by decide) ?_
          exact ih_4 (k2 + 1) true (by omega) (by omega) (by rw [quF, ← hu]; simp [c_13]) _ _ _ I (lv_sub hl [2, 1, 0] rfl)
        · skip
          have c_13 := bI_f c_13
          have hqa := (hQu k2 (by omega)).1.2
          have hqb := (hQu k2 (by omega)).2.2
          refine lv_aload_n S.1 S.2.1 dX12_isQuarrelling_16 rfl (lv_at hl 0 rfl) ?_
          refine rg (ci := 12) (q0 := 0) (v := .ref (q 13)) 13 S hK I cl_X12 rfl wf_X12_44 (by decide) rfl rfl rfl dX12_isQuarrelling_17 ?_
          refine lv_aload_n S.1 S.2.1 dX12_isQuarrelling_20 rfl (lv_at hl 0 rfl) ?_
          refine rg (ci := 12) (q0 := 0) (v := .ref (q 25)) 25 S hK I cl_X12 rfl wf_X12_74 (by decide) rfl rfl rfl dX12_isQuarrelling_21 ?_
          refine lv_iconst (v := nI 4) S.1 S.2.1 dX12_isQuarrelling_24 (by decide) ?_
          refine lv_iload_n S.1 S.2.1 dX12_isQuarrelling_25 rfl (lv_at hl 2 rfl) ?_
          refine lv_imul S.1 S.2.1 dX12_isQuarrelling_26 ?_
          refine tI (y := nI (4 * k2)) (pk_mul _ _) ?_
          refine ri (q0 := 22) (n := 32) (f := R 25) (4 * k2) S hK I rfl rfl (by omega) (by decide) dX12_isQuarrelling_27 ?_
          refine tI (y := nI (qa R k2)) ((hQu k2 (by omega)).1.1) ?_
          refine ri (q0 := 12) (n := 8) (f := X 13) (qa R k2) S hK I rfl rfl (by omega) (by decide) dX12_isQuarrelling_28 ?_
          refine lv_aload_n S.1 S.2.1 dX12_isQuarrelling_29 rfl (lv_at hl 0 rfl) ?_
          refine rg (ci := 12) (q0 := 0) (v := .ref (q 25)) 25 S hK I cl_X12 rfl wf_X12_74 (by decide) rfl rfl rfl dX12_isQuarrelling_30 ?_
          refine lv_iconst (v := nI 4) S.1 S.2.1 dX12_isQuarrelling_33 (by decide) ?_
          refine lv_iload_n S.1 S.2.1 dX12_isQuarrelling_34 rfl (lv_at hl 2 rfl) ?_
          refine lv_imul S.1 S.2.1 dX12_isQuarrelling_35 ?_
          refine tI (y := nI (4 * k2)) (pk_mul _ _) ?_
          refine lv_iconst (v := nI 1) S.1 S.2.1 dX12_isQuarrelling_36 (by decide) ?_
          refine lv_iadd S.1 S.2.1 dX12_isQuarrelling_37 ?_
          refine tI (y := nI ((4 * k2) + 1)) (nI_add _ _) ?_
          refine ri (q0 := 22) (n := 32) (f := R 25) ((4 * k2) + 1) S hK I rfl rfl (by omega) (by decide) dX12_isQuarrelling_38 ?_
          refine lv_icmp_ne (tgt := 74) S.1 S.2.1 dX12_isQuarrelling_39 (by decide) (fun c_39 => ?_) (fun c_39 => ?_)
          · skip
            refine lv_iconst (v := nI 0) S.1 S.2.1 dX12_isQuarrelling_74 (by decide) ?_
            refine tI (y := bI false) rfl ?_
            refine lv_istore_n (lv' := [(1, .int (bI false)), (0, .ref (q 33)), (2, .int (nI k2))]) S.1 S.2.1 dX12_isQuarrelling_75 rfl hl (by decide) rfl (fun ls hl => ?_)
            refine lv_iinc (v := nI (k2 + 1)) (lv' := [(2, .int (nI (k2 + 1))), (1, .int (bI false)), (0, .ref (q 33))]) S.1 S.2.1 dX12_isQuarrelling_76 hl (k := 2) rfl (nI_1 _) (by decide) rfl (fun ls hl => ?_)
            refine lv_goto (tgt := 4) S.1 S.2.1 dX12_isQuarrelling_79 (by decide) ?_
            exact ih_4 (k2 + 1) false (by omega) (by omega) (by rw [quF, ← hu]; simp [c_13, c_39]) _ _ _ I (lv_sub hl [2, 1, 0] rfl)
          · skip
            refine lv_aload_n S.1 S.2.1 dX12_isQuarrelling_42 rfl (lv_at hl 0 rfl) ?_
            refine rg (ci := 12) (q0 := 0) (v := .ref (q 13)) 13 S hK I cl_X12 rfl wf_X12_44 (by decide) rfl rfl rfl dX12_isQuarrelling_43 ?_
            refine lv_aload_n S.1 S.2.1 dX12_isQuarrelling_46 rfl (lv_at hl 0 rfl) ?_
            refine rg (ci := 12) (q0 := 0) (v := .ref (q 25)) 25 S hK I cl_X12 rfl wf_X12_74 (by decide) rfl rfl rfl dX12_isQuarrelling_47 ?_
            refine lv_iconst (v := nI 4) S.1 S.2.1 dX12_isQuarrelling_50 (by decide) ?_
            refine lv_iload_n S.1 S.2.1 dX12_isQuarrelling_51 rfl (lv_at hl 2 rfl) ?_
            refine lv_imul S.1 S.2.1 dX12_isQuarrelling_52 ?_
            refine tI (y := nI (4 * k2)) (pk_mul _ _) ?_
            refine lv_iconst (v := nI 2) S.1 S.2.1 dX12_isQuarrelling_53 (by decide) ?_
            refine lv_iadd S.1 S.2.1 dX12_isQuarrelling_54 ?_
            refine tI (y := nI ((4 * k2) + 2)) (nI_add _ _) ?_
            refine ri (q0 := 22) (n := 32) (f := R 25) ((4 * k2) + 2) S hK I rfl rfl (by omega) (by decide) dX12_isQuarrelling_55 ?_
            refine tI (y := nI (qb R k2)) ((hQu k2 (by omega)).2.1) ?_
            refine ri (q0 := 12) (n := 8) (f := X 13) (qb R k2) S hK I rfl rfl (by omega) (by decide) dX12_isQuarrelling_56 ?_
            refine lv_aload_n S.1 S.2.1 dX12_isQuarrelling_57 rfl (lv_at hl 0 rfl) ?_
            refine rg (ci := 12) (q0 := 0) (v := .ref (q 25)) 25 S hK I cl_X12 rfl wf_X12_74 (by decide) rfl rfl rfl dX12_isQuarrelling_58 ?_
            refine lv_iconst (v := nI 4) S.1 S.2.1 dX12_isQuarrelling_61 (by decide) ?_
            refine lv_iload_n S.1 S.2.1 dX12_isQuarrelling_62 rfl (lv_at hl 2 rfl) ?_
            refine lv_imul S.1 S.2.1 dX12_isQuarrelling_63 ?_
            refine tI (y := nI (4 * k2)) (pk_mul _ _) ?_
            refine lv_iconst (v := nI 3) S.1 S.2.1 dX12_isQuarrelling_64 (by decide) ?_
            refine lv_iadd S.1 S.2.1 dX12_isQuarrelling_65 ?_
            refine tI (y := nI ((4 * k2) + 3)) (nI_add _ _) ?_
            refine ri (q0 := 22) (n := 32) (f := R 25) ((4 * k2) + 3) S hK I rfl rfl (by omega) (by decide) dX12_isQuarrelling_66 ?_
            refine lv_icmp_ne (tgt := 74) S.1 S.2.1 dX12_isQuarrelling_67 (by decide) (fun c_67 => ?_) (fun c_67 => ?_)
            · skip
              refine lv_iconst (v := nI 0) S.1 S.2.1 dX12_isQuarrelling_74 (by decide) ?_
              refine tI (y := bI false) rfl ?_
              refine lv_istore_n (lv' := [(1, .int (bI false)), (0, .ref (q 33)), (2, .int (nI k2))]) S.1 S.2.1 dX12_isQuarrelling_75 rfl hl (by decide) rfl (fun ls hl => ?_)
              refine lv_iinc (v := nI (k2 + 1)) (lv' := [(2, .int (nI (k2 + 1))), (1, .int (bI false)), (0, .ref (q 33))]) S.1 S.2.1 dX12_isQuarrelling_76 hl (k := 2) rfl (nI_1 _) (by decide) rfl (fun ls hl => ?_)
              refine lv_goto (tgt := 4) S.1 S.2.1 dX12_isQuarrelling_79 (by decide) ?_
              exact ih_4 (k2 + 1) false (by omega) (by omega) (by rw [quF, ← hu]; simp [c_13, c_39, c_67]) _ _ _ I (lv_sub hl [2, 1, 0] rfl)
            · skip
              refine lv_iconst (v := nI 1) S.1 S.2.1 dX12_isQuarrelling_70 (by decide) ?_
              refine tI (y := bI true) rfl ?_
              refine lv_goto (tgt := 75) S.1 S.2.1 dX12_isQuarrelling_71 (by decide) ?_
              refine lv_istore_n (lv' := [(1, .int (bI true)), (0, .ref (q 33)), (2, .int (nI k2))]) S.1 S.2.1 dX12_isQuarrelling_75 rfl hl (by decide) rfl (fun ls hl => ?_)
              refine lv_iinc (v := nI (k2 + 1)) (lv' := [(2, .int (nI (k2 + 1))), (1, .int (bI true)), (0, .ref (q 33))]) S.1 S.2.1 dX12_isQuarrelling_76 hl (k := 2) rfl (nI_1 _) (by decide) rfl (fun ls hl => ?_)
              refine lv_goto (tgt := 4) S.1 S.2.1 dX12_isQuarrelling_79 (by decide) ?_
              exact ih_4 (k2 + 1) true (by omega) (by omega) (by rw [quF, ← hu]; simp [c_13, c_39, c_67]) _ _ _ I (lv_sub hl [2, 1, 0] rfl)
  exact loop_4 _ 0 false (Nat.lt_succ_self _) (Nat.zero_le _) rfl _ _ _ I (lv_sub hl [2, 1, 0] rfl)
set_option maxHeartbeats 4000000 in
set_option maxRecDepth 100000 in
theorem c_isSound (l : Launch) (D : va_G) (cy : Nat → ClassId) (q : Nat → Nat) (N : Nat → Nat) (R X : Nat → Nat → Int32) (d : Nat) (hW : WFm N R) (hd : d < 2147483648) : MS (α := (Nat → Int32)) l D cy yX12_isSound cX12_isSound 3 (Option.some FieldType.boolean) rm_X12_isSound [.ref (q 33), .int (nI d)] (wM cy q N R X) (fun v_ (_ : Nat → Int32) => v_ = some (.int (bI (soB N R d)))) (fun u_ => wM cy q N R (va_up X 13 u_)) := by
  refine MS.mk2 (by decide) (Nat.le_of_ble_eq_true rfl) [(0, .ref (q 33)), (1, .int (nI d))] rfl ?_
  intro p e s m args below meth c A ls Q hQ S hr hlk hnm hK hA I hl
  have hW0 := hW
  obtain ⟨hB, hPt, hBo, hH, hM, hQu⟩ := hW0
  have hB0 := hB
  obtain ⟨b0, b6, b17, b24, b30⟩ := hB0
  refine lv_iconst (v := nI 0) S.1 S.2.1 dX12_isSound_0 (by decide) ?_
  refine lv_istore_n (lv' := [(2, .int (nI 0)), (0, .ref (q 33)), (1, .int (nI d))]) S.1 S.2.1 dX12_isSound_1 rfl hl (by decide) rfl (fun ls hl => ?_)
  have loop_2 : ∀ (k_ : Nat) (i : Nat), N 17 - i < k_ → i ≤ N 17 → neF R d i = true → ∀ (H : Heap) (locs : List Loc) (ls : Array Slot), IX D A s.heap (wM cy q N R X) H locs → lv_has ls 3 [(0, .ref (q 33)), (1, .int (nI d)), (2, .int (nI i))] → W p l e rm_X12_isSound s m args below meth c H locs 0 0 Q (F0 m 2 ls []) := by
    intro k_
    induction k_ with
    | zero => intro i hm_; exact absurd hm_ (Nat.not_lt_zero _)
    | succ k_ ih_2 =>
      intro i hm_ hi hne H locs ls I hl
      refine lv_iload_n S.1 S.2.1 dX12_isSound_2 rfl (lv_at hl 2 rfl) ?_
      refine lv_aload_n S.1 S.2.1 dX12_isSound_3 rfl (lv_at hl 0 rfl) ?_
      refine rg (ci := 12) (q0 := 0) (v := .int (nI (N 17))) 17 S hK I cl_X12 rfl wf_X12_123 (by decide) rfl rfl rfl dX12_isSound_4 ?_
      refine lv_icmp_ge (tgt := 49) S.1 S.2.1 dX12_isSound_7 (by decide) (fun c_7 => ?_) (fun c_7 => ?_)
      · skip
        have c_7o := c_7
        have c_7 := nI_cgeT (by omega) (by omega) c_7
        refine lv_aload_n S.1 S.2.1 dX12_isSound_49 rfl (lv_at hl 0 rfl) ?_
        refine lv_iload_n S.1 S.2.1 dX12_isSound_50 rfl (lv_at hl 1 rfl) ?_
        refine cV (np := 1) (ci := 12) (q0 := 0) (As := [.int (nI d)]) (rest := []) S (c_takeVersions l D cy q N R X d hW hd) hK hA I wm_X12_140 wi_X12_takeVersions ws_X12_X12_takeVersions wn_X12 wk_X12_takeVersions ⟨rfl, hd_X12_takeVersions⟩ rfl ⟨by decide, by decide⟩ rfl rfl hl.1 rfl (Nat.le_of_ble_eq_true rfl) dX12_isSound_51 ⟨by decide, by decide⟩ (fun v_ u_ H locs h_ I => ?_)
        obtain ⟨rfl, hnw_51⟩ := h_
        generalize u_ = nw_51 at hnw_51 I
        have hnw_51 : ∀ p, p < N 0 → nw_51 p = vtF R d (N 17) p := hnw_51
        have I : IX D A s.heap (wM cy q N R (va_up X 13 nw_51)) H locs := I
        refine W.eq (g2 := F0 m 54 ls []) rfl ?_
        refine lv_aload_n S.1 S.2.1 dX12_isSound_54 rfl (lv_at hl 0 rfl) ?_
        refine cV (np := 0) (ci := 12) (q0 := 0) (As := []) (rest := []) S (c_isQuarrelling l D cy q N R (va_up X 13 nw_51) hW) hK hA I wm_X12_155 wi_X12_isQuarrelling ws_X12_X12_isQuarrelling wn_X12 wk_X12_isQuarrelling ⟨rfl, hd_X12_isQuarrelling⟩ rfl ⟨by decide, by decide⟩ rfl rfl hl.1 rfl (Nat.le_of_ble_eq_true rfl) dX12_isSound_55 ⟨by decide, by decide⟩ (fun v_ u_ H locs h_ I => ?_)
        obtain rfl := h_
        have I : IX D A s.heap (wM cy q N R (va_up X 13 nw_51)) H locs := I
        refine W.eq (g2 := F0 m 58 ls [.int (bI (quF R nw_51 (N 24)))]) rfl ?_
        refine tI (y := bI (quF R (vtF R d (N 17)) (N 24))) (congrArg bI (quF_cg hQu hnw_51 _ (Nat.le_refl _))) ?_
        refine lv_if_ne (tgt := 65) S.1 S.2.1 dX12_isSound_58 (by decide) (fun c_58 => ?_) (fun c_58 => ?_)
        · skip
          have c_58 := bI_t c_58
          refine lv_iconst (v := nI 0) S.1 S.2.1 dX12_isSound_65 (by decide) ?_
          exact ru_z hQ S hr hlk (by decide) (u := nw_51) I (congrArg (fun z => some (Value.int z)) (bI_0 (by rw [soB, show N 17 = i by omega, hne]; rw [show N 17 = i by omega] at c_58; simp [c_58]))) dX12_isSound_66
        · skip
          have c_58 := bI_f c_58
          refine lv_iconst (v := nI 1) S.1 S.2.1 dX12_isSound_61 (by decide) ?_
          refine lv_goto (tgt := 66) S.1 S.2.1 dX12_isSound_62 (by decide) ?_
          exact ru_z hQ S hr hlk (by decide) (u := nw_51) I (congrArg (fun z => some (Value.int z)) (bI_1 (by rw [soB, show N 17 = i by omega, hne]; rw [show N 17 = i by omega] at c_58; simp [c_58]))) dX12_isSound_66
      · skip
        have c_7o := c_7
        have c_7 := nI_cgeF (by omega) (by omega) c_7
        refine lv_iload_n S.1 S.2.1 dX12_isSound_10 rfl (lv_at hl 1 rfl) ?_
        refine lv_iload_n S.1 S.2.1 dX12_isSound_11 rfl (lv_at hl 2 rfl) ?_
        refine lv_ishr S.1 S.2.1 dX12_isSound_12 ?_
        refine lv_iconst (v := nI 1) S.1 S.2.1 dX12_isSound_13 (by decide) ?_
        refine lv_iand S.1 S.2.1 dX12_isSound_14 ?_
        refine tI (y := bI (d.testBit i)) (bitD hd (by omega)) ?_
        refine lv_iconst (v := nI 1) S.1 S.2.1 dX12_isSound_15 (by decide) ?_
        refine lv_icmp_ne (tgt := 43) S.1 S.2.1 dX12_isSound_16 (by decide) (fun c_16 => ?_) (fun c_16 => ?_)
        · skip
          have c_16 := bI_eq1F c_16
          refine lv_iinc (v := nI (i + 1)) (lv' := [(2, .int (nI (i + 1))), (0, .ref (q 33)), (1, .int (nI d))]) S.1 S.2.1 dX12_isSound_43 hl (k := 2) rfl (nI_1 _) (by decide) rfl (fun ls hl => ?_)
          refine lv_goto (tgt := 2) S.1 S.2.1 dX12_isSound_46 (by decide) ?_
          exact ih_2 (i + 1) (by omega) (by omega) (by rw [neF, hne]; simp [c_16]) _ _ _ I (lv_sub hl [1, 2, 0] rfl)
        · skip
          have c_16 := bI_eq1T c_16
          refine lv_aload_n S.1 S.2.1 dX12_isSound_19 rfl (lv_at hl 0 rfl) ?_
          refine rg (ci := 12) (q0 := 0) (v := .ref (q 21)) 21 S hK I cl_X12 rfl wf_X12_65 (by decide) rfl rfl rfl dX12_isSound_20 ?_
          refine lv_iload_n S.1 S.2.1 dX12_isSound_23 rfl (lv_at hl 2 rfl) ?_
          refine ri (q0 := 19) (n := 8) (f := R 21) i S hK I rfl rfl (by omega) (by decide) dX12_isSound_24 ?_
          refine lv_if_lt (tgt := 43) S.1 S.2.1 dX12_isSound_25 (by decide) (fun c_25 => ?_) (fun c_25 => ?_)
          · skip
            refine lv_iinc (v := nI (i + 1)) (lv' := [(2, .int (nI (i + 1))), (0, .ref (q 33)), (1, .int (nI d))]) S.1 S.2.1 dX12_isSound_43 hl (k := 2) rfl (nI_1 _) (by decide) rfl (fun ls hl => ?_)
            refine lv_goto (tgt := 2) S.1 S.2.1 dX12_isSound_46 (by decide) ?_
            exact ih_2 (i + 1) (by omega) (by omega) (by rw [neF, hne]; simp [c_16, c_25]) _ _ _ I (lv_sub hl [1, 2, 0] rfl)
          · skip
            have hmn := need_of (hM i (by omega)).2.2.2.2.1 c_25
            refine lv_iload_n S.1 S.2.1 dX12_isSound_28 rfl (lv_at hl 1 rfl) ?_
            refine lv_aload_n S.1 S.2.1 dX12_isSound_29 rfl (lv_at hl 0 rfl) ?_
            refine rg (ci := 12) (q0 := 0) (v := .ref (q 21)) 21 S hK I cl_X12 rfl wf_X12_65 (by decide) rfl rfl rfl dX12_isSound_30 ?_
            refine lv_iload_n S.1 S.2.1 dX12_isSound_33 rfl (lv_at hl 2 rfl) ?_
            refine ri (q0 := 19) (n := 8) (f := R 21) i S hK I rfl rfl (by omega) (by decide) dX12_isSound_34 ?_
            refine tI (y := nI (mn R i)) hmn.1 ?_
            refine lv_ishr S.1 S.2.1 dX12_isSound_35 ?_
            refine lv_iconst (v := nI 1) S.1 S.2.1 dX12_isSound_36 (by decide) ?_
            refine lv_iand S.1 S.2.1 dX12_isSound_37 ?_
            refine tI (y := bI (d.testBit (mn R i))) (bitD hd (by omega)) ?_
            refine lv_if_ne (tgt := 43) S.1 S.2.1 dX12_isSound_38 (by decide) (fun c_38 => ?_) (fun c_38 => ?_)
            · skip
              have c_38 := bI_t c_38
              refine lv_iinc (v := nI (i + 1)) (lv' := [(2, .int (nI (i + 1))), (0, .ref (q 33)), (1, .int (nI d))]) S.1 S.2.1 dX12_isSound_43 hl (k := 2) rfl (nI_1 _) (by decide) rfl (fun ls hl => ?_)
              refine lv_goto (tgt := 2) S.1 S.2.1 dX12_isSound_46 (by decide) ?_
              exact ih_2 (i + 1) (by omega) (by omega) (by rw [neF, hne]; simp [c_16, c_25, c_38]) _ _ _ I (lv_sub hl [1, 2, 0] rfl)
            · skip
              have c_38 := bI_f c_38
              refine lv_iconst (v := nI 0) S.1 S.2.1 dX12_isSound_41 (by decide) ?_
              exact ru_z hQ S hr hlk (by decide) (u := X 13) I (congrArg (fun z => some (Value.int z)) (bI_0 (by rw [soB, neF_false (show i < N 17 by omega) (by simp [c_16, c_25, c_38]), Bool.false_and]))) dX12_isSound_42
  exact loop_2 _ 0 (Nat.lt_succ_self _) (Nat.zero_le _) rfl _ _ _ I (lv_sub hl [1, 2, 0] rfl)
set_option maxHeartbeats 4000000 in
set_option maxRecDepth 100000 in
theorem c_riskWith (l : Launch) (D : va_G) (cy : Nat → ClassId) (q : Nat → Nat) (N : Nat → Nat) (R X : Nat → Nat → Int32) (x : Int32) (hW : WFm N R) : MS (α := (Nat → Nat → Int32)) l D cy yX12_riskWith cX12_riskWith 2 (Option.some FieldType.int) rm_X12_riskWith [.ref (q 33), .int x] (wM cy q N R X) (fun v_ (_ : (Nat → Nat → Int32)) => v_ = some (.int (sp_riskWith N R x))) (fun u_ => wM cy q N R u_) := by
  refine MS.mk2 (by decide) (Nat.le_of_ble_eq_true rfl) [(0, .ref (q 33)), (1, .int x)] rfl ?_
  intro p e s m args below meth c A ls Q hQ S hr hlk hnm hK hA I hl
  have hW0 := hW
  obtain ⟨hB, hPt, hBo, hH, hM, hQu⟩ := hW0
  have hB0 := hB
  obtain ⟨b0, b6, b17, b24, b30⟩ := hB0
  have hp2 := pow_256 b17
  refine lv_aload_n S.1 S.2.1 dX12_riskWith_0 rfl (lv_at hl 0 rfl) ?_
  refine lv_iload_n S.1 S.2.1 dX12_riskWith_1 rfl (lv_at hl 1 rfl) ?_
  refine cV (np := 1) (ci := 12) (q0 := 0) (As := [.int x]) (rest := []) S (c_isSet l D cy q N R X x hB) hK hA I wm_X12_159 wi_X12_isSet ws_X12_X12_isSet wn_X12 wk_X12_isSet ⟨rfl, hd_X12_isSet⟩ rfl ⟨by decide, by decide⟩ rfl rfl hl.1 rfl (Nat.le_of_ble_eq_true rfl) dX12_riskWith_2 ⟨by decide, by decide⟩ (fun v_ u_ H locs h_ I => ?_)
  obtain rfl := h_
  have I : IX D A s.heap (wM cy q N R X) H locs := I
  refine W.eq (g2 := F0 m 5 ls [.int (bI (isP (2 ^ N 17) x))]) rfl ?_
  refine lv_if_eq (tgt := 16) S.1 S.2.1 dX12_riskWith_5 (by decide) (fun c_5 => ?_) (fun c_5 => ?_)
  · skip
    have c_5 := bI_f c_5
    refine lv_iconst (v := (-1)) S.1 S.2.1 dX12_riskWith_16 (by decide) ?_
    exact ru_i hQ S hr hlk (u := X) I (by simp [sp_riskWith, c_5]) dX12_riskWith_17
  · skip
    have c_5 := bI_t c_5
    obtain ⟨j, h_j, rfl⟩ := isP_of c_5 (Nat.lt_of_le_of_lt (pow_256 b17) (by decide))
    have e_j : (nI j).toNatClampNeg = j := nI_clamp (by omega)
    refine lv_aload_n S.1 S.2.1 dX12_riskWith_8 rfl (lv_at hl 0 rfl) ?_
    refine lv_iload_n S.1 S.2.1 dX12_riskWith_9 rfl (lv_at hl 1 rfl) ?_
    refine cV (np := 1) (ci := 12) (q0 := 0) (As := [.int (nI j)]) (rest := []) S (c_riskOf l D cy q N R X j hW (by omega)) hK hA I wm_X12_148 wi_X12_riskOf ws_X12_X12_riskOf wn_X12 wk_X12_riskOf ⟨rfl, hd_X12_riskOf⟩ rfl ⟨by decide, by decide⟩ rfl rfl hl.1 rfl (Nat.le_of_ble_eq_true rfl) dX12_riskWith_10 ⟨by decide, by decide⟩ (fun v_ u_ H locs h_ I => ?_)
    obtain ⟨rfl, hv_10, hr_10⟩ := h_
    obtain ⟨a13_10, a14_10, a15_10, a16_10⟩ := u_
    have hr_10 : RowS N R (vtF R j (N 17)) (eS N R (vtF R j (N 17))) a14_10 a15_10 a16_10 := hr_10
    have I : IX D A s.heap (wM cy q N R (va_up (va_up (va_up (va_up X 13 a13_10) 14 a14_10) 15 a15_10) 16 a16_10)) H locs := I
    refine W.eq (g2 := F0 m 13 ls [.int (nI (rsk N R (vtF R j (N 17))))]) rfl ?_
    refine lv_goto (tgt := 17) S.1 S.2.1 dX12_riskWith_13 (by decide) ?_
    exact ru_i hQ S hr hlk (u := (va_up (va_up (va_up (va_up X 13 a13_10) 14 a14_10) 15 a15_10) 16 a16_10)) I (by simp [sp_riskWith, c_5, e_j]) dX12_riskWith_17
set_option maxHeartbeats 4000000 in
set_option maxRecDepth 100000 in
theorem c_sound (l : Launch) (D : va_G) (cy : Nat → ClassId) (q : Nat → Nat) (N : Nat → Nat) (R X : Nat → Nat → Int32) (x : Int32) (hW : WFm N R) : MS (α := (Nat → Nat → Int32)) l D cy yX12_sound cX12_sound 2 (Option.some FieldType.int) rm_X12_sound [.ref (q 33), .int x] (wM cy q N R X) (fun v_ (_ : (Nat → Nat → Int32)) => v_ = some (.int (sp_sound N R x))) (fun u_ => wM cy q N R u_) := by
  refine MS.mk2 (by decide) (Nat.le_of_ble_eq_true rfl) [(0, .ref (q 33)), (1, .int x)] rfl ?_
  intro p e s m args below meth c A ls Q hQ S hr hlk hnm hK hA I hl
  have hW0 := hW
  obtain ⟨hB, hPt, hBo, hH, hM, hQu⟩ := hW0
  have hB0 := hB
  obtain ⟨b0, b6, b17, b24, b30⟩ := hB0
  have hp2 := pow_256 b17
  refine lv_aload_n S.1 S.2.1 dX12_sound_0 rfl (lv_at hl 0 rfl) ?_
  refine lv_iload_n S.1 S.2.1 dX12_sound_1 rfl (lv_at hl 1 rfl) ?_
  refine cV (np := 1) (ci := 12) (q0 := 0) (As := [.int x]) (rest := []) S (c_isSet l D cy q N R X x hB) hK hA I wm_X12_159 wi_X12_isSet ws_X12_X12_isSet wn_X12 wk_X12_isSet ⟨rfl, hd_X12_isSet⟩ rfl ⟨by decide, by decide⟩ rfl rfl hl.1 rfl (Nat.le_of_ble_eq_true rfl) dX12_sound_2 ⟨by decide, by decide⟩ (fun v_ u_ H locs h_ I => ?_)
  obtain rfl := h_
  have I : IX D A s.heap (wM cy q N R X) H locs := I
  refine W.eq (g2 := F0 m 5 ls [.int (bI (isP (2 ^ N 17) x))]) rfl ?_
  refine lv_if_ne (tgt := 12) S.1 S.2.1 dX12_sound_5 (by decide) (fun c_5 => ?_) (fun c_5 => ?_)
  · skip
    have c_5 := bI_t c_5
    obtain ⟨j, h_j, rfl⟩ := isP_of c_5 (Nat.lt_of_le_of_lt (pow_256 b17) (by decide))
    have e_j : (nI j).toNatClampNeg = j := nI_clamp (by omega)
    refine lv_aload_n S.1 S.2.1 dX12_sound_12 rfl (lv_at hl 0 rfl) ?_
    refine lv_iload_n S.1 S.2.1 dX12_sound_13 rfl (lv_at hl 1 rfl) ?_
    refine cV (np := 1) (ci := 12) (q0 := 0) (As := [.int (nI j)]) (rest := []) S (c_isSound l D cy q N R X j hW (by omega)) hK hA I wm_X12_162 wi_X12_isSound ws_X12_X12_isSound wn_X12 wk_X12_isSound ⟨rfl, hd_X12_isSound⟩ rfl ⟨by decide, by decide⟩ rfl rfl hl.1 rfl (Nat.le_of_ble_eq_true rfl) dX12_sound_14 ⟨by decide, by decide⟩ (fun v_ u_ H locs h_ I => ?_)
    obtain rfl := h_
    generalize u_ = nw_14 at I
    have I : IX D A s.heap (wM cy q N R (va_up X 13 nw_14)) H locs := I
    refine W.eq (g2 := F0 m 17 ls [.int (bI (soB N R j))]) rfl ?_
    refine lv_if_eq (tgt := 24) S.1 S.2.1 dX12_sound_17 (by decide) (fun c_17 => ?_) (fun c_17 => ?_)
    · skip
      have c_17 := bI_f c_17
      refine lv_iconst (v := nI 0) S.1 S.2.1 dX12_sound_24 (by decide) ?_
      exact ru_i hQ S hr hlk (u := (va_up X 13 nw_14)) I (by simp [sp_sound, c_5, e_j, c_17, bI, nI_one, nI_zero]) dX12_sound_25
    · skip
      have c_17 := bI_t c_17
      refine lv_iconst (v := nI 1) S.1 S.2.1 dX12_sound_20 (by decide) ?_
      refine lv_goto (tgt := 25) S.1 S.2.1 dX12_sound_21 (by decide) ?_
      exact ru_i hQ S hr hlk (u := (va_up X 13 nw_14)) I (by simp [sp_sound, c_5, e_j, c_17, bI, nI_one, nI_zero]) dX12_sound_25
  · skip
    have c_5 := bI_f c_5
    refine lv_iconst (v := (-1)) S.1 S.2.1 dX12_sound_8 (by decide) ?_
    refine lv_goto (tgt := 25) S.1 S.2.1 dX12_sound_9 (by decide) ?_
    exact ru_i hQ S hr hlk (u := X) I (by simp [sp_sound, c_5, bI, nI_one, nI_zero]) dX12_sound_25
set_option maxHeartbeats 4000000 in
set_option maxRecDepth 100000 in
theorem c_gain (l : Launch) (D : va_G) (cy : Nat → ClassId) (q : Nat → Nat) (N : Nat → Nat) (R X : Nat → Nat → Int32) (x y : Int32) (hW : WFm N R) : MS (α := (Nat → Nat → Int32)) l D cy yX12_gain cX12_gain 3 (Option.some FieldType.int) rm_X12_gain [.ref (q 33), .int x, .int y] (wM cy q N R X) (fun v_ (_ : (Nat → Nat → Int32)) => v_ = some (.int (sp_gain N R x y))) (fun u_ => wM cy q N R u_) := by
  refine MS.mk2 (by decide) (Nat.le_of_ble_eq_true rfl) [(0, .ref (q 33)), (1, .int x), (2, .int y)] rfl ?_
  intro p e s m args below meth c A ls Q hQ S hr hlk hnm hK hA I hl
  have hW0 := hW
  obtain ⟨hB, hPt, hBo, hH, hM, hQu⟩ := hW0
  have hB0 := hB
  obtain ⟨b0, b6, b17, b24, b30⟩ := hB0
  have hp2 := pow_256 b17
  refine lv_aload_n S.1 S.2.1 dX12_gain_0 rfl (lv_at hl 0 rfl) ?_
  refine lv_iload_n S.1 S.2.1 dX12_gain_1 rfl (lv_at hl 1 rfl) ?_
  refine cV (np := 1) (ci := 12) (q0 := 0) (As := [.int x]) (rest := []) S (c_isMend l D cy q N R X (x) hB) hK hA I wm_X12_165 wi_X12_isMend ws_X12_X12_isMend wn_X12 wk_X12_isMend ⟨rfl, hd_X12_isMend⟩ rfl ⟨by decide, by decide⟩ rfl rfl hl.1 rfl (Nat.le_of_ble_eq_true rfl) dX12_gain_2 ⟨by decide, by decide⟩ (fun v_ u_ H locs h_ I => ?_)
  obtain rfl := h_
  have I : IX D A s.heap (wM cy q N R X) H locs := I
  refine W.eq (g2 := F0 m 5 ls [.int (bI (isP (N 17) x))]) rfl ?_
  refine lv_if_eq (tgt := 25) S.1 S.2.1 dX12_gain_5 (by decide) (fun c_5 => ?_) (fun c_5 => ?_)
  · skip
    have c_5 := bI_f c_5
    refine lv_ldc (v := -100001) S.1 S.2.1 S.2.2.2.1 (S.2.2.2.2 _ (List.mem_cons_of_mem _ wx_902)) dX12_gain_25 ?_
    exact ru_i hQ S hr hlk (u := X) I (by simp [sp_gain, c_5]) dX12_gain_27
  · skip
    have c_5 := bI_t c_5
    obtain ⟨j, h_j, rfl⟩ := isP_of c_5 (by omega)
    have e_j : (nI j).toNatClampNeg = j := nI_clamp (by omega)
    refine lv_aload_n S.1 S.2.1 dX12_gain_8 rfl (lv_at hl 0 rfl) ?_
    refine lv_iload_n S.1 S.2.1 dX12_gain_9 rfl (lv_at hl 2 rfl) ?_
    refine cV (np := 1) (ci := 12) (q0 := 0) (As := [.int y]) (rest := []) S (c_isSet l D cy q N R X y hB) hK hA I wm_X12_159 wi_X12_isSet ws_X12_X12_isSet wn_X12 wk_X12_isSet ⟨rfl, hd_X12_isSet⟩ rfl ⟨by decide, by decide⟩ rfl rfl hl.1 rfl (Nat.le_of_ble_eq_true rfl) dX12_gain_10 ⟨by decide, by decide⟩ (fun v_ u_ H locs h_ I => ?_)
    obtain rfl := h_
    have I : IX D A s.heap (wM cy q N R X) H locs := I
    refine W.eq (g2 := F0 m 13 ls [.int (bI (isP (2 ^ N 17) y))]) rfl ?_
    refine lv_if_eq (tgt := 25) S.1 S.2.1 dX12_gain_13 (by decide) (fun c_13 => ?_) (fun c_13 => ?_)
    · skip
      have c_13 := bI_f c_13
      refine lv_ldc (v := -100001) S.1 S.2.1 S.2.2.2.1 (S.2.2.2.2 _ (List.mem_cons_of_mem _ wx_902)) dX12_gain_25 ?_
      exact ru_i hQ S hr hlk (u := X) I (by simp [sp_gain, c_5, e_j, c_13]) dX12_gain_27
    · skip
      have c_13 := bI_t c_13
      obtain ⟨d, h_d, rfl⟩ := isP_of c_13 (Nat.lt_of_le_of_lt (pow_256 b17) (by decide))
      have e_d : (nI d).toNatClampNeg = d := nI_clamp (by omega)
      refine lv_iload_n S.1 S.2.1 dX12_gain_16 rfl (lv_at hl 2 rfl) ?_
      refine lv_iload_n S.1 S.2.1 dX12_gain_17 rfl (lv_at hl 1 rfl) ?_
      refine lv_ishr S.1 S.2.1 dX12_gain_18 ?_
      refine lv_iconst (v := nI 1) S.1 S.2.1 dX12_gain_19 (by decide) ?_
      refine lv_iand S.1 S.2.1 dX12_gain_20 ?_
      refine tI (y := bI (d.testBit j)) (bitD (by omega) (by omega)) ?_
      refine lv_iconst (v := nI 1) S.1 S.2.1 dX12_gain_21 (by decide) ?_
      refine lv_icmp_ne (tgt := 28) S.1 S.2.1 dX12_gain_22 (by decide) (fun c_22 => ?_) (fun c_22 => ?_)
      · skip
        have c_22 := bI_eq1F c_22
        refine lv_aload_n S.1 S.2.1 dX12_gain_28 rfl (lv_at hl 0 rfl) ?_
        refine lv_iload_n S.1 S.2.1 dX12_gain_29 rfl (lv_at hl 2 rfl) ?_
        refine cV (np := 1) (ci := 12) (q0 := 0) (As := [.int (nI d)]) (rest := []) S (c_riskOf l D cy q N R X d hW (by omega)) hK hA I wm_X12_148 wi_X12_riskOf ws_X12_X12_riskOf wn_X12 wk_X12_riskOf ⟨rfl, hd_X12_riskOf⟩ rfl ⟨by decide, by decide⟩ rfl rfl hl.1 rfl (Nat.le_of_ble_eq_true rfl) dX12_gain_30 ⟨by decide, by decide⟩ (fun v_ u_ H locs h_ I => ?_)
        obtain ⟨rfl, hv_30, hr_30⟩ := h_
        obtain ⟨a13_30, a14_30, a15_30, a16_30⟩ := u_
        have hr_30 : RowS N R (vtF R d (N 17)) (eS N R (vtF R d (N 17))) a14_30 a15_30 a16_30 := hr_30
        have I : IX D A s.heap (wM cy q N R (va_up (va_up (va_up (va_up X 13 a13_30) 14 a14_30) 15 a15_30) 16 a16_30)) H locs := I
        refine W.eq (g2 := F0 m 33 ls [.int (nI (rsk N R (vtF R d (N 17))))]) rfl ?_
        refine lv_aload_n S.1 S.2.1 dX12_gain_33 rfl (lv_at hl 0 rfl) ?_
        refine lv_iload_n S.1 S.2.1 dX12_gain_34 rfl (lv_at hl 2 rfl) ?_
        refine lv_iconst (v := nI 1) S.1 S.2.1 dX12_gain_35 (by decide) ?_
        refine lv_iload_n S.1 S.2.1 dX12_gain_36 rfl (lv_at hl 1 rfl) ?_
        refine lv_ishl S.1 S.2.1 dX12_gain_37 ?_
        refine tI (y := nI (2 ^ j)) (bitS (by omega)) ?_
        refine lv_ior S.1 S.2.1 dX12_gain_38 ?_
        refine tI (y := nI (d ||| (2 ^ j))) (fa_or _ _) ?_
        refine cV (np := 1) (ci := 12) (q0 := 0) (As := [.int (nI (d ||| (2 ^ j)))]) (rest := [.int (nI (rsk N R (vtF R d (N 17))))]) S (c_riskOf l D cy q N R (va_up (va_up (va_up (va_up X 13 a13_30) 14 a14_30) 15 a15_30) 16 a16_30) (d ||| (2 ^ j)) hW (Nat.lt_trans (or256 (by omega) (by omega)) (by decide))) hK hA I wm_X12_148 wi_X12_riskOf ws_X12_X12_riskOf wn_X12 wk_X12_riskOf ⟨rfl, hd_X12_riskOf⟩ rfl ⟨by decide, by decide⟩ rfl rfl hl.1 rfl (Nat.le_of_ble_eq_true rfl) dX12_gain_39 ⟨by decide, by decide⟩ (fun v_ u_ H locs h_ I => ?_)
        obtain ⟨rfl, hv_39, hr_39⟩ := h_
        obtain ⟨a13_39, a14_39, a15_39, a16_39⟩ := u_
        have hr_39 : RowS N R (vtF R (d ||| (2 ^ j)) (N 17)) (eS N R (vtF R (d ||| (2 ^ j)) (N 17))) a14_39 a15_39 a16_39 := hr_39
        have I : IX D A s.heap (wM cy q N R (va_up (va_up (va_up (va_up X 13 a13_39) 14 a14_39) 15 a15_39) 16 a16_39)) H locs := I
        refine W.eq (g2 := F0 m 42 ls [.int (nI (rsk N R (vtF R (d ||| (2 ^ j)) (N 17)))), .int (nI (rsk N R (vtF R d (N 17))))]) rfl ?_
        refine lv_isub S.1 S.2.1 dX12_gain_42 ?_
        exact ru_i hQ S hr hlk (u := (va_up (va_up (va_up (va_up X 13 a13_39) 14 a14_39) 15 a15_39) 16 a16_39)) I (by simp [sp_gain, c_5, e_j, c_13, e_d, c_22]) dX12_gain_43
      · skip
        have c_22 := bI_eq1T c_22
        refine lv_ldc (v := -100001) S.1 S.2.1 S.2.2.2.1 (S.2.2.2.2 _ (List.mem_cons_of_mem _ wx_902)) dX12_gain_25 ?_
        exact ru_i hQ S hr hlk (u := X) I (by simp [sp_gain, c_5, e_j, c_13, e_d, c_22]) dX12_gain_27
set_option maxHeartbeats 4000000 in
set_option maxRecDepth 100000 in
theorem c_next (l : Launch) (D : va_G) (cy : Nat → ClassId) (q : Nat → Nat) (N : Nat → Nat) (R X : Nat → Nat → Int32) (x : Int32) (hW : WFm N R) : MS (α := (Nat → Nat → Int32)) l D cy yX12_next cX12_next 6 (Option.some FieldType.int) rm_X12_next [.ref (q 33), .int x] (wM cy q N R X) (fun v_ (_ : (Nat → Nat → Int32)) => v_ = some (.int (sp_next N R x))) (fun u_ => wM cy q N R u_) := by
  refine MS.mk2 (by decide) (Nat.le_of_ble_eq_true rfl) [(0, .ref (q 33)), (1, .int x)] rfl ?_
  intro p e s m args below meth c A ls Q hQ S hr hlk hnm hK hA I hl
  have hW0 := hW
  obtain ⟨hB, hPt, hBo, hH, hM, hQu⟩ := hW0
  have hB0 := hB
  obtain ⟨b0, b6, b17, b24, b30⟩ := hB0
  have hp2 := pow_256 b17
  refine lv_aload_n S.1 S.2.1 dX12_next_0 rfl (lv_at hl 0 rfl) ?_
  refine lv_iload_n S.1 S.2.1 dX12_next_1 rfl (lv_at hl 1 rfl) ?_
  refine cV (np := 1) (ci := 12) (q0 := 0) (As := [.int x]) (rest := []) S (c_isSet l D cy q N R X x hB) hK hA I wm_X12_159 wi_X12_isSet ws_X12_X12_isSet wn_X12 wk_X12_isSet ⟨rfl, hd_X12_isSet⟩ rfl ⟨by decide, by decide⟩ rfl rfl hl.1 rfl (Nat.le_of_ble_eq_true rfl) dX12_next_2 ⟨by decide, by decide⟩ (fun v_ u_ H locs h_ I => ?_)
  obtain rfl := h_
  have I : IX D A s.heap (wM cy q N R X) H locs := I
  refine W.eq (g2 := F0 m 5 ls [.int (bI (isP (2 ^ N 17) x))]) rfl ?_
  refine lv_if_ne (tgt := 10) S.1 S.2.1 dX12_next_5 (by decide) (fun c_5 => ?_) (fun c_5 => ?_)
  · skip
    have c_5 := bI_t c_5
    obtain ⟨d, h_d, rfl⟩ := isP_of c_5 (Nat.lt_of_le_of_lt (pow_256 b17) (by decide))
    have e_d : (nI d).toNatClampNeg = d := nI_clamp (by omega)
    refine lv_bipush (v := (-4)) S.1 S.2.1 dX12_next_10 (by decide) ?_
    refine lv_istore_n (lv' := [(2, .int (-4)), (0, .ref (q 33)), (1, .int (nI d))]) S.1 S.2.1 dX12_next_12 rfl hl (by decide) rfl (fun ls hl => ?_)
    refine lv_iconst (v := nI 0) S.1 S.2.1 dX12_next_13 (by decide) ?_
    refine lv_istore_n (lv' := [(3, .int (nI 0)), (2, .int (-4)), (0, .ref (q 33)), (1, .int (nI d))]) S.1 S.2.1 dX12_next_14 rfl hl (by decide) rfl (fun ls hl => ?_)
    refine lv_iconst (v := nI 0) S.1 S.2.1 dX12_next_15 (by decide) ?_
    refine lv_istore (lv' := [(4, .int (nI 0)), (3, .int (nI 0)), (2, .int (-4)), (0, .ref (q 33)), (1, .int (nI d))]) S.1 S.2.1 dX12_next_16 hl (by decide) rfl (fun ls hl => ?_)
    have loop_18 : ∀ (k_ : Nat) (k2 : Nat) (be : Int32) (mo : Int32) (z13 : Nat → Int32) (z14 : Nat → Int32) (z15 : Nat → Int32) (z16 : Nat → Int32), N 17 - k2 < k_ → k2 ≤ N 17 → (be, mo) = nxF N R d k2 → (be = -4 ∨ ∃ z, z < k2 ∧ be = nI z) → ∀ (H : Heap) (locs : List Loc) (ls : Array Slot), IX D A s.heap (wM cy q N R (va_up (va_up (va_up (va_up X 13 z13) 14 z14) 15 z15) 16 z16)) H locs → lv_has ls 6 [(0, .ref (q 33)), (1, .int (nI d)), (2, .int be), (3, .int mo), (4, .int (nI k2))] → W p l e rm_X12_next s m args below meth c H locs 0 0 Q (F0 m 18 ls []) := by
      intro k_
      induction k_ with
      | zero => intro k2 be mo z13 z14 z15 z16 hm_; exact absurd hm_ (Nat.not_lt_zero _)
      | succ k_ ih_18 =>
        intro k2 be mo z13 z14 z15 z16 hm_ hk2 hnx hbe H locs ls I hl
        refine lv_iload S.1 S.2.1 dX12_next_18 (lv_at hl 4 rfl) ?_
        refine lv_aload_n S.1 S.2.1 dX12_next_20 rfl (lv_at hl 0 rfl) ?_
        refine rg (ci := 12) (q0 := 0) (v := .int (nI (N 17))) 17 S hK I cl_X12 rfl wf_X12_123 (by decide) rfl rfl rfl dX12_next_21 ?_
        refine lv_icmp_ge (tgt := 111) S.1 S.2.1 dX12_next_24 (by decide) (fun c_24 => ?_) (fun c_24 => ?_)
        · skip
          have c_24o := c_24
          have c_24 := nI_cgeT (by omega) (by omega) c_24
          refine lv_iload_n S.1 S.2.1 dX12_next_111 rfl (lv_at hl 2 rfl) ?_
          exact ru_i hQ S hr hlk (u := (va_up (va_up (va_up (va_up X 13 z13) 14 z14) 15 z15) 16 z16)) I (congrArg (fun z => some (Value.int z)) (by rw [sp_next, if_pos c_5, e_d, show N 17 = k2 by omega, ← hnx])) dX12_next_112
        · skip
          have c_24o := c_24
          have c_24 := nI_cgeF (by omega) (by omega) c_24
          refine lv_iload_n S.1 S.2.1 dX12_next_27 rfl (lv_at hl 1 rfl) ?_
          refine lv_iload S.1 S.2.1 dX12_next_28 (lv_at hl 4 rfl) ?_
          refine lv_ishr S.1 S.2.1 dX12_next_30 ?_
          refine lv_iconst (v := nI 1) S.1 S.2.1 dX12_next_31 (by decide) ?_
          refine lv_iand S.1 S.2.1 dX12_next_32 ?_
          refine tI (y := bI (d.testBit k2)) (bitD (by omega) (by omega)) ?_
          refine lv_if_ne (tgt := 105) S.1 S.2.1 dX12_next_33 (by decide) (fun c_33 => ?_) (fun c_33 => ?_)
          · skip
            have c_33 := bI_t c_33
            refine lv_iinc (v := nI (k2 + 1)) (lv' := [(4, .int (nI (k2 + 1))), (0, .ref (q 33)), (1, .int (nI d)), (2, .int be), (3, .int mo)]) S.1 S.2.1 dX12_next_105 hl (k := 4) rfl (nI_1 _) (by decide) rfl (fun ls hl => ?_)
            refine lv_goto (tgt := 18) S.1 S.2.1 dX12_next_108 (by decide) ?_
            exact ih_18 (k2 + 1) be mo z13 z14 z15 z16 (by omega) (by omega) (by rw [nxF, ← hnx]; rw [if_neg (fun h => by rw [c_33] at h; exact Bool.false_ne_true h.1.symm)]) (hbe.imp_right (fun ⟨z, hz, e⟩ => ⟨z, by omega, e⟩)) _ _ _ I (lv_sub hl [1, 2, 3, 4, 0] rfl)
          · skip
            have c_33 := bI_f c_33
            refine lv_aload_n S.1 S.2.1 dX12_next_36 rfl (lv_at hl 0 rfl) ?_
            refine lv_iload_n S.1 S.2.1 dX12_next_37 rfl (lv_at hl 1 rfl) ?_
            refine lv_iconst (v := nI 1) S.1 S.2.1 dX12_next_38 (by decide) ?_
            refine lv_iload S.1 S.2.1 dX12_next_39 (lv_at hl 4 rfl) ?_
            refine lv_ishl S.1 S.2.1 dX12_next_41 ?_
            refine tI (y := nI (2 ^ k2)) (bitS (by omega)) ?_
            refine lv_ior S.1 S.2.1 dX12_next_42 ?_
            refine tI (y := nI (d ||| (2 ^ k2))) (fa_or _ _) ?_
            refine cV (np := 1) (ci := 12) (q0 := 0) (As := [.int (nI (d ||| (2 ^ k2)))]) (rest := []) S (c_isSound l D cy q N R (va_up (va_up (va_up (va_up X 13 z13) 14 z14) 15 z15) 16 z16) (d ||| (2 ^ k2)) hW (Nat.lt_trans (or256 (by omega) (by omega)) (by decide))) hK hA I wm_X12_162 wi_X12_isSound ws_X12_X12_isSound wn_X12 wk_X12_isSound ⟨rfl, hd_X12_isSound⟩ rfl ⟨by decide, by decide⟩ rfl rfl hl.1 rfl (Nat.le_of_ble_eq_true rfl) dX12_next_43 ⟨by decide, by decide⟩ (fun v_ u_ H locs h_ I => ?_)
            obtain rfl := h_
            generalize u_ = nw_43 at I
            have I : IX D A s.heap (wM cy q N R (va_up (va_up (va_up (va_up X 13 nw_43) 14 z14) 15 z15) 16 z16)) H locs := I
            refine W.eq (g2 := F0 m 46 ls [.int (bI (soB N R (d ||| (2 ^ k2))))]) rfl ?_
            refine lv_if_eq (tgt := 105) S.1 S.2.1 dX12_next_46 (by decide) (fun c_46 => ?_) (fun c_46 => ?_)
            · skip
              have c_46 := bI_f c_46
              refine lv_iinc (v := nI (k2 + 1)) (lv' := [(4, .int (nI (k2 + 1))), (0, .ref (q 33)), (1, .int (nI d)), (2, .int be), (3, .int mo)]) S.1 S.2.1 dX12_next_105 hl (k := 4) rfl (nI_1 _) (by decide) rfl (fun ls hl => ?_)
              refine lv_goto (tgt := 18) S.1 S.2.1 dX12_next_108 (by decide) ?_
              exact ih_18 (k2 + 1) be mo nw_43 z14 z15 z16 (by omega) (by omega) (by rw [nxF, ← hnx]; rw [if_neg (fun h => by rw [c_46] at h; exact Bool.false_ne_true h.2.1)]) (hbe.imp_right (fun ⟨z, hz, e⟩ => ⟨z, by omega, e⟩)) _ _ _ I (lv_sub hl [1, 2, 3, 4, 0] rfl)
            · skip
              have c_46 := bI_t c_46
              refine lv_aload_n S.1 S.2.1 dX12_next_49 rfl (lv_at hl 0 rfl) ?_
              refine lv_iload_n S.1 S.2.1 dX12_next_50 rfl (lv_at hl 1 rfl) ?_
              refine cV (np := 1) (ci := 12) (q0 := 0) (As := [.int (nI d)]) (rest := []) S (c_riskOf l D cy q N R (va_up (va_up (va_up (va_up X 13 nw_43) 14 z14) 15 z15) 16 z16) d hW (by omega)) hK hA I wm_X12_148 wi_X12_riskOf ws_X12_X12_riskOf wn_X12 wk_X12_riskOf ⟨rfl, hd_X12_riskOf⟩ rfl ⟨by decide, by decide⟩ rfl rfl hl.1 rfl (Nat.le_of_ble_eq_true rfl) dX12_next_51 ⟨by decide, by decide⟩ (fun v_ u_ H locs h_ I => ?_)
              obtain ⟨rfl, hv_51, hr_51⟩ := h_
              obtain ⟨a13_51, a14_51, a15_51, a16_51⟩ := u_
              have hr_51 : RowS N R (vtF R d (N 17)) (eS N R (vtF R d (N 17))) a14_51 a15_51 a16_51 := hr_51
              have I : IX D A s.heap (wM cy q N R (va_up (va_up (va_up (va_up X 13 a13_51) 14 a14_51) 15 a15_51) 16 a16_51)) H locs := I
              refine W.eq (g2 := F0 m 54 ls [.int (nI (rsk N R (vtF R d (N 17))))]) rfl ?_
              refine lv_aload_n S.1 S.2.1 dX12_next_54 rfl (lv_at hl 0 rfl) ?_
              refine lv_iload_n S.1 S.2.1 dX12_next_55 rfl (lv_at hl 1 rfl) ?_
              refine lv_iconst (v := nI 1) S.1 S.2.1 dX12_next_56 (by decide) ?_
              refine lv_iload S.1 S.2.1 dX12_next_57 (lv_at hl 4 rfl) ?_
              refine lv_ishl S.1 S.2.1 dX12_next_59 ?_
              refine tI (y := nI (2 ^ k2)) (bitS (by omega)) ?_
              refine lv_ior S.1 S.2.1 dX12_next_60 ?_
              refine tI (y := nI (d ||| (2 ^ k2))) (fa_or _ _) ?_
              refine cV (np := 1) (ci := 12) (q0 := 0) (As := [.int (nI (d ||| (2 ^ k2)))]) (rest := [.int (nI (rsk N R (vtF R d (N 17))))]) S (c_riskOf l D cy q N R (va_up (va_up (va_up (va_up X 13 a13_51) 14 a14_51) 15 a15_51) 16 a16_51) (d ||| (2 ^ k2)) hW (Nat.lt_trans (or256 (by omega) (by omega)) (by decide))) hK hA I wm_X12_148 wi_X12_riskOf ws_X12_X12_riskOf wn_X12 wk_X12_riskOf ⟨rfl, hd_X12_riskOf⟩ rfl ⟨by decide, by decide⟩ rfl rfl hl.1 rfl (Nat.le_of_ble_eq_true rfl) dX12_next_61 ⟨by decide, by decide⟩ (fun v_ u_ H locs h_ I => ?_)
              obtain ⟨rfl, hv_61, hr_61⟩ := h_
              obtain ⟨a13_61, a14_61, a15_61, a16_61⟩ := u_
              have hr_61 : RowS N R (vtF R (d ||| (2 ^ k2)) (N 17)) (eS N R (vtF R (d ||| (2 ^ k2)) (N 17))) a14_61 a15_61 a16_61 := hr_61
              have I : IX D A s.heap (wM cy q N R (va_up (va_up (va_up (va_up X 13 a13_61) 14 a14_61) 15 a15_61) 16 a16_61)) H locs := I
              refine W.eq (g2 := F0 m 64 ls [.int (nI (rsk N R (vtF R (d ||| (2 ^ k2)) (N 17)))), .int (nI (rsk N R (vtF R d (N 17))))]) rfl ?_
              refine lv_isub S.1 S.2.1 dX12_next_64 ?_
              refine tI (y := nxV N R d k2) rfl ?_
              refine lv_istore (lv' := [(5, .int (nxV N R d k2)), (0, .ref (q 33)), (1, .int (nI d)), (2, .int be), (3, .int mo), (4, .int (nI k2))]) S.1 S.2.1 dX12_next_65 hl (by decide) rfl (fun ls hl => ?_)
              refine lv_iload S.1 S.2.1 dX12_next_67 (lv_at hl 0 rfl) ?_
              refine lv_if_le (tgt := 105) S.1 S.2.1 dX12_next_69 (by decide) (fun c_69 => ?_) (fun c_69 => ?_)
              · skip
                refine lv_iinc (v := nI (k2 + 1)) (lv' := [(4, .int (nI (k2 + 1))), (5, .int (nxV N R d k2)), (0, .ref (q 33)), (1, .int (nI d)), (2, .int be), (3, .int mo)]) S.1 S.2.1 dX12_next_105 hl (k := 5) rfl (nI_1 _) (by decide) rfl (fun ls hl => ?_)
                refine lv_goto (tgt := 18) S.1 S.2.1 dX12_next_108 (by decide) ?_
                exact ih_18 (k2 + 1) be mo a13_61 a14_61 a15_61 a16_61 (by omega) (by omega) (by rw [nxF, ← hnx]; rw [if_neg (fun h => h.2.2.1 c_69)]) (hbe.imp_right (fun ⟨z, hz, e⟩ => ⟨z, by omega, e⟩)) _ _ _ I (lv_sub hl [2, 3, 4, 5, 0] rfl)
              · skip
                refine lv_iload_n S.1 S.2.1 dX12_next_72 rfl (lv_at hl 3 rfl) ?_
                refine lv_bipush (v := (-4)) S.1 S.2.1 dX12_next_73 (by decide) ?_
                refine lv_icmp_eq (tgt := 99) S.1 S.2.1 dX12_next_75 (by decide) (fun c_75 => ?_) (fun c_75 => ?_)
                · skip
                  refine lv_iload S.1 S.2.1 dX12_next_99 (lv_at hl 5 rfl) ?_
                  refine lv_istore_n (lv' := [(2, .int (nI k2)), (5, .int (nxV N R d k2)), (0, .ref (q 33)), (1, .int (nI d)), (3, .int mo), (4, .int (nI k2))]) S.1 S.2.1 dX12_next_101 rfl hl (by decide) rfl (fun ls hl => ?_)
                  refine lv_iload S.1 S.2.1 dX12_next_102 (lv_at hl 1 rfl) ?_
                  refine lv_istore_n (lv' := [(3, .int (nxV N R d k2)), (2, .int (nI k2)), (5, .int (nxV N R d k2)), (0, .ref (q 33)), (1, .int (nI d)), (4, .int (nI k2))]) S.1 S.2.1 dX12_next_104 rfl hl (by decide) rfl (fun ls hl => ?_)
                  refine lv_iinc (v := nI (k2 + 1)) (lv' := [(4, .int (nI (k2 + 1))), (3, .int (nxV N R d k2)), (2, .int (nI k2)), (5, .int (nxV N R d k2)), (0, .ref (q 33)), (1, .int (nI d))]) S.1 S.2.1 dX12_next_105 hl (k := 5) rfl (nI_1 _) (by decide) rfl (fun ls hl => ?_)
                  refine lv_goto (tgt := 18) S.1 S.2.1 dX12_next_108 (by decide) ?_
                  exact ih_18 (k2 + 1) (nI k2) (nxV N R d k2) a13_61 a14_61 a15_61 a16_61 (by omega) (by omega) (by rw [nxF, ← hnx]; rw [if_pos ⟨c_33, c_46, c_69, Or.inl c_75⟩]) (Or.inr ⟨k2, by omega, rfl⟩) _ _ _ I (lv_sub hl [4, 5, 2, 1, 0] rfl)
                · skip
                  obtain ⟨kb, h_kb, rfl⟩ := hbe.resolve_left c_75
                  have e_kb : (nI kb).toNatClampNeg = kb := nI_clamp (by omega)
                  refine lv_iload S.1 S.2.1 dX12_next_78 (lv_at hl 0 rfl) ?_
                  refine lv_aload_n S.1 S.2.1 dX12_next_80 rfl (lv_at hl 1 rfl) ?_
                  refine rg (ci := 12) (q0 := 0) (v := .ref (q 20)) 20 S hK I cl_X12 rfl wf_X12_62 (by decide) rfl rfl rfl dX12_next_81 ?_
                  refine lv_iload_n S.1 S.2.1 dX12_next_84 rfl (lv_at hl 3 rfl) ?_
                  refine ri (q0 := 18) (n := 8) (f := R 20) kb S hK I rfl rfl (by omega) (by decide) dX12_next_85 ?_
                  refine lv_imul S.1 S.2.1 dX12_next_86 ?_
                  refine lv_iload_n S.1 S.2.1 dX12_next_87 rfl (lv_at hl 4 rfl) ?_
                  refine lv_aload_n S.1 S.2.1 dX12_next_88 rfl (lv_at hl 1 rfl) ?_
                  refine rg (ci := 12) (q0 := 0) (v := .ref (q 20)) 20 S hK I cl_X12 rfl wf_X12_62 (by decide) rfl rfl rfl dX12_next_89 ?_
                  refine lv_iload S.1 S.2.1 dX12_next_92 (lv_at hl 5 rfl) ?_
                  refine ri (q0 := 18) (n := 8) (f := R 20) k2 S hK I rfl rfl (by omega) (by decide) dX12_next_94 ?_
                  refine lv_imul S.1 S.2.1 dX12_next_95 ?_
                  refine lv_icmp_le (tgt := 105) S.1 S.2.1 dX12_next_96 (by decide) (fun c_96 => ?_) (fun c_96 => ?_)
                  · skip
                    refine lv_iinc (v := nI (k2 + 1)) (lv' := [(4, .int (nI (k2 + 1))), (5, .int (nxV N R d k2)), (0, .ref (q 33)), (1, .int (nI d)), (2, .int (nI kb)), (3, .int mo)]) S.1 S.2.1 dX12_next_105 hl (k := 5) rfl (nI_1 _) (by decide) rfl (fun ls hl => ?_)
                    refine lv_goto (tgt := 18) S.1 S.2.1 dX12_next_108 (by decide) ?_
                    exact ih_18 (k2 + 1) (nI kb) mo a13_61 a14_61 a15_61 a16_61 (by omega) (by omega) (by rw [nxF, ← hnx]; rw [if_neg (fun h => h.2.2.2.elim (fun h1 => c_75 h1) (fun h1 => h1 (by show _ * R 20 (nI kb).toNatClampNeg ≤ mo * R 20 k2; rw [e_kb]; exact c_96)))]) (Or.inr ⟨kb, by omega, rfl⟩) _ _ _ I (lv_sub hl [2, 3, 4, 5, 0] rfl)
                  · skip
                    refine lv_iload S.1 S.2.1 dX12_next_99 (lv_at hl 5 rfl) ?_
                    refine lv_istore_n (lv' := [(2, .int (nI k2)), (5, .int (nxV N R d k2)), (0, .ref (q 33)), (1, .int (nI d)), (3, .int mo), (4, .int (nI k2))]) S.1 S.2.1 dX12_next_101 rfl hl (by decide) rfl (fun ls hl => ?_)
                    refine lv_iload S.1 S.2.1 dX12_next_102 (lv_at hl 1 rfl) ?_
                    refine lv_istore_n (lv' := [(3, .int (nxV N R d k2)), (2, .int (nI k2)), (5, .int (nxV N R d k2)), (0, .ref (q 33)), (1, .int (nI d)), (4, .int (nI k2))]) S.1 S.2.1 dX12_next_104 rfl hl (by decide) rfl (fun ls hl => ?_)
                    refine lv_iinc (v := nI (k2 + 1)) (lv' := [(4, .int (nI (k2 + 1))), (3, .int (nxV N R d k2)), (2, .int (nI k2)), (5, .int (nxV N R d k2)), (0, .ref (q 33)), (1, .int (nI d))]) S.1 S.2.1 dX12_next_105 hl (k := 5) rfl (nI_1 _) (by decide) rfl (fun ls hl => ?_)
                    refine lv_goto (tgt := 18) S.1 S.2.1 dX12_next_108 (by decide) ?_
                    exact ih_18 (k2 + 1) (nI k2) (nxV N R d k2) a13_61 a14_61 a15_61 a16_61 (by omega) (by omega) (by rw [nxF, ← hnx]; rw [if_pos ⟨c_33, c_46, c_69, Or.inr (by rw [e_kb]; exact c_96)⟩]) (Or.inr ⟨k2, by omega, rfl⟩) _ _ _ I (lv_sub hl [4, 5, 2, 1, 0] rfl)
    exact loop_18 _ 0 (-4) (nI 0) (X 13) (X 14) (X 15) (X 16) (Nat.lt_succ_self _) (Nat.zero_le _) rfl (Or.inl rfl) _ _ _ I (lv_sub hl [3, 4, 2, 1, 0] rfl)
  · skip
    have c_5 := bI_f c_5
    refine lv_iconst (v := (-1)) S.1 S.2.1 dX12_next_8 (by decide) ?_
    exact ru_i hQ S hr hlk (u := X) I (by simp [sp_next, c_5, bI]) dX12_next_9
