theorem wk_eq {N : Nat → Nat} {R : Nat → Nat → Int32} {j : Nat} {v : Int32} (hP : isP (N 17) (nI j) = true) (e : (nI j).toNatClampNeg = j) (hv : v = R 31 j) (h : N 30 = 0 → R 31 j = -4) : v = sp_week N R (nI j) := by
  rw [sp_week, if_pos hP, e, hv]
  by_cases e9 : N 30 = 0
  · rw [if_pos e9, h e9]
  · rw [if_neg e9]
theorem wy_0 {N : Nat → Nat} {s : Nat → Nat} {u j : Nat} (h : ∀ z, z < 8 → u.testBit z = (decide (z < N 0) && tkN s z)) (h8 : j < 8) (hj : j < N 0) (hc : u.testBit j = false) : s j = 0 := by
  rw [h j h8, decide_eq_true hj, Bool.true_and] at hc
  have := of_decide_eq_false hc
  omega
theorem wy_1 {N : Nat → Nat} {s : Nat → Nat} {u j : Nat} (h : ∀ z, z < 8 → u.testBit z = (decide (z < N 0) && tkN s z)) (h8 : j < 8) (hj : j < N 0) (hc : u.testBit j = true) : 0 < s j := by
  rw [h j h8, decide_eq_true hj, Bool.true_and] at hc
  exact of_decide_eq_true hc
theorem bg_G {R : Nat → Nat → Int32} {k3 pa : Nat} (h : ∀ p, p < 8 → k3.testBit p = decide (¬ R 4 p = 0)) : ∀ p, p < 8 → (k3 ||| 2 ^ pa).testBit p = decide (¬ gR R pa 4 p = 0) := by
  intro p hp
  show _ = decide (¬ upd (R 4) pa (nI 1) p = 0)
  rw [Nat.testBit_or, h p hp, Nat.testBit_two_pow]
  by_cases e : p = pa
  · rw [e, pk_us, decide_eq_true rfl, Bool.or_true]; rfl
  · rw [pk_un e, show decide (pa = p) = false from decide_eq_false (fun z => e z.symm), Bool.or_false]
set_option maxHeartbeats 4000000 in
set_option maxRecDepth 100000 in
theorem x_week (l : Launch) (D : va_G) (cy : Nat → ClassId) (q : Nat → Nat) (K : Nat → Nat) (C : Nat → Nat → Int32) (O : Nat → Nat → Option Nat) (L : List Nat) (f : Nat → va_E) (N : Nat → Nat) (R : Nat → Nat → Int32) (x : Int32) (hW : WFm N R) (hrc : RelC K C O L f N R) : MS (α := (Nat → Nat) × (Nat → Nat → Int32) × (Nat → Nat → Option Nat) × List Nat × (Nat → va_E)) l D cy yX11_week cX11_week 2 (Option.some FieldType.int) rm_X11_week [.ref (q 0), .int x] (wX cy q K C O L f) (fun v_ u_ => v_ = some (.int (sp_week N R x)) ∧ RelC u_.1 u_.2.1 u_.2.2.1 u_.2.2.2.1 u_.2.2.2.2 N R) (fun u_ => wX cy q u_.1 u_.2.1 u_.2.2.1 u_.2.2.2.1 u_.2.2.2.2) := by
  refine MS.mk2 (by decide) (Nat.le_of_ble_eq_true rfl) [(0, .ref (q 0)), (1, .int x)] rfl ?_
  intro p e s m args below meth c A ls Q hQ S hr hlk hnm hK hA I hl
  have hW0 := hW
  obtain ⟨hB, hPt, hBo, hH, hM, hQu⟩ := hW0
  have hB0 := hB
  obtain ⟨b0, b6, b17, b24, b30⟩ := hB0
  have hrc0 := hrc
  obtain ⟨hrel, hrg, hrm, hrp, hinj⟩ := hrc0
  have hrel0 := hrel
  obtain ⟨k0, k1, hC6, hK2, hC7, hHol⟩ := hrel0
  have hrm0 := hrm
  obtain ⟨k7, k8, hMe, hQe⟩ := hrm0
  have hrg0 := hrg
  obtain ⟨hC5, hG, hG3, hG2⟩ := hrg0
  have hp2 := pow_256 b17
  obtain ⟨k9, hC20, hK10, hC31⟩ := hrp
  have hgC : ∀ p, p < N 0 → C 5 p = R 1 p := fun p hp => hC5 p (by omega)
  refine lv_aload_n S.1 S.2.1 dX11_week_0 rfl (lv_at hl 0 rfl) ?_
  refine rg (ci := 11) (q0 := 0) (v := .ref (q 3)) 2 S hK I cl_X11 rfl wf_X11_30 (by decide) rfl rfl rfl dX11_week_1 ?_
  refine lv_iload_n S.1 S.2.1 dX11_week_4 rfl (lv_at hl 1 rfl) ?_
  refine cV (np := 1) (ci := 4) (q0 := 3) (As := [.int x]) (rest := []) S (x_mendAt l D cy q K C O L f x (by omega)) hK hA I wm_X11_154 wi_X4_mendAt ws_X4_X4_mendAt wn_X4 wk_X4_mendAt ⟨rfl, hd_X4_mendAt⟩ rfl ⟨by decide, by decide⟩ rfl rfl hl.1 rfl (Nat.le_of_ble_eq_true rfl) dX11_week_5 ⟨by decide, by decide⟩ (fun v_ u_ H locs h_ I => ?_)
  obtain rfl := h_
  have I : IX D A s.heap (wX cy q K C O L f) H locs := I
  refine W.eq (g2 := F0 m 8 ls (va_rf (if isP (K 7) x = true then O 12 (x).toNatClampNeg else none) :: [])) rfl ?_
  by_cases hP : isP (N 17) x = true
  · skip
    obtain ⟨j, h_j, rfl⟩ := isP_of hP (by omega)
    have e_j : (nI j).toNatClampNeg = j := nI_clamp (by omega)
    obtain ⟨a, ho12, ha, hf⟩ := hMe j h_j
    refine tV (y := .ref a) (mat_some rfl (by omega) (by omega) ho12) ?_
    refine lv_ifnonnull (tgt := 13) S.1 S.2.1 dX11_week_8 (by decide) ?_
    refine lv_aload_n S.1 S.2.1 dX11_week_13 rfl (lv_at hl 0 rfl) ?_
    refine rg (ci := 11) (q0 := 0) (v := .ref (q 4)) 3 S hK I cl_X11 rfl wf_X11_39 (by decide) rfl rfl rfl dX11_week_14 ?_
    refine rg (ci := 6) (q0 := 4) (v := .ref (q 20)) 6 S hK I cl_X6 rfl wf_X11_206 (by decide) rfl rfl rfl dX11_week_17 ?_
    refine lv_iload_n S.1 S.2.1 dX11_week_20 rfl (lv_at hl 1 rfl) ?_
    refine ri (q0 := 20) (n := 8) (f := C 20) j S hK I rfl rfl (by omega) (by decide) dX11_week_21 ?_
    exact ru_i hQ S hr hlk (u := (K, C, O, L, f)) I (⟨(congrArg (fun z => some (Value.int z)) (wk_eq hP e_j (hC20 j (by omega)) (fun h9 => hC31 h9 j (by omega)))), hrc⟩) dX11_week_22
  · skip
    have hPf := ts_nt hP
    refine tV (y := .null) (mat_none (by rw [k7]; exact hPf)) ?_
    refine lv_ifnonnullN S.1 S.2.1 dX11_week_8 ?_
    refine lv_iconst (v := (-1)) S.1 S.2.1 dX11_week_11 (by decide) ?_
    exact ru_i hQ S hr hlk (u := (K, C, O, L, f)) I (⟨(congrArg (fun z => some (Value.int z)) (by simp [sp_week, hPf])), hrc⟩) dX11_week_12
set_option maxHeartbeats 4000000 in
set_option maxRecDepth 100000 in
theorem x_moved (l : Launch) (D : va_G) (cy : Nat → ClassId) (q : Nat → Nat) (K : Nat → Nat) (C : Nat → Nat → Int32) (O : Nat → Nat → Option Nat) (L : List Nat) (f : Nat → va_E) (N : Nat → Nat) (R : Nat → Nat → Int32) (hW : WFm N R) (hrc : RelC K C O L f N R) : MS (α := (Nat → Nat) × (Nat → Nat → Int32) × (Nat → Nat → Option Nat) × List Nat × (Nat → va_E)) l D cy yX11_moved cX11_moved 1 (Option.some FieldType.int) rm_X11_moved [.ref (q 0)] (wX cy q K C O L f) (fun v_ u_ => v_ = some (.int (sp_moved N R)) ∧ RelC u_.1 u_.2.1 u_.2.2.1 u_.2.2.2.1 u_.2.2.2.2 N R) (fun u_ => wX cy q u_.1 u_.2.1 u_.2.2.1 u_.2.2.2.1 u_.2.2.2.2) := by
  refine MS.mk2 (by decide) (Nat.le_of_ble_eq_true rfl) [(0, .ref (q 0))] rfl ?_
  intro p e s m args below meth c A ls Q hQ S hr hlk hnm hK hA I hl
  have hW0 := hW
  obtain ⟨hB, hPt, hBo, hH, hM, hQu⟩ := hW0
  have hB0 := hB
  obtain ⟨b0, b6, b17, b24, b30⟩ := hB0
  have hrc0 := hrc
  obtain ⟨hrel, hrg, hrm, hrp, hinj⟩ := hrc0
  have hrel0 := hrel
  obtain ⟨k0, k1, hC6, hK2, hC7, hHol⟩ := hrel0
  have hrm0 := hrm
  obtain ⟨k7, k8, hMe, hQe⟩ := hrm0
  have hrg0 := hrg
  obtain ⟨hC5, hG, hG3, hG2⟩ := hrg0
  have hp2 := pow_256 b17
  obtain ⟨k9, hC20, hK10, hC31⟩ := hrp
  have hgC : ∀ p, p < N 0 → C 5 p = R 1 p := fun p hp => hC5 p (by omega)
  refine lv_aload_n S.1 S.2.1 dX11_moved_0 rfl (lv_at hl 0 rfl) ?_
  refine rg (ci := 11) (q0 := 0) (v := .ref (q 4)) 3 S hK I cl_X11 rfl wf_X11_39 (by decide) rfl rfl rfl dX11_moved_1 ?_
  refine rg (ci := 6) (q0 := 4) (v := .int (nI (K 9))) 7 S hK I cl_X6 rfl wf_X11_209 (by decide) rfl rfl rfl dX11_moved_4 ?_
  refine lv_iconst (v := nI 2) S.1 S.2.1 dX11_moved_7 (by decide) ?_
  refine lv_icmp_ge (tgt := 16) S.1 S.2.1 dX11_moved_8 (by decide) (fun c_8 => ?_) (fun c_8 => ?_)
  · skip
    have c_8o := c_8
    have c_8 := nI_cgeT (by omega) (by omega) c_8
    refine lv_aload_n S.1 S.2.1 dX11_moved_16 rfl (lv_at hl 0 rfl) ?_
    refine rg (ci := 11) (q0 := 0) (v := .ref (q 4)) 3 S hK I cl_X11 rfl wf_X11_39 (by decide) rfl rfl rfl dX11_moved_17 ?_
    refine rg (ci := 6) (q0 := 4) (v := .int (nI (K 10))) 8 S hK I cl_X6 rfl wf_X11_212 (by decide) rfl rfl rfl dX11_moved_20 ?_
    exact ru_i hQ S hr hlk (u := (K, C, O, L, f)) I (⟨(congrArg (fun z => some (Value.int z)) (by rw [sp_moved, if_neg (by omega), hK10 (by omega)])), hrc⟩) dX11_moved_23
  · skip
    have c_8o := c_8
    have c_8 := nI_cgeF (by omega) (by omega) c_8
    refine lv_bipush (v := (-4)) S.1 S.2.1 dX11_moved_11 (by decide) ?_
    refine lv_goto (tgt := 23) S.1 S.2.1 dX11_moved_13 (by decide) ?_
    exact ru_i hQ S hr hlk (u := (K, C, O, L, f)) I (⟨(congrArg (fun z => some (Value.int z)) (by rw [sp_moved, if_pos (by omega)])), hrc⟩) dX11_moved_23
set_option maxHeartbeats 4000000 in
set_option maxRecDepth 100000 in
theorem x_gain (l : Launch) (D : va_G) (cy : Nat → ClassId) (q : Nat → Nat) (K : Nat → Nat) (C : Nat → Nat → Int32) (O : Nat → Nat → Option Nat) (L : List Nat) (f : Nat → va_E) (N : Nat → Nat) (R : Nat → Nat → Int32) (x y : Int32) (hW : WFm N R) (hrc : RelC K C O L f N R) : MS (α := (Nat → Nat) × (Nat → Nat → Int32) × (Nat → Nat → Option Nat) × List Nat × (Nat → va_E)) l D cy yX11_gain cX11_gain 3 (Option.some FieldType.int) rm_X11_gain [.ref (q 0), .int x, .int y] (wX cy q K C O L f) (fun v_ u_ => v_ = some (.int (sp_gain N R x y)) ∧ RelC u_.1 u_.2.1 u_.2.2.1 u_.2.2.2.1 u_.2.2.2.2 N R) (fun u_ => wX cy q u_.1 u_.2.1 u_.2.2.1 u_.2.2.2.1 u_.2.2.2.2) := by
  refine MS.mk2 (by decide) (Nat.le_of_ble_eq_true rfl) [(0, .ref (q 0)), (1, .int x), (2, .int y)] rfl ?_
  intro p e s m args below meth c A ls Q hQ S hr hlk hnm hK hA I hl
  have hW0 := hW
  obtain ⟨hB, hPt, hBo, hH, hM, hQu⟩ := hW0
  have hB0 := hB
  obtain ⟨b0, b6, b17, b24, b30⟩ := hB0
  have hrc0 := hrc
  obtain ⟨hrel, hrg, hrm, hrp, hinj⟩ := hrc0
  have hrel0 := hrel
  obtain ⟨k0, k1, hC6, hK2, hC7, hHol⟩ := hrel0
  have hrm0 := hrm
  obtain ⟨k7, k8, hMe, hQe⟩ := hrm0
  have hrg0 := hrg
  obtain ⟨hC5, hG, hG3, hG2⟩ := hrg0
  have hp2 := pow_256 b17
  obtain ⟨k9, hC20, hK10, hC31⟩ := hrp
  have hgC : ∀ p, p < N 0 → C 5 p = R 1 p := fun p hp => hC5 p (by omega)
  refine lv_aload_n S.1 S.2.1 dX11_gain_0 rfl (lv_at hl 0 rfl) ?_
  refine rg (ci := 11) (q0 := 0) (v := .ref (q 3)) 2 S hK I cl_X11 rfl wf_X11_30 (by decide) rfl rfl rfl dX11_gain_1 ?_
  refine lv_iload_n S.1 S.2.1 dX11_gain_4 rfl (lv_at hl 1 rfl) ?_
  refine cV (np := 1) (ci := 4) (q0 := 3) (As := [.int x]) (rest := []) S (x_mendAt l D cy q K C O L f x (by omega)) hK hA I wm_X11_154 wi_X4_mendAt ws_X4_X4_mendAt wn_X4 wk_X4_mendAt ⟨rfl, hd_X4_mendAt⟩ rfl ⟨by decide, by decide⟩ rfl rfl hl.1 rfl (Nat.le_of_ble_eq_true rfl) dX11_gain_5 ⟨by decide, by decide⟩ (fun v_ u_ H locs h_ I => ?_)
  obtain rfl := h_
  have I : IX D A s.heap (wX cy q K C O L f) H locs := I
  refine W.eq (g2 := F0 m 8 ls (va_rf (if isP (K 7) x = true then O 12 (x).toNatClampNeg else none) :: [])) rfl ?_
  by_cases hP : isP (N 17) x = true
  · skip
    obtain ⟨j, h_j, rfl⟩ := isP_of hP (by omega)
    have e_j : (nI j).toNatClampNeg = j := nI_clamp (by omega)
    obtain ⟨a, ho12, ha, hf⟩ := hMe j h_j
    refine tV (y := .ref a) (mat_some rfl (by omega) (by omega) ho12) ?_
    refine lv_ifnull S.1 S.2.1 dX11_gain_8 ?_
    refine lv_aload_n S.1 S.2.1 dX11_gain_11 rfl (lv_at hl 0 rfl) ?_
    refine rg (ci := 11) (q0 := 0) (v := .ref (q 3)) 2 S hK I cl_X11 rfl wf_X11_30 (by decide) rfl rfl rfl dX11_gain_12 ?_
    refine lv_iload_n S.1 S.2.1 dX11_gain_15 rfl (lv_at hl 2 rfl) ?_
    refine cV (np := 1) (ci := 4) (q0 := 3) (As := [.int y]) (rest := []) S (x_isSet l D cy q K C O L f y (by omega)) hK hA I wm_X11_176 wi_X4_isSet ws_X4_X4_isSet wn_X4 wk_X4_isSet ⟨rfl, hd_X4_isSet⟩ rfl ⟨by decide, by decide⟩ rfl rfl hl.1 rfl (Nat.le_of_ble_eq_true rfl) dX11_gain_16 ⟨by decide, by decide⟩ (fun v_ u_ H locs h_ I => ?_)
    obtain rfl := h_
    have I : IX D A s.heap (wX cy q K C O L f) H locs := I
    refine W.eq (g2 := F0 m 19 ls [.int (bI (isP (2 ^ (K 7)) y))]) rfl ?_
    refine lv_if_eq (tgt := 30) S.1 S.2.1 dX11_gain_19 (by decide) (fun c_19 => ?_) (fun c_19 => ?_)
    · skip
      have c_19 := bI_f c_19
      rw [k7] at c_19
      refine lv_ldc (v := -100001) S.1 S.2.1 S.2.2.2.1 (S.2.2.2.2 _ (List.mem_cons_of_mem _ wx_580)) dX11_gain_30 ?_
      exact ru_i hQ S hr hlk (u := (K, C, O, L, f)) I (⟨(congrArg (fun z => some (Value.int z)) (by simp [sp_gain, hP, e_j, c_19])), hrc⟩) dX11_gain_32
    · skip
      have c_19 := bI_t c_19
      rw [k7] at c_19
      obtain ⟨d, h_d, rfl⟩ := isP_of c_19 (Nat.lt_of_le_of_lt (pow_256 b17) (by decide))
      have e_d : (nI d).toNatClampNeg = d := nI_clamp (by omega)
      refine lv_iload_n S.1 S.2.1 dX11_gain_22 rfl (lv_at hl 2 rfl) ?_
      refine lv_iload_n S.1 S.2.1 dX11_gain_23 rfl (lv_at hl 1 rfl) ?_
      refine cS (np := 2) (As := [.int (nI d), .int (nI j)]) (rest := []) S (x_isIn l D cy (wX cy q K C O L f) d j (by omega)) hK hA I wm_X11_65 wt_X11_isIn wn_X11 wk_X11_isIn ⟨rfl, hd_X11_isIn⟩ rfl ⟨by decide, by decide⟩ hl.1 rfl (Nat.le_of_ble_eq_true rfl) dX11_gain_24 ⟨by decide, by decide⟩ (fun v_ u_ H locs h_ I => ?_)
      obtain rfl := h_
      have I : IX D A s.heap (wX cy q K C O L f) H locs := I
      refine W.eq (g2 := F0 m 27 ls [.int (bI (d.testBit j))]) rfl ?_
      refine lv_if_eq (tgt := 33) S.1 S.2.1 dX11_gain_27 (by decide) (fun c_27 => ?_) (fun c_27 => ?_)
      · skip
        have c_27 := bI_f c_27
        refine lv_aload_n S.1 S.2.1 dX11_gain_33 rfl (lv_at hl 0 rfl) ?_
        refine rg (ci := 11) (q0 := 0) (v := .ref (q 3)) 2 S hK I cl_X11 rfl wf_X11_30 (by decide) rfl rfl rfl dX11_gain_34 ?_
        refine lv_iload_n S.1 S.2.1 dX11_gain_37 rfl (lv_at hl 2 rfl) ?_
        refine cV (np := 1) (ci := 4) (q0 := 3) (As := [.int (nI d)]) (rest := []) S (x_riskAfter l D cy q K C O L f N R d hW hrel hrm hrg) hK hA I wm_X11_179 wi_X4_riskAfter ws_X4_X4_riskAfter wn_X4 wk_X4_riskAfter ⟨rfl, hd_X4_riskAfter⟩ rfl ⟨by decide, by decide⟩ rfl rfl hl.1 rfl (Nat.le_of_ble_eq_true rfl) dX11_gain_38 ⟨by decide, by decide⟩ (fun v_ u_ H locs h_ I => ?_)
        obtain rfl := h_
        obtain ⟨v4_38, v5_38, v6_38, v9_38, v10_38, v11_38, v14_38⟩ := u_
        have I : IX D A s.heap (wX cy q (va_up (va_up (va_up K 4 v4_38) 5 v5_38) 6 v6_38) (va_up (va_up (va_up (va_up C 9 v9_38) 10 v10_38) 11 v11_38) 14 v14_38) O L f) H locs := I
        refine W.eq (g2 := F0 m 41 ls [.int (nI (rsk N R (vtF R d (N 17))))]) rfl ?_
        refine lv_aload_n S.1 S.2.1 dX11_gain_41 rfl (lv_at hl 0 rfl) ?_
        refine rg (ci := 11) (q0 := 0) (v := .ref (q 3)) 2 S hK I cl_X11 rfl wf_X11_30 (by decide) rfl rfl rfl dX11_gain_42 ?_
        refine lv_iload_n S.1 S.2.1 dX11_gain_45 rfl (lv_at hl 2 rfl) ?_
        refine lv_iload_n S.1 S.2.1 dX11_gain_46 rfl (lv_at hl 1 rfl) ?_
        refine cS (np := 1) (As := [.int (nI j)]) (rest := [.int (nI d), .ref (q 3), .int (nI (rsk N R (vtF R d (N 17))))]) S (x_bit l D cy (wX cy q (va_up (va_up (va_up K 4 v4_38) 5 v5_38) 6 v6_38) (va_up (va_up (va_up (va_up C 9 v9_38) 10 v10_38) 11 v11_38) 14 v14_38) O L f) j (by omega)) hK hA I wm_X11_146 wt_X11_bit wn_X11 wk_X11_bit ⟨rfl, hd_X11_bit⟩ rfl ⟨by decide, by decide⟩ hl.1 rfl (Nat.le_of_ble_eq_true rfl) dX11_gain_47 ⟨by decide, by decide⟩ (fun v_ u_ H locs h_ I => ?_)
        obtain rfl := h_
        have I : IX D A s.heap (wX cy q (va_up (va_up (va_up K 4 v4_38) 5 v5_38) 6 v6_38) (va_up (va_up (va_up (va_up C 9 v9_38) 10 v10_38) 11 v11_38) 14 v14_38) O L f) H locs := I
        refine W.eq (g2 := F0 m 50 ls [.int (nI (2 ^ j)), .int (nI d), .ref (q 3), .int (nI (rsk N R (vtF R d (N 17))))]) rfl ?_
        refine lv_ior S.1 S.2.1 dX11_gain_50 ?_
        refine tI (y := nI (d ||| (2 ^ j))) (fa_or _ _) ?_
        refine cV (np := 1) (ci := 4) (q0 := 3) (As := [.int (nI (d ||| (2 ^ j)))]) (rest := [.int (nI (rsk N R (vtF R d (N 17))))]) S (x_riskAfter l D cy q (va_up (va_up (va_up K 4 v4_38) 5 v5_38) 6 v6_38) (va_up (va_up (va_up (va_up C 9 v9_38) 10 v10_38) 11 v11_38) 14 v14_38) O L f N R (d ||| (2 ^ j)) hW hrel hrm hrg) hK hA I wm_X11_179 wi_X4_riskAfter ws_X4_X4_riskAfter wn_X4 wk_X4_riskAfter ⟨rfl, hd_X4_riskAfter⟩ rfl ⟨by decide, by decide⟩ rfl rfl hl.1 rfl (Nat.le_of_ble_eq_true rfl) dX11_gain_51 ⟨by decide, by decide⟩ (fun v_ u_ H locs h_ I => ?_)
        obtain rfl := h_
        obtain ⟨v4_51, v5_51, v6_51, v9_51, v10_51, v11_51, v14_51⟩ := u_
        have I : IX D A s.heap (wX cy q (va_up (va_up (va_up K 4 v4_51) 5 v5_51) 6 v6_51) (va_up (va_up (va_up (va_up C 9 v9_51) 10 v10_51) 11 v11_51) 14 v14_51) O L f) H locs := I
        refine W.eq (g2 := F0 m 54 ls [.int (nI (rsk N R (vtF R (d ||| (2 ^ j)) (N 17)))), .int (nI (rsk N R (vtF R d (N 17))))]) rfl ?_
        refine lv_isub S.1 S.2.1 dX11_gain_54 ?_
        exact ru_i hQ S hr hlk (u := ((va_up (va_up (va_up K 4 v4_51) 5 v5_51) 6 v6_51), (va_up (va_up (va_up (va_up C 9 v9_51) 10 v10_51) 11 v11_51) 14 v14_51), O, L, f)) I (⟨(congrArg (fun z => some (Value.int z)) (by simp [sp_gain, hP, c_19, e_j, e_d, c_27])), hrc⟩) dX11_gain_55
      · skip
        have c_27 := bI_t c_27
        refine lv_ldc (v := -100001) S.1 S.2.1 S.2.2.2.1 (S.2.2.2.2 _ (List.mem_cons_of_mem _ wx_580)) dX11_gain_30 ?_
        exact ru_i hQ S hr hlk (u := (K, C, O, L, f)) I (⟨(congrArg (fun z => some (Value.int z)) (by simp [sp_gain, hP, e_j, c_19, e_d, c_27])), hrc⟩) dX11_gain_32
  · skip
    have hPf := ts_nt hP
    refine tV (y := .null) (mat_none (by rw [k7]; exact hPf)) ?_
    refine lv_ifnullN (tgt := 30) S.1 S.2.1 dX11_gain_8 (by decide) ?_
    refine lv_ldc (v := -100001) S.1 S.2.1 S.2.2.2.1 (S.2.2.2.2 _ (List.mem_cons_of_mem _ wx_580)) dX11_gain_30 ?_
    exact ru_i hQ S hr hlk (u := (K, C, O, L, f)) I (⟨(congrArg (fun z => some (Value.int z)) (by simp [sp_gain, hPf])), hrc⟩) dX11_gain_32
set_option maxHeartbeats 4000000 in
set_option maxRecDepth 100000 in
theorem x_way (l : Launch) (D : va_G) (cy : Nat → ClassId) (q : Nat → Nat) (K : Nat → Nat) (C : Nat → Nat → Int32) (O : Nat → Nat → Option Nat) (L : List Nat) (f : Nat → va_E) (N : Nat → Nat) (R : Nat → Nat → Int32) (x w : Int32) (hW : WFm N R) (hrc : RelC K C O L f N R) : MS (α := (Nat → Nat) × (Nat → Nat → Int32) × (Nat → Nat → Option Nat) × List Nat × (Nat → va_E)) l D cy yX11_way cX11_way 3 (Option.some FieldType.int) rm_X11_way [.ref (q 0), .int x, .int w] (wX cy q K C O L f) (fun v_ u_ => v_ = some (.int (sp_way N R x w)) ∧ RelC u_.1 u_.2.1 u_.2.2.1 u_.2.2.2.1 u_.2.2.2.2 N R) (fun u_ => wX cy q u_.1 u_.2.1 u_.2.2.1 u_.2.2.2.1 u_.2.2.2.2) := by
  refine MS.mk2 (by decide) (Nat.le_of_ble_eq_true rfl) [(0, .ref (q 0)), (1, .int x), (2, .int w)] rfl ?_
  intro p e s m args below meth c A ls Q hQ S hr hlk hnm hK hA I hl
  have hW0 := hW
  obtain ⟨hB, hPt, hBo, hH, hM, hQu⟩ := hW0
  have hB0 := hB
  obtain ⟨b0, b6, b17, b24, b30⟩ := hB0
  have hrc0 := hrc
  obtain ⟨hrel, hrg, hrm, hrp, hinj⟩ := hrc0
  have hrel0 := hrel
  obtain ⟨k0, k1, hC6, hK2, hC7, hHol⟩ := hrel0
  have hrm0 := hrm
  obtain ⟨k7, k8, hMe, hQe⟩ := hrm0
  have hrg0 := hrg
  obtain ⟨hC5, hG, hG3, hG2⟩ := hrg0
  have hp2 := pow_256 b17
  obtain ⟨k9, hC20, hK10, hC31⟩ := hrp
  have hgC : ∀ p, p < N 0 → C 5 p = R 1 p := fun p hp => hC5 p (by omega)
  refine lv_aload_n S.1 S.2.1 dX11_way_0 rfl (lv_at hl 0 rfl) ?_
  refine rg (ci := 11) (q0 := 0) (v := .ref (q 1)) 0 S hK I cl_X11 rfl wf_X11_12 (by decide) rfl rfl rfl dX11_way_1 ?_
  refine lv_iload_n S.1 S.2.1 dX11_way_4 rfl (lv_at hl 1 rfl) ?_
  refine cV (np := 1) (ci := 5) (q0 := 1) (As := [.int x]) (rest := []) S (x_hasPart l D cy q K C O L f x (by omega)) hK hA I wm_X11_55 wi_X5_hasPart ws_X5_X5_hasPart wn_X5 wk_X5_hasPart ⟨rfl, hd_X5_hasPart⟩ rfl ⟨by decide, by decide⟩ rfl rfl hl.1 rfl (Nat.le_of_ble_eq_true rfl) dX11_way_5 ⟨by decide, by decide⟩ (fun v_ u_ H locs h_ I => ?_)
  obtain rfl := h_
  have I : IX D A s.heap (wX cy q K C O L f) H locs := I
  refine W.eq (g2 := F0 m 8 ls [.int (bI (isP (K 0) x))]) rfl ?_
  refine lv_if_eq (tgt := 20) S.1 S.2.1 dX11_way_8 (by decide) (fun c_8 => ?_) (fun c_8 => ?_)
  · skip
    have c_8 := bI_f c_8
    rw [k0] at c_8
    refine lv_iconst (v := (-1)) S.1 S.2.1 dX11_way_20 (by decide) ?_
    exact ru_i hQ S hr hlk (u := (K, C, O, L, f)) I (⟨(congrArg (fun z => some (Value.int z)) (by simp [sp_way, c_8])), hrc⟩) dX11_way_21
  · skip
    have c_8 := bI_t c_8
    rw [k0] at c_8
    obtain ⟨j, h_j, rfl⟩ := isP_of c_8 (by omega)
    have e_j : (nI j).toNatClampNeg = j := nI_clamp (by omega)
    refine lv_iload_n S.1 S.2.1 dX11_way_11 rfl (lv_at hl 2 rfl) ?_
    refine lv_iconst (v := nI 0) S.1 S.2.1 dX11_way_12 (by decide) ?_
    refine lv_iconst (v := nI 2) S.1 S.2.1 dX11_way_13 (by decide) ?_
    refine cS (np := 3) (As := [.int w, .int (nI 0), .int (nI 2)]) (rest := []) S (x_isBetween l D cy (wX cy q K C O L f) w (nI 0) (nI 2)) hK hA I wm_X11_47 wt_X11_isBetween wn_X11 wk_X11_isBetween ⟨rfl, hd_X11_isBetween⟩ rfl ⟨by decide, by decide⟩ hl.1 rfl (Nat.le_of_ble_eq_true rfl) dX11_way_14 ⟨by decide, by decide⟩ (fun v_ u_ H locs h_ I => ?_)
    obtain rfl := h_
    have I : IX D A s.heap (wX cy q K C O L f) H locs := I
    refine W.eq (g2 := F0 m 17 ls [.int (bI (inB w (nI 0) (nI 2)))]) rfl ?_
    refine lv_if_ne (tgt := 22) S.1 S.2.1 dX11_way_17 (by decide) (fun c_17 => ?_) (fun c_17 => ?_)
    · skip
      have c_17 := bI_t c_17
      refine lv_aload_n S.1 S.2.1 dX11_way_22 rfl (lv_at hl 0 rfl) ?_
      refine cV (np := 0) (ci := 11) (q0 := 0) (As := []) (rest := []) S (x_spreadNow l D cy q K C O L f N R hW hrc) hK hA I wm_X11_128 wi_X11_spreadNow ws_X11_X11_spreadNow wn_X11 wk_X11_spreadNow ⟨rfl, hd_X11_spreadNow⟩ rfl ⟨by decide, by decide⟩ rfl rfl hl.1 rfl (Nat.le_of_ble_eq_true rfl) dX11_way_23 ⟨by decide, by decide⟩ (fun v_ u_ H locs h_ I => ?_)
      obtain ⟨rfl, hu4_23, hu5_23, hu5l_23, hur_23⟩ := h_
      obtain ⟨u4_23, u5_23, u6_23, u9_23, u10_23, u11_23⟩ := u_
      have hu4_23 : u4_23 = msk (stB R (R 1)) (N 6) := hu4_23
      have hu5_23 : ∀ z, z < 8 → (u5_23).testBit z = (decide (z < N 0) && tkN (eS N R (R 1)) z) := hu5_23
      have hu5l_23 : u5_23 < 256 := hu5l_23
      have hur_23 : RowC N R (R 1) (eS N R (R 1)) u9_23 u10_23 u11_23 := hur_23
      have I : IX D A s.heap (wX cy q (va_up (va_up (va_up K 4 u4_23) 5 u5_23) 6 u6_23) (va_up (va_up (va_up C 9 u9_23) 10 u10_23) 11 u11_23) O L f) H locs := I
      refine W.eq (g2 := F0 m 26 ls [.int (nI (rsk N R (R 1)))]) rfl ?_
      refine lv_pop S.1 S.2.1 dX11_way_26 rfl ?_
      refine lv_aload_n S.1 S.2.1 dX11_way_27 rfl (lv_at hl 0 rfl) ?_
      refine rg (ci := 11) (q0 := 0) (v := .ref (q 2)) 1 S hK I cl_X11 rfl wf_X11_21 (by decide) rfl rfl rfl dX11_way_28 ?_
      refine rg (ci := 9) (q0 := 2) (v := .int (nI u5_23)) 5 S hK I cl_X9 rfl wf_X11_131 (by decide) rfl rfl rfl dX11_way_31 ?_
      refine lv_iload_n S.1 S.2.1 dX11_way_34 rfl (lv_at hl 1 rfl) ?_
      refine cS (np := 2) (As := [.int (nI u5_23), .int (nI j)]) (rest := []) S (x_isIn l D cy (wX cy q (va_up (va_up (va_up K 4 u4_23) 5 u5_23) 6 u6_23) (va_up (va_up (va_up C 9 u9_23) 10 u10_23) 11 u11_23) O L f) u5_23 j (by omega)) hK hA I wm_X11_65 wt_X11_isIn wn_X11 wk_X11_isIn ⟨rfl, hd_X11_isIn⟩ rfl ⟨by decide, by decide⟩ hl.1 rfl (Nat.le_of_ble_eq_true rfl) dX11_way_35 ⟨by decide, by decide⟩ (fun v_ u_ H locs h_ I => ?_)
      obtain rfl := h_
      have I : IX D A s.heap (wX cy q (va_up (va_up (va_up K 4 u4_23) 5 u5_23) 6 u6_23) (va_up (va_up (va_up C 9 u9_23) 10 u10_23) 11 u11_23) O L f) H locs := I
      refine W.eq (g2 := F0 m 38 ls [.int (bI (u5_23.testBit j))]) rfl ?_
      refine lv_if_ne (tgt := 44) S.1 S.2.1 dX11_way_38 (by decide) (fun c_38 => ?_) (fun c_38 => ?_)
      · skip
        have c_38 := bI_t c_38
        have hpos := wy_1 hu5_23 (by omega) h_j c_38
        have hrw := hur_23 j h_j hpos
        have hsle : eS N R (R 1) j ≤ 8 := stF_le N R (R 1) 8 j
        refine lv_iload_n S.1 S.2.1 dX11_way_44 rfl (lv_at hl 2 rfl) ?_
        by_cases hw0 : w = 0
        · skip
          refine lv_lookup (off := 27) (tgt := 72) S.1 S.2.1 dX11_way_45 (by decide) (by rw [hw0]; rfl) (by decide) ?_
          refine lv_aload_n S.1 S.2.1 dX11_way_72 rfl (lv_at hl 0 rfl) ?_
          refine rg (ci := 11) (q0 := 0) (v := .ref (q 2)) 1 S hK I cl_X11 rfl wf_X11_21 (by decide) rfl rfl rfl dX11_way_73 ?_
          refine rg (ci := 9) (q0 := 2) (v := .ref (q 9)) 1 S hK I cl_X9 rfl wf_X11_134 (by decide) rfl rfl rfl dX11_way_76 ?_
          refine lv_iload_n S.1 S.2.1 dX11_way_79 rfl (lv_at hl 1 rfl) ?_
          refine ri (q0 := 9) (n := 8) (f := u9_23) j S hK I rfl rfl (by omega) (by decide) dX11_way_80 ?_
          refine tI (y := nI (eS N R (R 1) j)) hrw.1 ?_
          exact ru_i hQ S hr hlk (u := ((va_up (va_up (va_up K 4 u4_23) 5 u5_23) 6 u6_23), (va_up (va_up (va_up C 9 u9_23) 10 u10_23) 11 u11_23), O, L, f)) I (⟨(congrArg (fun z => some (Value.int z)) (by rw [sp_way, if_pos ⟨c_8, c_17⟩, e_j, if_neg (by omega), if_pos hw0])), hrc⟩) dX11_way_81
        · skip
          by_cases hw1 : w = nI 1
          · skip
            refine lv_lookup (off := 37) (tgt := 82) S.1 S.2.1 dX11_way_45 (by decide) (by rw [hw1]; rfl) (by decide) ?_
            refine lv_aload_n S.1 S.2.1 dX11_way_82 rfl (lv_at hl 0 rfl) ?_
            refine rg (ci := 11) (q0 := 0) (v := .ref (q 2)) 1 S hK I cl_X11 rfl wf_X11_21 (by decide) rfl rfl rfl dX11_way_83 ?_
            refine rg (ci := 9) (q0 := 2) (v := .ref (q 10)) 2 S hK I cl_X9 rfl wf_X11_137 (by decide) rfl rfl rfl dX11_way_86 ?_
            refine lv_iload_n S.1 S.2.1 dX11_way_89 rfl (lv_at hl 1 rfl) ?_
            refine ri (q0 := 10) (n := 8) (f := u10_23) j S hK I rfl rfl (by omega) (by decide) dX11_way_90 ?_
            refine tI (y := nI (nwH N R (R 1) (tkN (stF N R (R 1) (eS N R (R 1) j - 1))) j)) hrw.2.1 ?_
            exact ru_i hQ S hr hlk (u := ((va_up (va_up (va_up K 4 u4_23) 5 u5_23) 6 u6_23), (va_up (va_up (va_up C 9 u9_23) 10 u10_23) 11 u11_23), O, L, f)) I (⟨(congrArg (fun z => some (Value.int z)) (by rw [sp_way, if_pos ⟨c_8, c_17⟩, e_j, if_neg (by omega), if_neg hw0, if_pos hw1])), hrc⟩) dX11_way_91
          · skip
            refine lv_lookup (off := 47) (tgt := 92) S.1 S.2.1 dX11_way_45 (by decide) ((lv_osw (k := 0) hw0 rfl).trans ((lv_osw (k := nI 1) hw1 rfl).trans rfl)) (by decide) ?_
            refine lv_aload_n S.1 S.2.1 dX11_way_92 rfl (lv_at hl 0 rfl) ?_
            refine rg (ci := 11) (q0 := 0) (v := .ref (q 2)) 1 S hK I cl_X11 rfl wf_X11_21 (by decide) rfl rfl rfl dX11_way_93 ?_
            refine rg (ci := 9) (q0 := 2) (v := .ref (q 11)) 3 S hK I cl_X9 rfl wf_X11_140 (by decide) rfl rfl rfl dX11_way_96 ?_
            refine lv_iload_n S.1 S.2.1 dX11_way_99 rfl (lv_at hl 1 rfl) ?_
            refine ri (q0 := 11) (n := 8) (f := u11_23) j S hK I rfl rfl (by omega) (by decide) dX11_way_100 ?_
            refine tI (y := fmI N R (tkN (stF N R (R 1) (eS N R (R 1) j - 1))) j) hrw.2.2 ?_
            exact ru_i hQ S hr hlk (u := ((va_up (va_up (va_up K 4 u4_23) 5 u5_23) 6 u6_23), (va_up (va_up (va_up C 9 u9_23) 10 u10_23) 11 u11_23), O, L, f)) I (⟨(congrArg (fun z => some (Value.int z)) (by rw [sp_way, if_pos ⟨c_8, c_17⟩, e_j, if_neg (by omega), if_neg hw0, if_neg hw1])), hrc⟩) dX11_way_101
      · skip
        have c_38 := bI_f c_38
        refine lv_bipush (v := (-4)) S.1 S.2.1 dX11_way_41 (by decide) ?_
        exact ru_i hQ S hr hlk (u := ((va_up (va_up (va_up K 4 u4_23) 5 u5_23) 6 u6_23), (va_up (va_up (va_up C 9 u9_23) 10 u10_23) 11 u11_23), O, L, f)) I (⟨(congrArg (fun z => some (Value.int z)) (by rw [sp_way, if_pos ⟨c_8, c_17⟩, e_j, if_pos (wy_0 hu5_23 (by omega) h_j c_38)])), hrc⟩) dX11_way_43
    · skip
      have c_17 := bI_f c_17
      refine lv_iconst (v := (-1)) S.1 S.2.1 dX11_way_20 (by decide) ?_
      exact ru_i hQ S hr hlk (u := (K, C, O, L, f)) I (⟨(congrArg (fun z => some (Value.int z)) (by simp [sp_way, c_8, e_j, c_17])), hrc⟩) dX11_way_21
set_option maxHeartbeats 4000000 in
set_option maxRecDepth 100000 in
theorem x_bestGuard (l : Launch) (D : va_G) (cy : Nat → ClassId) (q : Nat → Nat) (K : Nat → Nat) (C : Nat → Nat → Int32) (O : Nat → Nat → Option Nat) (L : List Nat) (f : Nat → va_E) (N : Nat → Nat) (R : Nat → Nat → Int32) (hW : WFm N R) (hrc : RelC K C O L f N R) : MS (α := (Nat → Nat) × (Nat → Nat → Int32) × (Nat → Nat → Option Nat) × List Nat × (Nat → va_E)) l D cy yX11_bestGuard cX11_bestGuard 5 (Option.some FieldType.int) rm_X11_bestGuard [.ref (q 0)] (wX cy q K C O L f) (fun v_ u_ => v_ = some (.int (sp_bestGuard N R)) ∧ RelC u_.1 u_.2.1 u_.2.2.1 u_.2.2.2.1 u_.2.2.2.2 N R) (fun u_ => wX cy q u_.1 u_.2.1 u_.2.2.1 u_.2.2.2.1 u_.2.2.2.2) := by
  refine MS.mk2 (by decide) (Nat.le_of_ble_eq_true rfl) [(0, .ref (q 0))] rfl ?_
  intro p e s m args below meth c A ls Q hQ S hr hlk hnm hK hA I hl
  have hW0 := hW
  obtain ⟨hB, hPt, hBo, hH, hM, hQu⟩ := hW0
  have hB0 := hB
  obtain ⟨b0, b6, b17, b24, b30⟩ := hB0
  have hrc0 := hrc
  obtain ⟨hrel, hrg, hrm, hrp, hinj⟩ := hrc0
  have hrel0 := hrel
  obtain ⟨k0, k1, hC6, hK2, hC7, hHol⟩ := hrel0
  have hrm0 := hrm
  obtain ⟨k7, k8, hMe, hQe⟩ := hrm0
  have hrg0 := hrg
  obtain ⟨hC5, hG, hG3, hG2⟩ := hrg0
  have hp2 := pow_256 b17
  obtain ⟨k9, hC20, hK10, hC31⟩ := hrp
  have hgC : ∀ p, p < N 0 → C 5 p = R 1 p := fun p hp => hC5 p (by omega)
  refine lv_bipush (v := (-4)) S.1 S.2.1 dX11_bestGuard_0 (by decide) ?_
  refine lv_istore_n (lv' := [(1, .int (-4)), (0, .ref (q 0))]) S.1 S.2.1 dX11_bestGuard_2 rfl hl (by decide) rfl (fun ls hl => ?_)
  refine lv_aload_n S.1 S.2.1 dX11_bestGuard_3 rfl (lv_at hl 1 rfl) ?_
  refine cV (np := 0) (ci := 11) (q0 := 0) (As := []) (rest := []) S (x_spreadNow l D cy q K C O L f N R hW hrc) hK hA I wm_X11_128 wi_X11_spreadNow ws_X11_X11_spreadNow wn_X11 wk_X11_spreadNow ⟨rfl, hd_X11_spreadNow⟩ rfl ⟨by decide, by decide⟩ rfl rfl hl.1 rfl (Nat.le_of_ble_eq_true rfl) dX11_bestGuard_4 ⟨by decide, by decide⟩ (fun v_ u_ H locs h_ I => ?_)
  obtain ⟨rfl, hu4_4, hu5_4, hu5l_4, hur_4⟩ := h_
  obtain ⟨u4_4, u5_4, u6_4, u9_4, u10_4, u11_4⟩ := u_
  have hu4_4 : u4_4 = msk (stB R (R 1)) (N 6) := hu4_4
  have hu5_4 : ∀ z, z < 8 → (u5_4).testBit z = (decide (z < N 0) && tkN (eS N R (R 1)) z) := hu5_4
  have hu5l_4 : u5_4 < 256 := hu5l_4
  have hur_4 : RowC N R (R 1) (eS N R (R 1)) u9_4 u10_4 u11_4 := hur_4
  have I : IX D A s.heap (wX cy q (va_up (va_up (va_up K 4 u4_4) 5 u5_4) 6 u6_4) (va_up (va_up (va_up C 9 u9_4) 10 u10_4) 11 u11_4) O L f) H locs := I
  refine W.eq (g2 := F0 m 7 ls [.int (nI (rsk N R (R 1)))]) rfl ?_
  refine lv_istore_n (lv' := [(2, .int (nI (rsk N R (R 1)))), (1, .int (-4)), (0, .ref (q 0))]) S.1 S.2.1 dX11_bestGuard_7 rfl hl (by decide) rfl (fun ls hl => ?_)
  refine lv_iconst (v := nI 0) S.1 S.2.1 dX11_bestGuard_8 (by decide) ?_
  refine lv_istore_n (lv' := [(3, .int (nI 0)), (2, .int (nI (rsk N R (R 1)))), (1, .int (-4)), (0, .ref (q 0))]) S.1 S.2.1 dX11_bestGuard_9 rfl hl (by decide) rfl (fun ls hl => ?_)
  have loop_10 : ∀ (k_ : Nat) (pa : Nat) (be : Int32) (le : Nat) (z4 : Nat) (z5 : Nat) (z6 : Nat) (z9 : Nat → Int32) (z10 : Nat → Int32) (z11 : Nat → Int32), N 0 - pa < k_ → pa ≤ N 0 → (be, le) = bgF N R pa → le ≤ 16000 → ∀ (H : Heap) (locs : List Loc) (ls : Array Slot), IX D A s.heap (wX cy q (va_up (va_up (va_up K 4 z4) 5 z5) 6 z6) (va_up (va_up (va_up C 9 z9) 10 z10) 11 z11) O L f) H locs → lv_has ls 5 [(0, .ref (q 0)), (1, .int be), (2, .int (nI le)), (3, .int (nI pa))] → W p l e rm_X11_bestGuard s m args below meth c H locs 0 0 Q (F0 m 10 ls []) := by
    intro k_
    induction k_ with
    | zero => intro pa be le z4 z5 z6 z9 z10 z11 hm_; exact absurd hm_ (Nat.not_lt_zero _)
    | succ k_ ih_10 =>
      intro pa be le z4 z5 z6 z9 z10 z11 hm_ hpa hbl hle H locs ls I hl
      refine lv_iload_n S.1 S.2.1 dX11_bestGuard_10 rfl (lv_at hl 3 rfl) ?_
      refine lv_aload_n S.1 S.2.1 dX11_bestGuard_11 rfl (lv_at hl 0 rfl) ?_
      refine rg (ci := 11) (q0 := 0) (v := .ref (q 1)) 0 S hK I cl_X11 rfl wf_X11_12 (by decide) rfl rfl rfl dX11_bestGuard_12 ?_
      refine rg (ci := 5) (q0 := 1) (v := .int (nI (K 0))) 4 S hK I cl_X5 rfl wf_X11_143 (by decide) rfl rfl rfl dX11_bestGuard_15 ?_
      refine lv_icmp_ge (tgt := 83) S.1 S.2.1 dX11_bestGuard_18 (by decide) (fun c_18 => ?_) (fun c_18 => ?_)
      · skip
        have c_18o := c_18
        have c_18 := nI_cgeT (by omega) (by omega) c_18
        refine lv_iload_n S.1 S.2.1 dX11_bestGuard_83 rfl (lv_at hl 1 rfl) ?_
        exact ru_i hQ S hr hlk (u := ((va_up (va_up (va_up K 4 z4) 5 z5) 6 z6), (va_up (va_up (va_up C 9 z9) 10 z10) 11 z11), O, L, f)) I (⟨(congrArg (fun z => some (Value.int z)) (by rw [sp_bestGuard, show N 0 = pa by omega, ← hbl])), hrc⟩) dX11_bestGuard_84
      · skip
        have c_18o := c_18
        have c_18 := nI_cgeF (by omega) (by omega) c_18
        refine lv_aload_n S.1 S.2.1 dX11_bestGuard_21 rfl (lv_at hl 0 rfl) ?_
        refine rg (ci := 11) (q0 := 0) (v := .ref (q 1)) 0 S hK I cl_X11 rfl wf_X11_12 (by decide) rfl rfl rfl dX11_bestGuard_22 ?_
        refine rg (ci := 5) (q0 := 1) (v := .int (nI (K 3))) 7 S hK I cl_X5 rfl wf_X11_73 (by decide) rfl rfl rfl dX11_bestGuard_25 ?_
        refine lv_iload_n S.1 S.2.1 dX11_bestGuard_28 rfl (lv_at hl 3 rfl) ?_
        refine cS (np := 2) (As := [.int (nI (K 3)), .int (nI pa)]) (rest := []) S (x_isIn l D cy (wX cy q (va_up (va_up (va_up K 4 z4) 5 z5) 6 z6) (va_up (va_up (va_up C 9 z9) 10 z10) 11 z11) O L f) (K 3) pa (by omega)) hK hA I wm_X11_65 wt_X11_isIn wn_X11 wk_X11_isIn ⟨rfl, hd_X11_isIn⟩ rfl ⟨by decide, by decide⟩ hl.1 rfl (Nat.le_of_ble_eq_true rfl) dX11_bestGuard_29 ⟨by decide, by decide⟩ (fun v_ u_ H locs h_ I => ?_)
        obtain rfl := h_
        have I : IX D A s.heap (wX cy q (va_up (va_up (va_up K 4 z4) 5 z5) 6 z6) (va_up (va_up (va_up C 9 z9) 10 z10) 11 z11) O L f) H locs := I
        refine W.eq (g2 := F0 m 32 ls [.int (bI ((K 3).testBit pa))]) rfl ?_
        refine lv_if_eq (tgt := 38) S.1 S.2.1 dX11_bestGuard_32 (by decide) (fun c_32 => ?_) (fun c_32 => ?_)
        · skip
          have c_32 := bI_f c_32
          have hng : R 4 pa = 0 := by have h9 := hG pa (by omega); rw [c_32] at h9; exact Classical.not_not.mp (of_decide_eq_false h9.symm)
          refine lv_aload_n S.1 S.2.1 dX11_bestGuard_38 rfl (lv_at hl 0 rfl) ?_
          refine rg (ci := 11) (q0 := 0) (v := .ref (q 2)) 1 S hK I cl_X11 rfl wf_X11_21 (by decide) rfl rfl rfl dX11_bestGuard_39 ?_
          refine lv_aload_n S.1 S.2.1 dX11_bestGuard_42 rfl (lv_at hl 0 rfl) ?_
          refine rg (ci := 11) (q0 := 0) (v := .ref (q 1)) 0 S hK I cl_X11 rfl wf_X11_12 (by decide) rfl rfl rfl dX11_bestGuard_43 ?_
          refine rg (ci := 5) (q0 := 1) (v := .ref (q 5)) 0 S hK I cl_X5 rfl wf_X11_77 (by decide) rfl rfl rfl dX11_bestGuard_46 ?_
          refine lv_aload_n S.1 S.2.1 dX11_bestGuard_49 rfl (lv_at hl 0 rfl) ?_
          refine rg (ci := 11) (q0 := 0) (v := .ref (q 1)) 0 S hK I cl_X11 rfl wf_X11_12 (by decide) rfl rfl rfl dX11_bestGuard_50 ?_
          refine rg (ci := 5) (q0 := 1) (v := .int (nI (K 3))) 7 S hK I cl_X5 rfl wf_X11_73 (by decide) rfl rfl rfl dX11_bestGuard_53 ?_
          refine lv_iload_n S.1 S.2.1 dX11_bestGuard_56 rfl (lv_at hl 3 rfl) ?_
          refine cS (np := 1) (As := [.int (nI pa)]) (rest := [.int (nI (K 3)), .ref (q 5), .ref (q 2)]) S (x_bit l D cy (wX cy q (va_up (va_up (va_up K 4 z4) 5 z5) 6 z6) (va_up (va_up (va_up C 9 z9) 10 z10) 11 z11) O L f) pa (by omega)) hK hA I wm_X11_146 wt_X11_bit wn_X11 wk_X11_bit ⟨rfl, hd_X11_bit⟩ rfl ⟨by decide, by decide⟩ hl.1 rfl (Nat.le_of_ble_eq_true rfl) dX11_bestGuard_57 ⟨by decide, by decide⟩ (fun v_ u_ H locs h_ I => ?_)
          obtain rfl := h_
          have I : IX D A s.heap (wX cy q (va_up (va_up (va_up K 4 z4) 5 z5) 6 z6) (va_up (va_up (va_up C 9 z9) 10 z10) 11 z11) O L f) H locs := I
          refine W.eq (g2 := F0 m 60 ls [.int (nI (2 ^ pa)), .int (nI (K 3)), .ref (q 5), .ref (q 2)]) rfl ?_
          refine lv_ior S.1 S.2.1 dX11_bestGuard_60 ?_
          refine tI (y := nI ((K 3) ||| (2 ^ pa))) (fa_or _ _) ?_
          refine cV (np := 2) (ci := 9) (q0 := 2) (As := [.ref (q 5), .int (nI ((K 3) ||| (2 ^ pa)))]) (rest := []) S (x_run l D cy q (va_up (va_up (va_up K 4 z4) 5 z5) 6 z6) (va_up (va_up (va_up C 9 z9) 10 z10) 11 z11) O L f N (gR R pa) (WFm_g hW) (RelN_g (p := pa) (RelN_s hrel)) 5 ((K 3) ||| (2 ^ pa)) (by decide) (bg_G hG)) hK hA I wm_X11_150 wi_X9_run ws_X9_X9_run wn_X9 wk_X9_run ⟨rfl, hd_X9_run⟩ rfl ⟨by decide, by decide⟩ rfl rfl hl.1 rfl (Nat.le_of_ble_eq_true rfl) dX11_bestGuard_61 ⟨by decide, by decide⟩ (fun v_ u_ H locs h_ I => ?_)
          obtain ⟨rfl, hu4_61, hu5_61, hu5l_61, hu6_61, hur_61⟩ := h_
          obtain ⟨u4_61, u5_61, u6_61, u9_61, u10_61, u11_61⟩ := u_
          have hu4_61 : u4_61 = msk (stB (gR R pa) (C 5)) (N 6) := hu4_61
          have hu5_61 : ∀ z, z < 8 → (u5_61).testBit z = (decide (z < N 0) && tkN (eS N (gR R pa) (C 5)) z) := hu5_61
          have hu5l_61 : u5_61 < 256 := hu5l_61
          have hur_61 : RowC N (gR R pa) (C 5) (eS N (gR R pa) (C 5)) u9_61 u10_61 u11_61 := hur_61
          have I : IX D A s.heap (wX cy q (va_up (va_up (va_up K 4 u4_61) 5 u5_61) 6 u6_61) (va_up (va_up (va_up C 9 u9_61) 10 u10_61) 11 u11_61) O L f) H locs := I
          refine W.eq (g2 := F0 m 64 ls [.int (nI (rsk N (gR R pa) (C 5)))]) rfl ?_
          refine tI (y := nI (rsk N (gR R pa) (R 1))) (by rw [rsk_cg (WFm_g (p := pa) hW).2.2.2.1 hgC]) ?_
          have hv1 : rsk N (gR R pa) (R 1) ≤ 16000 := rsk_le (WFm_g (p := pa) hW).2.1 hB
          refine lv_istore (lv' := [(4, .int (nI (rsk N (gR R pa) (R 1)))), (0, .ref (q 0)), (1, .int be), (2, .int (nI le)), (3, .int (nI pa))]) S.1 S.2.1 dX11_bestGuard_64 hl (by decide) rfl (fun ls hl => ?_)
          refine lv_iload S.1 S.2.1 dX11_bestGuard_66 (lv_at hl 0 rfl) ?_
          refine lv_iload_n S.1 S.2.1 dX11_bestGuard_68 rfl (lv_at hl 3 rfl) ?_
          refine lv_icmp_ge (tgt := 77) S.1 S.2.1 dX11_bestGuard_69 (by decide) (fun c_69 => ?_) (fun c_69 => ?_)
          · skip
            have c_69o := c_69
            have c_69 := nI_cgeT (by omega) (by omega) c_69
            refine lv_iinc (v := nI (pa + 1)) (lv' := [(3, .int (nI (pa + 1))), (4, .int (nI (rsk N (gR R pa) (R 1)))), (0, .ref (q 0)), (1, .int be), (2, .int (nI le))]) S.1 S.2.1 dX11_bestGuard_77 hl (k := 4) rfl (nI_1 _) (by decide) rfl (fun ls hl => ?_)
            refine lv_goto (tgt := 10) S.1 S.2.1 dX11_bestGuard_80 (by decide) ?_
            exact ih_10 (pa + 1) be le u4_61 u5_61 u6_61 u9_61 u10_61 u11_61 (by omega) (by omega) (by rw [bgF, ← hbl, if_neg (fun h => by have := h.2; omega)]) hle _ _ _ I (lv_sub hl [2, 3, 4, 0] rfl)
          · skip
            have c_69o := c_69
            have c_69 := nI_cgeF (by omega) (by omega) c_69
            refine lv_iload S.1 S.2.1 dX11_bestGuard_72 (lv_at hl 0 rfl) ?_
            refine lv_istore_n (lv' := [(2, .int (nI (rsk N (gR R pa) (R 1)))), (4, .int (nI (rsk N (gR R pa) (R 1)))), (0, .ref (q 0)), (1, .int be), (3, .int (nI pa))]) S.1 S.2.1 dX11_bestGuard_74 rfl hl (by decide) rfl (fun ls hl => ?_)
            refine lv_iload_n S.1 S.2.1 dX11_bestGuard_75 rfl (lv_at hl 4 rfl) ?_
            refine lv_istore_n (lv' := [(1, .int (nI pa)), (2, .int (nI (rsk N (gR R pa) (R 1)))), (4, .int (nI (rsk N (gR R pa) (R 1)))), (0, .ref (q 0)), (3, .int (nI pa))]) S.1 S.2.1 dX11_bestGuard_76 rfl hl (by decide) rfl (fun ls hl => ?_)
            refine lv_iinc (v := nI (pa + 1)) (lv' := [(3, .int (nI (pa + 1))), (1, .int (nI pa)), (2, .int (nI (rsk N (gR R pa) (R 1)))), (4, .int (nI (rsk N (gR R pa) (R 1)))), (0, .ref (q 0))]) S.1 S.2.1 dX11_bestGuard_77 hl (k := 4) rfl (nI_1 _) (by decide) rfl (fun ls hl => ?_)
            refine lv_goto (tgt := 10) S.1 S.2.1 dX11_bestGuard_80 (by decide) ?_
            exact ih_10 (pa + 1) (nI pa) (rsk N (gR R pa) (R 1)) u4_61 u5_61 u6_61 u9_61 u10_61 u11_61 (by omega) (by omega) (by rw [bgF, ← hbl, if_pos ⟨hng, by omega⟩]) hv1 _ _ _ I (lv_sub hl [4, 1, 2, 0] rfl)
        · skip
          have c_32 := bI_t c_32
          have hng : ¬ R 4 pa = 0 := by have h9 := hG pa (by omega); rw [c_32] at h9; exact of_decide_eq_true h9.symm
          refine lv_goto (tgt := 77) S.1 S.2.1 dX11_bestGuard_35 (by decide) ?_
          refine lv_iinc (v := nI (pa + 1)) (lv' := [(3, .int (nI (pa + 1))), (0, .ref (q 0)), (1, .int be), (2, .int (nI le))]) S.1 S.2.1 dX11_bestGuard_77 hl (k := 3) rfl (nI_1 _) (by decide) rfl (fun ls hl => ?_)
          refine lv_goto (tgt := 10) S.1 S.2.1 dX11_bestGuard_80 (by decide) ?_
          exact ih_10 (pa + 1) be le z4 z5 z6 z9 z10 z11 (by omega) (by omega) (by rw [bgF, ← hbl, if_neg (fun h => hng h.1)]) hle _ _ _ I (lv_sub hl [1, 2, 3, 0] rfl)
  exact loop_10 _ 0 (-4) (rsk N R (R 1)) u4_4 u5_4 u6_4 u9_4 u10_4 u11_4 (Nat.lt_succ_self _) (Nat.zero_le _) rfl (rsk_le hPt hB) _ _ _ I (lv_sub hl [3, 2, 1, 0] rfl)
