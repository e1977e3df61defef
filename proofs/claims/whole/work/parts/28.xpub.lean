def RelP (K : Nat → Nat) (C : Nat → Nat → Int32) (N : Nat → Nat) (R : Nat → Nat → Int32) : Prop := K 9 = N 30 ∧ (∀ k, k < 8 → C 20 k = R 31 k) ∧ (1 ≤ N 30 → K 10 = msk (mvB R) 8) ∧ (N 30 = 0 → ∀ k, k < 8 → R 31 k = -4)
/-- the class's state stands to the reference's rows as it should -/
def RelC (K : Nat → Nat) (C : Nat → Nat → Int32) (O : Nat → Nat → Option Nat) (L : List Nat) (f : Nat → va_E) (N : Nat → Nat) (R : Nat → Nat → Int32) : Prop := RelN K C O L f N R ∧ RelG K C R ∧ RelM K O L f N R ∧ RelP K C N R ∧ ∀ h z, h < N 6 → z < N 6 → O 8 h = O 8 z → h = z
section RC
variable {K : Nat → Nat} {C : Nat → Nat → Int32} {O : Nat → Nat → Option Nat} {L : List Nat} {f : Nat → va_E} {N : Nat → Nat} {R : Nat → Nat → Int32} {a b d : Nat} {x9 x10 x11 x14 : Nat → Int32}
theorem RelC_s (h : RelC K C O L f N R) : RelC (va_up (va_up (va_up K 4 a) 5 b) 6 d) (va_up (va_up (va_up C 9 x9) 10 x10) 11 x11) O L f N R := h
theorem RelC_7 (h : RelC K C O L f N R) : RelC (va_up (va_up (va_up K 4 a) 5 b) 6 d) (va_up (va_up (va_up (va_up C 9 x9) 10 x10) 11 x11) 14 x14) O L f N R := h
theorem RelC_14 (h : RelC K C O L f N R) : RelC K (va_up C 14 x14) O L f N R := h
theorem RelN_7 (h : RelN K C O L f N R) : RelN (va_up (va_up (va_up K 4 a) 5 b) 6 d) (va_up (va_up (va_up (va_up C 9 x9) 10 x10) 11 x11) 14 x14) O L f N R := h
theorem RelG_7 (h : RelG K C R) : RelG (va_up (va_up (va_up K 4 a) 5 b) 6 d) (va_up (va_up (va_up (va_up C 9 x9) 10 x10) 11 x11) 14 x14) R := h
theorem RelM_7 (h : RelM K O L f N R) : RelM (va_up (va_up (va_up K 4 a) 5 b) 6 d) O L f N R := h
end RC
theorem eq_msk {u n : Nat} {b : Nat → Bool} (h : ∀ z, z < 8 → u.testBit z = (decide (z < n) && b z)) (hu : u < 256) (hn : n ≤ 8) : u = msk b n := by
  apply Nat.eq_of_testBit_eq
  intro z
  rw [msk_bit]
  rcases Nat.lt_or_ge z 8 with q | q
  · exact h z q
  · rw [Nat.testBit_lt_two_pow (Nat.lt_of_lt_of_le hu (show 256 ≤ 2 ^ z from Nat.pow_le_pow_right (n := 2) (by decide) (show 8 ≤ z from q))), decide_eq_false (by omega), Bool.false_and]
theorem RowC_cg {N : Nat → Nat} {R : Nat → Nat → Int32} (hH : WHo N R) {g g2 : Nat → Int32} (hg : ∀ p, p < N 0 → g p = g2 p) {v : Nat → Nat} {a b c : Nat → Int32} (h : RowC N R g v a b c) : RowC N R g2 v a b c := by
  intro p hp h0
  rw [← stF_cg hH hg, ← nwH_cg hH hg (fun _ _ => rfl)]
  exact h p hp h0
theorem msk_st {N : Nat → Nat} {R : Nat → Nat → Int32} (hH : WHo N R) {g g2 : Nat → Int32} (hg : ∀ p, p < N 0 → g p = g2 p) : msk (stB R g) (N 6) = msk (stB R g2) (N 6) := msk_cg (fun h h6 => stB_cg hH hg h6)
set_option maxHeartbeats 4000000 in
set_option maxRecDepth 100000 in
theorem x_spreadNow (l : Launch) (D : va_G) (cy : Nat → ClassId) (q : Nat → Nat) (K : Nat → Nat) (C : Nat → Nat → Int32) (O : Nat → Nat → Option Nat) (L : List Nat) (f : Nat → va_E) (N : Nat → Nat) (R : Nat → Nat → Int32) (hW : WFm N R) (hrc : RelC K C O L f N R) : MS (α := Nat × Nat × Nat × (Nat → Int32) × (Nat → Int32) × (Nat → Int32)) l D cy yX11_spreadNow cX11_spreadNow 1 (Option.some FieldType.int) rm_X11_spreadNow [.ref (q 0)] (wX cy q K C O L f) (fun v_ u_ => v_ = some (.int (nI (rsk N R (R 1)))) ∧ u_.1 = msk (stB R (R 1)) (N 6) ∧ (∀ z, z < 8 → u_.2.1.testBit z = (decide (z < N 0) && tkN (eS N R (R 1)) z)) ∧ u_.2.1 < 256 ∧ RowC N R (R 1) (eS N R (R 1)) u_.2.2.2.1 u_.2.2.2.2.1 u_.2.2.2.2.2) (fun u_ => wX cy q (va_up (va_up (va_up K 4 u_.1) 5 u_.2.1) 6 u_.2.2.1) (va_up (va_up (va_up C 9 u_.2.2.2.1) 10 u_.2.2.2.2.1) 11 u_.2.2.2.2.2) O L f) := by
  refine MS.mk2 (by decide) (Nat.le_of_ble_eq_true rfl) [(0, .ref (q 0))] rfl ?_
  intro p e s m args below meth c A ls Q hQ S hr hlk hnm hK hA I hl
  have hW0 := hW
  obtain ⟨hB, hPt, hBo, hH, hM, hQu⟩ := hW0
  have hB0 := hB
  obtain ⟨b0, b6, b17, b24, b30⟩ := hB0
  have hrc0 := hrc
  obtain ⟨hrel, hrg, hrm, hrp, hinj⟩ := hrc0
  have hrel0 := hrel
  obtain ⟨k0, k1, hC6, hK2, hC7, hHol⟩ := hrel0
  have hrm0 := hrm
  obtain ⟨k7, k8, hMe, hQe⟩ := hrm0
  have hrg0 := hrg
  obtain ⟨hC5, hG, hG3, hG2⟩ := hrg0
  have hp2 := pow_256 b17
  obtain ⟨k9, hC20, hK10, hC31⟩ := hrp
  have hgC : ∀ p, p < N 0 → C 5 p = R 1 p := fun p hp => hC5 p (by omega)
  refine lv_aload_n S.1 S.2.1 dX11_spreadNow_0 rfl (lv_at hl 0 rfl) ?_
  refine rg (ci := 11) (q0 := 0) (v := .ref (q 2)) 1 S hK I cl_X11 rfl wf_X11_21 (by decide) rfl rfl rfl dX11_spreadNow_1 ?_
  refine lv_aload_n S.1 S.2.1 dX11_spreadNow_4 rfl (lv_at hl 0 rfl) ?_
  refine rg (ci := 11) (q0 := 0) (v := .ref (q 1)) 0 S hK I cl_X11 rfl wf_X11_12 (by decide) rfl rfl rfl dX11_spreadNow_5 ?_
  refine rg (ci := 5) (q0 := 1) (v := .ref (q 5)) 0 S hK I cl_X5 rfl wf_X11_77 (by decide) rfl rfl rfl dX11_spreadNow_8 ?_
  refine lv_aload_n S.1 S.2.1 dX11_spreadNow_11 rfl (lv_at hl 0 rfl) ?_
  refine rg (ci := 11) (q0 := 0) (v := .ref (q 1)) 0 S hK I cl_X11 rfl wf_X11_12 (by decide) rfl rfl rfl dX11_spreadNow_12 ?_
  refine rg (ci := 5) (q0 := 1) (v := .int (nI (K 3))) 7 S hK I cl_X5 rfl wf_X11_73 (by decide) rfl rfl rfl dX11_spreadNow_15 ?_
  refine cV (np := 2) (ci := 9) (q0 := 2) (As := [.ref (q 5), .int (nI (K 3))]) (rest := []) S (x_run l D cy q K C O L f N R hW hrel 5 (K 3) (by decide) hG) hK hA I wm_X11_150 wi_X9_run ws_X9_X9_run wn_X9 wk_X9_run ⟨rfl, hd_X9_run⟩ rfl ⟨by decide, by decide⟩ rfl rfl hl.1 rfl (Nat.le_of_ble_eq_true rfl) dX11_spreadNow_18 ⟨by decide, by decide⟩ (fun v_ u_ H locs h_ I => ?_)
  obtain ⟨rfl, hu4_18, hu5_18, hu5l_18, hu6_18, hur_18⟩ := h_
  obtain ⟨u4_18, u5_18, u6_18, u9_18, u10_18, u11_18⟩ := u_
  have hu4_18 : u4_18 = msk (stB R (C 5)) (N 6) := hu4_18
  have hu5_18 : ∀ z, z < 8 → (u5_18).testBit z = (decide (z < N 0) && tkN (eS N R (C 5)) z) := hu5_18
  have hu5l_18 : u5_18 < 256 := hu5l_18
  have hur_18 : RowC N R (C 5) (eS N R (C 5)) u9_18 u10_18 u11_18 := hur_18
  have I : IX D A s.heap (wX cy q (va_up (va_up (va_up K 4 u4_18) 5 u5_18) 6 u6_18) (va_up (va_up (va_up C 9 u9_18) 10 u10_18) 11 u11_18) O L f) H locs := I
  refine W.eq (g2 := F0 m 21 ls [.int (nI (rsk N R (C 5)))]) rfl ?_
  exact ru_i hQ S hr hlk (u := (u4_18, u5_18, u6_18, u9_18, u10_18, u11_18)) I (⟨by rw [rsk_cg hH hgC], by rw [hu4_18]; exact msk_st hH hgC, by rw [eS, ← stF_cg hH hgC]; exact hu5_18, hu5l_18, by rw [eS, ← stF_cg hH hgC]; exact RowC_cg hH hgC hur_18⟩) dX11_spreadNow_21
set_option maxHeartbeats 4000000 in
set_option maxRecDepth 100000 in
theorem x_risk (l : Launch) (D : va_G) (cy : Nat → ClassId) (q : Nat → Nat) (K : Nat → Nat) (C : Nat → Nat → Int32) (O : Nat → Nat → Option Nat) (L : List Nat) (f : Nat → va_E) (N : Nat → Nat) (R : Nat → Nat → Int32) (hW : WFm N R) (hrc : RelC K C O L f N R) : MS (α := (Nat → Nat) × (Nat → Nat → Int32) × (Nat → Nat → Option Nat) × List Nat × (Nat → va_E)) l D cy yX11_risk cX11_risk 1 (Option.some FieldType.int) rm_X11_risk [.ref (q 0)] (wX cy q K C O L f) (fun v_ u_ => v_ = some (.int (sp_risk N R)) ∧ RelC u_.1 u_.2.1 u_.2.2.1 u_.2.2.2.1 u_.2.2.2.2 N R) (fun u_ => wX cy q u_.1 u_.2.1 u_.2.2.1 u_.2.2.2.1 u_.2.2.2.2) := by
  refine MS.mk2 (by decide) (Nat.le_of_ble_eq_true rfl) [(0, .ref (q 0))] rfl ?_
  intro p e s m args below meth c A ls Q hQ S hr hlk hnm hK hA I hl
  have hW0 := hW
  obtain ⟨hB, hPt, hBo, hH, hM, hQu⟩ := hW0
  have hB0 := hB
  obtain ⟨b0, b6, b17, b24, b30⟩ := hB0
  have hrc0 := hrc
  obtain ⟨hrel, hrg, hrm, hrp, hinj⟩ := hrc0
  have hrel0 := hrel
  obtain ⟨k0, k1, hC6, hK2, hC7, hHol⟩ := hrel0
  have hrm0 := hrm
  obtain ⟨k7, k8, hMe, hQe⟩ := hrm0
  have hrg0 := hrg
  obtain ⟨hC5, hG, hG3, hG2⟩ := hrg0
  have hp2 := pow_256 b17
  obtain ⟨k9, hC20, hK10, hC31⟩ := hrp
  have hgC : ∀ p, p < N 0 → C 5 p = R 1 p := fun p hp => hC5 p (by omega)
  refine lv_aload_n S.1 S.2.1 dX11_risk_0 rfl (lv_at hl 0 rfl) ?_
  refine cV (np := 0) (ci := 11) (q0 := 0) (As := []) (rest := []) S (x_spreadNow l D cy q K C O L f N R hW hrc) hK hA I wm_X11_128 wi_X11_spreadNow ws_X11_X11_spreadNow wn_X11 wk_X11_spreadNow ⟨rfl, hd_X11_spreadNow⟩ rfl ⟨by decide, by decide⟩ rfl rfl hl.1 rfl (Nat.le_of_ble_eq_true rfl) dX11_risk_1 ⟨by decide, by decide⟩ (fun v_ u_ H locs h_ I => ?_)
  obtain ⟨rfl, hu4_1, hu5_1, hu5l_1, hur_1⟩ := h_
  obtain ⟨u4_1, u5_1, u6_1, u9_1, u10_1, u11_1⟩ := u_
  have hu4_1 : u4_1 = msk (stB R (R 1)) (N 6) := hu4_1
  have hu5_1 : ∀ z, z < 8 → (u5_1).testBit z = (decide (z < N 0) && tkN (eS N R (R 1)) z) := hu5_1
  have hu5l_1 : u5_1 < 256 := hu5l_1
  have hur_1 : RowC N R (R 1) (eS N R (R 1)) u9_1 u10_1 u11_1 := hur_1
  have I : IX D A s.heap (wX cy q (va_up (va_up (va_up K 4 u4_1) 5 u5_1) 6 u6_1) (va_up (va_up (va_up C 9 u9_1) 10 u10_1) 11 u11_1) O L f) H locs := I
  refine W.eq (g2 := F0 m 4 ls [.int (nI (rsk N R (R 1)))]) rfl ?_
  exact ru_i hQ S hr hlk (u := ((va_up (va_up (va_up K 4 u4_1) 5 u5_1) 6 u6_1), (va_up (va_up (va_up C 9 u9_1) 10 u10_1) 11 u11_1), O, L, f)) I (⟨rfl, hrc⟩) dX11_risk_4
set_option maxHeartbeats 4000000 in
set_option maxRecDepth 100000 in
theorem x_taken (l : Launch) (D : va_G) (cy : Nat → ClassId) (q : Nat → Nat) (K : Nat → Nat) (C : Nat → Nat → Int32) (O : Nat → Nat → Option Nat) (L : List Nat) (f : Nat → va_E) (N : Nat → Nat) (R : Nat → Nat → Int32) (hW : WFm N R) (hrc : RelC K C O L f N R) : MS (α := (Nat → Nat) × (Nat → Nat → Int32) × (Nat → Nat → Option Nat) × List Nat × (Nat → va_E)) l D cy yX11_taken cX11_taken 1 (Option.some FieldType.int) rm_X11_taken [.ref (q 0)] (wX cy q K C O L f) (fun v_ u_ => v_ = some (.int (sp_taken N R)) ∧ RelC u_.1 u_.2.1 u_.2.2.1 u_.2.2.2.1 u_.2.2.2.2 N R) (fun u_ => wX cy q u_.1 u_.2.1 u_.2.2.1 u_.2.2.2.1 u_.2.2.2.2) := by
  refine MS.mk2 (by decide) (Nat.le_of_ble_eq_true rfl) [(0, .ref (q 0))] rfl ?_
  intro p e s m args below meth c A ls Q hQ S hr hlk hnm hK hA I hl
  have hW0 := hW
  obtain ⟨hB, hPt, hBo, hH, hM, hQu⟩ := hW0
  have hB0 := hB
  obtain ⟨b0, b6, b17, b24, b30⟩ := hB0
  have hrc0 := hrc
  obtain ⟨hrel, hrg, hrm, hrp, hinj⟩ := hrc0
  have hrel0 := hrel
  obtain ⟨k0, k1, hC6, hK2, hC7, hHol⟩ := hrel0
  have hrm0 := hrm
  obtain ⟨k7, k8, hMe, hQe⟩ := hrm0
  have hrg0 := hrg
  obtain ⟨hC5, hG, hG3, hG2⟩ := hrg0
  have hp2 := pow_256 b17
  obtain ⟨k9, hC20, hK10, hC31⟩ := hrp
  have hgC : ∀ p, p < N 0 → C 5 p = R 1 p := fun p hp => hC5 p (by omega)
  refine lv_aload_n S.1 S.2.1 dX11_taken_0 rfl (lv_at hl 0 rfl) ?_
  refine cV (np := 0) (ci := 11) (q0 := 0) (As := []) (rest := []) S (x_spreadNow l D cy q K C O L f N R hW hrc) hK hA I wm_X11_128 wi_X11_spreadNow ws_X11_X11_spreadNow wn_X11 wk_X11_spreadNow ⟨rfl, hd_X11_spreadNow⟩ rfl ⟨by decide, by decide⟩ rfl rfl hl.1 rfl (Nat.le_of_ble_eq_true rfl) dX11_taken_1 ⟨by decide, by decide⟩ (fun v_ u_ H locs h_ I => ?_)
  obtain ⟨rfl, hu4_1, hu5_1, hu5l_1, hur_1⟩ := h_
  obtain ⟨u4_1, u5_1, u6_1, u9_1, u10_1, u11_1⟩ := u_
  have hu4_1 : u4_1 = msk (stB R (R 1)) (N 6) := hu4_1
  have hu5_1 : ∀ z, z < 8 → (u5_1).testBit z = (decide (z < N 0) && tkN (eS N R (R 1)) z) := hu5_1
  have hu5l_1 : u5_1 < 256 := hu5l_1
  have hur_1 : RowC N R (R 1) (eS N R (R 1)) u9_1 u10_1 u11_1 := hur_1
  have I : IX D A s.heap (wX cy q (va_up (va_up (va_up K 4 u4_1) 5 u5_1) 6 u6_1) (va_up (va_up (va_up C 9 u9_1) 10 u10_1) 11 u11_1) O L f) H locs := I
  refine W.eq (g2 := F0 m 4 ls [.int (nI (rsk N R (R 1)))]) rfl ?_
  refine lv_pop S.1 S.2.1 dX11_taken_4 rfl ?_
  refine lv_aload_n S.1 S.2.1 dX11_taken_5 rfl (lv_at hl 0 rfl) ?_
  refine rg (ci := 11) (q0 := 0) (v := .ref (q 2)) 1 S hK I cl_X11 rfl wf_X11_21 (by decide) rfl rfl rfl dX11_taken_6 ?_
  refine rg (ci := 9) (q0 := 2) (v := .int (nI u5_1)) 5 S hK I cl_X9 rfl wf_X11_131 (by decide) rfl rfl rfl dX11_taken_9 ?_
  exact ru_i hQ S hr hlk (u := ((va_up (va_up (va_up K 4 u4_1) 5 u5_1) 6 u6_1), (va_up (va_up (va_up C 9 u9_1) 10 u10_1) 11 u11_1), O, L, f)) I (⟨(congrArg (fun z => some (Value.int z)) (by rw [sp_taken, eq_msk hu5_1 hu5l_1 b0])), hrc⟩) dX11_taken_12
set_option maxHeartbeats 4000000 in
set_option maxRecDepth 100000 in
theorem x_riskWith (l : Launch) (D : va_G) (cy : Nat → ClassId) (q : Nat → Nat) (K : Nat → Nat) (C : Nat → Nat → Int32) (O : Nat → Nat → Option Nat) (L : List Nat) (f : Nat → va_E) (N : Nat → Nat) (R : Nat → Nat → Int32) (x : Int32) (hW : WFm N R) (hrc : RelC K C O L f N R) : MS (α := (Nat → Nat) × (Nat → Nat → Int32) × (Nat → Nat → Option Nat) × List Nat × (Nat → va_E)) l D cy yX11_riskWith cX11_riskWith 2 (Option.some FieldType.int) rm_X11_riskWith [.ref (q 0), .int x] (wX cy q K C O L f) (fun v_ u_ => v_ = some (.int (sp_riskWith N R x)) ∧ RelC u_.1 u_.2.1 u_.2.2.1 u_.2.2.2.1 u_.2.2.2.2 N R) (fun u_ => wX cy q u_.1 u_.2.1 u_.2.2.1 u_.2.2.2.1 u_.2.2.2.2) := by
  refine MS.mk2 (by decide) (Nat.le_of_ble_eq_true rfl) [(0, .ref (q 0)), (1, .int x)] rfl ?_
  intro p e s m args below meth c A ls Q hQ S hr hlk hnm hK hA I hl
  have hW0 := hW
  obtain ⟨hB, hPt, hBo, hH, hM, hQu⟩ := hW0
  have hB0 := hB
  obtain ⟨b0, b6, b17, b24, b30⟩ := hB0
  have hrc0 := hrc
  obtain ⟨hrel, hrg, hrm, hrp, hinj⟩ := hrc0
  have hrel0 := hrel
  obtain ⟨k0, k1, hC6, hK2, hC7, hHol⟩ := hrel0
  have hrm0 := hrm
  obtain ⟨k7, k8, hMe, hQe⟩ := hrm0
  have hrg0 := hrg
  obtain ⟨hC5, hG, hG3, hG2⟩ := hrg0
  have hp2 := pow_256 b17
  obtain ⟨k9, hC20, hK10, hC31⟩ := hrp
  have hgC : ∀ p, p < N 0 → C 5 p = R 1 p := fun p hp => hC5 p (by omega)
  refine lv_aload_n S.1 S.2.1 dX11_riskWith_0 rfl (lv_at hl 0 rfl) ?_
  refine rg (ci := 11) (q0 := 0) (v := .ref (q 3)) 2 S hK I cl_X11 rfl wf_X11_30 (by decide) rfl rfl rfl dX11_riskWith_1 ?_
  refine lv_iload_n S.1 S.2.1 dX11_riskWith_4 rfl (lv_at hl 1 rfl) ?_
  refine cV (np := 1) (ci := 4) (q0 := 3) (As := [.int x]) (rest := []) S (x_isSet l D cy q K C O L f x (by omega)) hK hA I wm_X11_176 wi_X4_isSet ws_X4_X4_isSet wn_X4 wk_X4_isSet ⟨rfl, hd_X4_isSet⟩ rfl ⟨by decide, by decide⟩ rfl rfl hl.1 rfl (Nat.le_of_ble_eq_true rfl) dX11_riskWith_5 ⟨by decide, by decide⟩ (fun v_ u_ H locs h_ I => ?_)
  obtain rfl := h_
  have I : IX D A s.heap (wX cy q K C O L f) H locs := I
  refine W.eq (g2 := F0 m 8 ls [.int (bI (isP (2 ^ (K 7)) x))]) rfl ?_
  refine lv_if_ne (tgt := 13) S.1 S.2.1 dX11_riskWith_8 (by decide) (fun c_8 => ?_) (fun c_8 => ?_)
  · skip
    have c_8 := bI_t c_8
    rw [k7] at c_8
    obtain ⟨j, h_j, rfl⟩ := isP_of c_8 (Nat.lt_of_le_of_lt (pow_256 b17) (by decide))
    have e_j : (nI j).toNatClampNeg = j := nI_clamp (by omega)
    refine lv_aload_n S.1 S.2.1 dX11_riskWith_13 rfl (lv_at hl 0 rfl) ?_
    refine rg (ci := 11) (q0 := 0) (v := .ref (q 3)) 2 S hK I cl_X11 rfl wf_X11_30 (by decide) rfl rfl rfl dX11_riskWith_14 ?_
    refine lv_iload_n S.1 S.2.1 dX11_riskWith_17 rfl (lv_at hl 1 rfl) ?_
    refine cV (np := 1) (ci := 4) (q0 := 3) (As := [.int (nI j)]) (rest := []) S (x_riskAfter l D cy q K C O L f N R j hW hrel hrm hrg) hK hA I wm_X11_179 wi_X4_riskAfter ws_X4_X4_riskAfter wn_X4 wk_X4_riskAfter ⟨rfl, hd_X4_riskAfter⟩ rfl ⟨by decide, by decide⟩ rfl rfl hl.1 rfl (Nat.le_of_ble_eq_true rfl) dX11_riskWith_18 ⟨by decide, by decide⟩ (fun v_ u_ H locs h_ I => ?_)
    obtain rfl := h_
    obtain ⟨v4_18, v5_18, v6_18, v9_18, v10_18, v11_18, v14_18⟩ := u_
    have I : IX D A s.heap (wX cy q (va_up (va_up (va_up K 4 v4_18) 5 v5_18) 6 v6_18) (va_up (va_up (va_up (va_up C 9 v9_18) 10 v10_18) 11 v11_18) 14 v14_18) O L f) H locs := I
    refine W.eq (g2 := F0 m 21 ls [.int (nI (rsk N R (vtF R j (N 17))))]) rfl ?_
    exact ru_i hQ S hr hlk (u := ((va_up (va_up (va_up K 4 v4_18) 5 v5_18) 6 v6_18), (va_up (va_up (va_up (va_up C 9 v9_18) 10 v10_18) 11 v11_18) 14 v14_18), O, L, f)) I (⟨(congrArg (fun z => some (Value.int z)) (by simp [sp_riskWith, c_8, e_j])), hrc⟩) dX11_riskWith_21
  · skip
    have c_8 := bI_f c_8
    rw [k7] at c_8
    refine lv_iconst (v := (-1)) S.1 S.2.1 dX11_riskWith_11 (by decide) ?_
    exact ru_i hQ S hr hlk (u := (K, C, O, L, f)) I (⟨(congrArg (fun z => some (Value.int z)) (by simp [sp_riskWith, c_8])), hrc⟩) dX11_riskWith_12
set_option maxHeartbeats 4000000 in
set_option maxRecDepth 100000 in
theorem x_sound (l : Launch) (D : va_G) (cy : Nat → ClassId) (q : Nat → Nat) (K : Nat → Nat) (C : Nat → Nat → Int32) (O : Nat → Nat → Option Nat) (L : List Nat) (f : Nat → va_E) (N : Nat → Nat) (R : Nat → Nat → Int32) (x : Int32) (hW : WFm N R) (hrc : RelC K C O L f N R) : MS (α := (Nat → Nat) × (Nat → Nat → Int32) × (Nat → Nat → Option Nat) × List Nat × (Nat → va_E)) l D cy yX11_sound cX11_sound 2 (Option.some FieldType.int) rm_X11_sound [.ref (q 0), .int x] (wX cy q K C O L f) (fun v_ u_ => v_ = some (.int (sp_sound N R x)) ∧ RelC u_.1 u_.2.1 u_.2.2.1 u_.2.2.2.1 u_.2.2.2.2 N R) (fun u_ => wX cy q u_.1 u_.2.1 u_.2.2.1 u_.2.2.2.1 u_.2.2.2.2) := by
  refine MS.mk2 (by decide) (Nat.le_of_ble_eq_true rfl) [(0, .ref (q 0)), (1, .int x)] rfl ?_
  intro p e s m args below meth c A ls Q hQ S hr hlk hnm hK hA I hl
  have hW0 := hW
  obtain ⟨hB, hPt, hBo, hH, hM, hQu⟩ := hW0
  have hB0 := hB
  obtain ⟨b0, b6, b17, b24, b30⟩ := hB0
  have hrc0 := hrc
  obtain ⟨hrel, hrg, hrm, hrp, hinj⟩ := hrc0
  have hrel0 := hrel
  obtain ⟨k0, k1, hC6, hK2, hC7, hHol⟩ := hrel0
  have hrm0 := hrm
  obtain ⟨k7, k8, hMe, hQe⟩ := hrm0
  have hrg0 := hrg
  obtain ⟨hC5, hG, hG3, hG2⟩ := hrg0
  have hp2 := pow_256 b17
  obtain ⟨k9, hC20, hK10, hC31⟩ := hrp
  have hgC : ∀ p, p < N 0 → C 5 p = R 1 p := fun p hp => hC5 p (by omega)
  refine lv_aload_n S.1 S.2.1 dX11_sound_0 rfl (lv_at hl 0 rfl) ?_
  refine rg (ci := 11) (q0 := 0) (v := .ref (q 3)) 2 S hK I cl_X11 rfl wf_X11_30 (by decide) rfl rfl rfl dX11_sound_1 ?_
  refine lv_iload_n S.1 S.2.1 dX11_sound_4 rfl (lv_at hl 1 rfl) ?_
  refine cV (np := 1) (ci := 4) (q0 := 3) (As := [.int x]) (rest := []) S (x_isSet l D cy q K C O L f x (by omega)) hK hA I wm_X11_176 wi_X4_isSet ws_X4_X4_isSet wn_X4 wk_X4_isSet ⟨rfl, hd_X4_isSet⟩ rfl ⟨by decide, by decide⟩ rfl rfl hl.1 rfl (Nat.le_of_ble_eq_true rfl) dX11_sound_5 ⟨by decide, by decide⟩ (fun v_ u_ H locs h_ I => ?_)
  obtain rfl := h_
  have I : IX D A s.heap (wX cy q K C O L f) H locs := I
  refine W.eq (g2 := F0 m 8 ls [.int (bI (isP (2 ^ (K 7)) x))]) rfl ?_
  refine lv_if_ne (tgt := 13) S.1 S.2.1 dX11_sound_8 (by decide) (fun c_8 => ?_) (fun c_8 => ?_)
  · skip
    have c_8 := bI_t c_8
    rw [k7] at c_8
    obtain ⟨j, h_j, rfl⟩ := isP_of c_8 (Nat.lt_of_le_of_lt (pow_256 b17) (by decide))
    have e_j : (nI j).toNatClampNeg = j := nI_clamp (by omega)
    refine lv_aload_n S.1 S.2.1 dX11_sound_13 rfl (lv_at hl 0 rfl) ?_
    refine rg (ci := 11) (q0 := 0) (v := .ref (q 3)) 2 S hK I cl_X11 rfl wf_X11_30 (by decide) rfl rfl rfl dX11_sound_14 ?_
    refine lv_iload_n S.1 S.2.1 dX11_sound_17 rfl (lv_at hl 1 rfl) ?_
    refine cV (np := 1) (ci := 4) (q0 := 3) (As := [.int (nI j)]) (rest := []) S (x_isSound l D cy q K C O L f N R j hW hrm hC5) hK hA I wm_X11_182 wi_X4_isSound ws_X4_X4_isSound wn_X4 wk_X4_isSound ⟨rfl, hd_X4_isSound⟩ rfl ⟨by decide, by decide⟩ rfl rfl hl.1 rfl (Nat.le_of_ble_eq_true rfl) dX11_sound_18 ⟨by decide, by decide⟩ (fun v_ u_ H locs h_ I => ?_)
    obtain rfl := h_
    generalize u_ = f14_18 at I
    have I : IX D A s.heap (wX cy q K (va_up C 14 f14_18) O L f) H locs := I
    refine W.eq (g2 := F0 m 21 ls [.int (bI (soB N R j))]) rfl ?_
    refine cS (np := 1) (As := [.int (bI (soB N R j))]) (rest := []) S (x_asNumber l D cy (wX cy q K (va_up C 14 f14_18) O L f) (soB N R j)) hK hA I wm_X11_69 wt_X11_asNumber wn_X11 wk_X11_asNumber ⟨rfl, hd_X11_asNumber⟩ rfl ⟨by decide, by decide⟩ hl.1 rfl (Nat.le_of_ble_eq_true rfl) dX11_sound_21 ⟨by decide, by decide⟩ (fun v_ u_ H locs h_ I => ?_)
    obtain rfl := h_
    have I : IX D A s.heap (wX cy q K (va_up C 14 f14_18) O L f) H locs := I
    refine W.eq (g2 := F0 m 24 ls [.int (bI (soB N R j))]) rfl ?_
    exact ru_i hQ S hr hlk (u := (K, (va_up C 14 f14_18), O, L, f)) I (⟨(congrArg (fun z => some (Value.int z)) (by simp [sp_sound, c_8, e_j])), hrc⟩) dX11_sound_24
  · skip
    have c_8 := bI_f c_8
    rw [k7] at c_8
    refine lv_iconst (v := (-1)) S.1 S.2.1 dX11_sound_11 (by decide) ?_
    exact ru_i hQ S hr hlk (u := (K, C, O, L, f)) I (⟨(congrArg (fun z => some (Value.int z)) (by simp [sp_sound, c_8])), hrc⟩) dX11_sound_12
