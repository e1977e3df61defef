section PLR
variable {N : Nat → Nat} {R : Nat → Nat → Int32} {ws : Nat} {hn : Int32} {C C2 : Nat → Nat → Int32}
theorem pl_15 (h : ∀ j, j < 21 → C2 j = C j) (q : P15 N R ws C) : P15 N R ws C2 := fun d hd hs => by rw [h 15 (by decide)]; exact q d hd hs
theorem pl_16 (h : ∀ j, j < 21 → C2 j = C j) (q : P16 N R ws hn C) : P16 N R ws hn C2 := fun d hd hs => by rw [h 16 (by decide)]; exact q d hd hs
theorem pl_18 (h : ∀ j, j < 21 → C2 j = C j) (q : P18 N R ws C) : P18 N R ws C2 := fun d hd => by rw [h 18 (by decide)]; exact q d hd
theorem RelN_cg {K2 : Nat → Nat} {K : Nat → Nat} {O : Nat → Nat → Option Nat} {L : List Nat} {f : Nat → va_E} (h : RelN K C O L f N R) (e0 : K2 0 = K 0) (e1 : K2 1 = K 1) (e2 : K2 2 = K 2) (c6 : C2 6 = C 6) (c7 : C2 7 = C 7) : RelN K2 C2 O L f N R := by
  unfold RelN lk at h ⊢
  rw [e0, e1, e2, c6, c7]
  exact h
theorem RelG_cg {K2 : Nat → Nat} {K : Nat → Nat} (h : RelG K C R) (e2 : K2 2 = K 2) (e3 : K2 3 = K 3) (c5 : C2 5 = C 5) : RelG K2 C2 R := by
  unfold RelG at h ⊢
  rw [e2, e3, c5]
  exact h
theorem RelM_cg {K2 : Nat → Nat} {K : Nat → Nat} {O : Nat → Nat → Option Nat} {L : List Nat} {f : Nat → va_E} (h : RelM K O L f N R) (e7 : K2 7 = K 7) (e8 : K2 8 = K 8) : RelM K2 O L f N R := by
  unfold RelM at h ⊢
  rw [e7, e8]
  exact h
theorem plan_rel {K2 : Nat → Nat} {K : Nat → Nat} {O : Nat → Nat → Option Nat} {L : List Nat} {f : Nat → va_E} {mvE : Nat} {g20E : Nat → Int32} (hrc : RelC K C O L f N R) (b17 : N 17 ≤ 8) (hdl : dnF N R ws hn ws < 2 ^ N 17) (hfw : ∀ k, k < 8 → g20E k = wnF N R ws hn ws k) (hfm : mvE < 256 ∧ ∀ k, k < 8 → mvE.testBit k = decide (¬ wnF N R ws hn ws k = R 31 k)) (e0 : K2 0 = K 0) (e1 : K2 1 = K 1) (e2 : K2 2 = K 2) (e3 : K2 3 = K 3) (e7 : K2 7 = K 7) (e8 : K2 8 = K 8) (e9 : K2 9 = K 9 + 1) (e10 : K2 10 = mvE) (c5 : C2 5 = C 5) (c6 : C2 6 = C 6) (c7 : C2 7 = C 7) (c20 : C2 20 = g20E) : RelC K2 C2 O L f (va_up N 30 (N 30 + 1)) (plR N R ws hn) := by
  obtain ⟨h1, h2, h3, h4, h5⟩ := hrc
  have hr : ∀ k, k < 8 → plR N R ws hn 31 k = wnF N R ws hn ws k := by
    intro k hk
    show (if k < N 17 then wnF N R ws hn ws k else if k < 8 then -4 else R 31 k) = _
    by_cases q : k < N 17
    · rw [if_pos q]
    · rw [if_neg q, if_pos hk, wn_out ws (Nat.testBit_lt_two_pow (Nat.lt_of_lt_of_le hdl (Nat.pow_le_pow_right (by decide) (by omega))))]
  have hr2 : ∀ k, k < 8 → plR N R ws hn 32 k = R 31 k := fun k hk => if_pos hk
  refine ⟨RelN_cg (N := va_up N 30 (N 30 + 1)) (R := plR N R ws hn) (C := C) (K := K) h1 e0 e1 e2 c6 c7, RelG_cg (R := plR N R ws hn) (C := C) (K := K) h2 e2 e3 c5, RelM_cg (N := va_up N 30 (N 30 + 1)) (R := plR N R ws hn) (K := K) h3 e7 e8, ⟨?_, ?_, ?_, ?_⟩, h5⟩
  · rw [e9, h4.1]; rfl
  · intro k hk; rw [c20, hfw k hk, hr k hk]
  · intro _
    rw [e10]
    refine eq_msk (n := 8) (fun z hz => ?_) hfm.1 (Nat.le_refl 8)
    rw [hfm.2 z hz, decide_eq_true hz, Bool.true_and]
    unfold mvB
    rw [hr z hz, hr2 z hz]
  · intro h; exact absurd h (Nat.succ_ne_zero _)
end PLR
set_option maxHeartbeats 4000000 in
set_option maxRecDepth 100000 in
theorem x_plan (l : Launch) (D : va_G) (cy : Nat → ClassId) (q : Nat → Nat) (K : Nat → Nat) (C : Nat → Nat → Int32) (O : Nat → Nat → Option Nat) (L : List Nat) (f : Nat → va_E) (N : Nat → Nat) (R : Nat → Nat → Int32) (w : Int32) (hn : Int32) (hW : WFm N R) (hrc : RelC K C O L f N R) : MS (α := (Nat → Nat) × (Nat → Nat → Int32) × (Nat → Nat → Option Nat) × List Nat × (Nat → va_E)) l D cy yX11_plan cX11_plan 3 (Option.some FieldType.int) rm_X11_plan [.ref (q 0), .int w, .int hn] (wX cy q K C O L f) (fun v_ u_ => v_ = some (.int (sp_plan N R w hn).1) ∧ RelC u_.1 u_.2.1 u_.2.2.1 u_.2.2.2.1 u_.2.2.2.2 (sp_plan N R w hn).2.1 (sp_plan N R w hn).2.2) (fun u_ => wX cy q u_.1 u_.2.1 u_.2.2.1 u_.2.2.2.1 u_.2.2.2.2) := by
  refine MS.mk2 (by decide) (Nat.le_of_ble_eq_true rfl) [(0, .ref (q 0)), (1, .int w), (2, .int hn)] rfl ?_
  intro p e s m args below meth c A ls Q hQ S hr hlk hnm hK hA I hl
  have hW0 := hW
  obtain ⟨hB, hPt, hBo, hH, hM, hQu⟩ := hW0
  have hB0 := hB
  obtain ⟨b0, b6, b17, b24, b30⟩ := hB0
  have hrc0 := hrc
  obtain ⟨hrel, hrg, hrm, hrp, hinj⟩ := hrc0
  have hrel0 := hrel
  obtain ⟨k0, k1, hC6, hK2, hC7, hHol⟩ := hrel0
  have hrm0 := hrm
  obtain ⟨k7, k8, hMe, hQe⟩ := hrm0
  have hrg0 := hrg
  obtain ⟨hC5, hG, hG3, hG2⟩ := hrg0
  have hp2 := pow_256 b17
  obtain ⟨k9, hC20, hK10, hC31⟩ := hrp
  have hgC : ∀ p, p < N 0 → C 5 p = R 1 p := fun p hp => hC5 p (by omega)
  refine lv_iload_n S.1 S.2.1 dX11_plan_0 rfl (lv_at hl 1 rfl) ?_
  refine lv_iconst (v := nI 1) S.1 S.2.1 dX11_plan_1 (by decide) ?_
  refine lv_bipush (v := nI 6) S.1 S.2.1 dX11_plan_2 (by decide) ?_
  refine cS (np := 3) (As := [.int w, .int (nI 1), .int (nI 6)]) (rest := []) S (x_isBetween l D cy (wX cy q K C O L f) w (nI 1) (nI 6)) hK hA I wm_X11_47 wt_X11_isBetween wn_X11 wk_X11_isBetween ⟨rfl, hd_X11_isBetween⟩ rfl ⟨by decide, by decide⟩ hl.1 rfl (Nat.le_of_ble_eq_true rfl) dX11_plan_4 ⟨by decide, by decide⟩ (fun v_ u_ H locs h_ I => ?_)
  obtain rfl := h_
  have I : IX D A s.heap (wX cy q K C O L f) H locs := I
  refine W.eq (g2 := F0 m 7 ls [.int (bI (inB w (nI 1) (nI 6)))]) rfl ?_
  refine lv_if_eq (tgt := 20) S.1 S.2.1 dX11_plan_7 (by decide) (fun c_7 => ?_) (fun c_7 => ?_)
  · skip
    have c_7 := bI_f c_7
    refine lv_iconst (v := (-1)) S.1 S.2.1 dX11_plan_20 (by decide) ?_
    exact ru_i hQ S hr hlk (u := (K, C, O, L, f)) I (by simp only [sp_plan]; rw [if_neg (by simp [c_7])]; exact ⟨rfl, hrc⟩) dX11_plan_21
  · skip
    have c_7 := bI_t c_7
    obtain ⟨ws, hws1, hws2, rfl⟩ := in16 c_7
    have e_ws : (nI ws).toNatClampNeg = ws := nI_clamp (by omega)
    refine lv_iload_n S.1 S.2.1 dX11_plan_10 rfl (lv_at hl 2 rfl) ?_
    refine lv_iconst (v := nI 0) S.1 S.2.1 dX11_plan_11 (by decide) ?_
    refine lv_bipush (v := nI 99) S.1 S.2.1 dX11_plan_12 (by decide) ?_
    refine cS (np := 3) (As := [.int hn, .int (nI 0), .int (nI 99)]) (rest := []) S (x_isBetween l D cy (wX cy q K C O L f) hn (nI 0) (nI 99)) hK hA I wm_X11_47 wt_X11_isBetween wn_X11 wk_X11_isBetween ⟨rfl, hd_X11_isBetween⟩ rfl ⟨by decide, by decide⟩ hl.1 rfl (Nat.le_of_ble_eq_true rfl) dX11_plan_14 ⟨by decide, by decide⟩ (fun v_ u_ H locs h_ I => ?_)
    obtain rfl := h_
    have I : IX D A s.heap (wX cy q K C O L f) H locs := I
    refine W.eq (g2 := F0 m 17 ls [.int (bI (inB hn (nI 0) (nI 99)))]) rfl ?_
    refine lv_if_ne (tgt := 22) S.1 S.2.1 dX11_plan_17 (by decide) (fun c_17 => ?_) (fun c_17 => ?_)
    · skip
      have c_17 := bI_t c_17
      refine lv_aload_n S.1 S.2.1 dX11_plan_22 rfl (lv_at hl 0 rfl) ?_
      refine rg (ci := 11) (q0 := 0) (v := .ref (q 3)) 2 S hK I cl_X11 rfl wf_X11_30 (by decide) rfl rfl rfl dX11_plan_23 ?_
      refine lv_iconst (v := nI 0) S.1 S.2.1 dX11_plan_26 (by decide) ?_
      refine cV (np := 1) (ci := 4) (q0 := 3) (As := [.int (nI 0)]) (rest := []) S (x_isSound l D cy q K C O L f N R 0 hW hrm hC5) hK hA I wm_X11_182 wi_X4_isSound ws_X4_X4_isSound wn_X4 wk_X4_isSound ⟨rfl, hd_X4_isSound⟩ rfl ⟨by decide, by decide⟩ rfl rfl hl.1 rfl (Nat.le_of_ble_eq_true rfl) dX11_plan_27 ⟨by decide, by decide⟩ (fun v_ u_ H locs h_ I => ?_)
      obtain rfl := h_
      generalize u_ = f14_27 at I
      have I : IX D A s.heap (wX cy q K (va_up C 14 f14_27) O L f) H locs := I
      refine W.eq (g2 := F0 m 30 ls [.int (bI (soB N R 0))]) rfl ?_
      refine lv_if_ne (tgt := 36) S.1 S.2.1 dX11_plan_30 (by decide) (fun c_30 => ?_) (fun c_30 => ?_)
      · skip
        have c_30 := bI_t c_30
        refine lv_aload_n S.1 S.2.1 dX11_plan_36 rfl (lv_at hl 0 rfl) ?_
        refine rg (ci := 11) (q0 := 0) (v := .ref (q 4)) 3 S hK I cl_X11 rfl wf_X11_39 (by decide) rfl rfl rfl dX11_plan_37 ?_
        refine lv_iload_n S.1 S.2.1 dX11_plan_40 rfl (lv_at hl 1 rfl) ?_
        refine lv_iload_n S.1 S.2.1 dX11_plan_41 rfl (lv_at hl 2 rfl) ?_
        refine cV (np := 2) (ci := 6) (q0 := 4) (As := [.int (nI ws), .int hn]) (rest := []) S (x_weighSets l D cy q K (va_up C 14 f14_27) O L f N R ws hn hW hrel hrm hrg (by omega)) hK hA I wm_X11_192 wi_X6_weighSets ws_X6_X6_weighSets wn_X6 wk_X6_weighSets ⟨rfl, hd_X6_weighSets⟩ rfl ⟨by decide, by decide⟩ rfl rfl hl.1 rfl (Nat.le_of_ble_eq_true rfl) dX11_plan_42 ⟨by decide, by decide⟩ (fun v_ u_ H locs h_ I => ?_)
        obtain ⟨rfl, q15, q16, q18, q19⟩ := h_
        obtain ⟨y15, y16, y18, y19, y4, y5, y6, y9, y10, y11, y14⟩ := u_
        have I : IX D A s.heap (wX cy q (va_up (va_up (va_up K 4 y4) 5 y5) 6 y6) (va_up (va_up (va_up (va_up (va_up (va_up (va_up (va_up C 9 y9) 10 y10) 11 y11) 14 y14) 15 y15) 16 y16) 18 y18) 19 y19) O L f) H locs := I
        refine W.eq (g2 := F0 m 45 ls []) rfl ?_
        refine lv_aload_n S.1 S.2.1 dX11_plan_45 rfl (lv_at hl 0 rfl) ?_
        refine rg (ci := 11) (q0 := 0) (v := .ref (q 4)) 3 S hK I cl_X11 rfl wf_X11_39 (by decide) rfl rfl rfl dX11_plan_46 ?_
        refine lv_iload_n S.1 S.2.1 dX11_plan_49 rfl (lv_at hl 1 rfl) ?_
        refine cV (np := 1) (ci := 6) (q0 := 4) (As := [.int (nI ws)]) (rest := []) S (x_findSums l D cy q (va_up (va_up (va_up K 4 y4) 5 y5) 6 y6) (va_up (va_up (va_up (va_up (va_up (va_up (va_up (va_up C 9 y9) 10 y10) 11 y11) 14 y14) 15 y15) 16 y16) 18 y18) 19 y19) O L f N R ws hn hW (by omega) c_17 q15 q16 q18 q19) hK hA I wm_X11_196 wi_X6_findSums ws_X6_X6_findSums wn_X6 wk_X6_findSums ⟨rfl, hd_X6_findSums⟩ rfl ⟨by decide, by decide⟩ rfl rfl hl.1 rfl (Nat.le_of_ble_eq_true rfl) dX11_plan_50 ⟨by decide, by decide⟩ (fun v_ u_ H locs h_ I => ?_)
        obtain ⟨rfl, hC2, hs2⟩ := h_
        generalize u_ = C2 at hC2 hs2 I
        have hC2 : ∀ j, j < 21 → C2 j = (va_up (va_up (va_up (va_up (va_up (va_up (va_up (va_up C 9 y9) 10 y10) 11 y11) 14 y14) 15 y15) 16 y16) 18 y18) 19 y19) j := hC2
        have hs2 : ∀ j, j ≤ ws → P21 N R ws hn j C2 := hs2
        have I : IX D A s.heap (wX cy q (va_up (va_up (va_up K 4 y4) 5 y5) 6 y6) C2 O L f) H locs := I
        refine W.eq (g2 := F0 m 53 ls []) rfl ?_
        refine lv_aload_n S.1 S.2.1 dX11_plan_53 rfl (lv_at hl 0 rfl) ?_
        refine rg (ci := 11) (q0 := 0) (v := .ref (q 4)) 3 S hK I cl_X11 rfl wf_X11_39 (by decide) rfl rfl rfl dX11_plan_54 ?_
        refine lv_iload_n S.1 S.2.1 dX11_plan_57 rfl (lv_at hl 1 rfl) ?_
        refine cV (np := 1) (ci := 6) (q0 := 4) (As := [.int (nI ws)]) (rest := []) S (x_fixWeeks l D cy q (va_up (va_up (va_up K 4 y4) 5 y5) 6 y6) C2 O L f N R ws hn hW (by omega) c_17 c_30 (pl_15 hC2 q15) (pl_16 hC2 q16) (pl_18 hC2 q18) hs2 (fun k hk => by rw [hC2 20 (by decide)]; exact hC20 k hk)) hK hA I wm_X11_200 wi_X6_fixWeeks ws_X6_X6_fixWeeks wn_X6 wk_X6_fixWeeks ⟨rfl, hd_X6_fixWeeks⟩ rfl ⟨by decide, by decide⟩ rfl rfl hl.1 rfl (Nat.le_of_ble_eq_true rfl) dX11_plan_58 ⟨by decide, by decide⟩ (fun v_ u_ H locs h_ I => ?_)
        obtain ⟨rfl, hfw, hfm⟩ := h_
        obtain ⟨mvE, g20E⟩ := u_
        have hfw : ∀ k, k < 8 → g20E k = wnF N R ws hn ws k := hfw
        have hfm : mvE < 256 ∧ ∀ k, k < 8 → mvE.testBit k = decide (¬ wnF N R ws hn ws k = R 31 k) := hfm
        have I : IX D A s.heap (wX cy q (va_up (va_up (va_up (va_up (va_up K 4 y4) 5 y5) 6 y6) 9 (K 9 + 1)) 10 mvE) (va_up C2 20 g20E) O L f) H locs := I
        refine W.eq (g2 := F0 m 61 ls []) rfl ?_
        refine lv_aload_n S.1 S.2.1 dX11_plan_61 rfl (lv_at hl 0 rfl) ?_
        refine rg (ci := 11) (q0 := 0) (v := .ref (q 4)) 3 S hK I cl_X11 rfl wf_X11_39 (by decide) rfl rfl rfl dX11_plan_62 ?_
        refine cV (np := 0) (ci := 6) (q0 := 4) (As := []) (rest := []) S (x_leastSum l D cy q (va_up (va_up (va_up (va_up (va_up K 4 y4) 5 y5) 6 y6) 9 (K 9 + 1)) 10 mvE) (va_up C2 20 g20E) O L f) hK hA I wm_X11_203 wi_X6_leastSum ws_X6_X6_leastSum wn_X6 wk_X6_leastSum ⟨rfl, hd_X6_leastSum⟩ rfl ⟨by decide, by decide⟩ rfl rfl hl.1 rfl (Nat.le_of_ble_eq_true rfl) dX11_plan_65 ⟨by decide, by decide⟩ (fun v_ u_ H locs h_ I => ?_)
        obtain rfl := h_
        have I : IX D A s.heap (wX cy q (va_up (va_up (va_up (va_up (va_up K 4 y4) 5 y5) 6 y6) 9 (K 9 + 1)) 10 mvE) (va_up C2 20 g20E) O L f) H locs := I
        refine W.eq (g2 := F0 m 68 ls [.int (C2 21 0)]) rfl ?_
        exact ru_i hQ S hr hlk (u := ((va_up (va_up (va_up (va_up (va_up K 4 y4) 5 y5) 6 y6) 9 (K 9 + 1)) 10 mvE), (va_up C2 20 g20E), O, L, f)) I (by rw [sp_plan, if_pos ⟨c_7, c_17⟩, if_pos c_30, e_ws]; exact ⟨congrArg (fun z => some (Value.int z)) (by have h9 := hs2 ws (Nat.le_refl ws) 0 (by decide) (sb_0 _) c_30; rw [Nat.sub_self] at h9; exact h9), plan_rel hrc b17 (dn_ok (ws := ws) hPt hB c_17 (by omega) c_30 ws).1 hfw hfm rfl rfl rfl rfl rfl rfl rfl rfl (hC2 5 (by decide)) (hC2 6 (by decide)) (hC2 7 (by decide)) rfl⟩) dX11_plan_68
      · skip
        have c_30 := bI_f c_30
        refine lv_bipush (v := (-2)) S.1 S.2.1 dX11_plan_33 (by decide) ?_
        exact ru_i hQ S hr hlk (u := (K, (va_up C 14 f14_27), O, L, f)) I (by rw [sp_plan, if_pos ⟨c_7, c_17⟩, if_neg (by rw [c_30]; exact Bool.false_ne_true)]; exact ⟨rfl, hrc⟩) dX11_plan_35
    · skip
      have c_17 := bI_f c_17
      refine lv_iconst (v := (-1)) S.1 S.2.1 dX11_plan_20 (by decide) ?_
      exact ru_i hQ S hr hlk (u := (K, C, O, L, f)) I (by simp only [sp_plan]; rw [if_neg (by simp [c_7, c_17])]; exact ⟨rfl, hrc⟩) dX11_plan_21
