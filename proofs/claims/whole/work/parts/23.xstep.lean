def RowC (N : Nat → Nat) (R : Nat → Nat → Int32) (g : Nat → Int32) (v : Nat → Nat) (r9 r10 r11 : Nat → Int32) : Prop := ∀ p, p < N 0 → 0 < v p → r9 p = nI (v p) ∧ r10 p = nI (nwH N R g (tkN (stF N R g (v p - 1))) p) ∧ r11 p = fmI N R (tkN (stF N R g (v p - 1))) p
theorem RelN_s {K : Nat → Nat} {C : Nat → Nat → Int32} {O : Nat → Nat → Option Nat} {L : List Nat} {f : Nat → va_E} {N : Nat → Nat} {R : Nat → Nat → Int32} {a b d : Nat} {x y z : Nat → Int32} (h : RelN K C O L f N R) : RelN (va_up (va_up (va_up K 4 a) 5 b) 6 d) (va_up (va_up (va_up C 9 x) 10 y) 11 z) O L f N R := h
theorem RowC_v {N : Nat → Nat} {R : Nat → Nat → Int32} {g : Nat → Int32} {v v2 : Nat → Nat} {a b c : Nat → Int32} (e : ∀ p, p < N 0 → v p = v2 p) (h : RowC N R g v a b c) : RowC N R g v2 a b c := by
  intro p hp
  rw [← e p hp]
  exact h p hp
theorem rt_lt {N : Nat → Nat} {R : Nat → Nat → Int32} {g : Nat → Int32} {T : Nat → Bool} {k h fr : Nat} {o9 o10 o11 r9 r10 r11 : Nat → Int32} (hB : Bd N) (hr : RowT N R g T k h fr o9 o10 o11 r9 r10 r11) : fr < 256 := by
  refine Nat.lt_pow_two_of_testBit fr (n := 8) (fun i hi => ?_)
  have := hB.1
  rw [hr.1 i, decide_eq_false (by omega), Bool.false_and]
theorem run_no {N : Nat → Nat} {R : Nat → Nat → Int32} {g : Nat → Int32} {k fr : Nat} {o9 o10 o11 r9 r10 r11 : Nat → Int32} (hr : RowT N R g (tkN (stF N R g k)) k (N 6) fr o9 o10 o11 r9 r10 r11) (h : fr = 0) : ∀ p, p < N 0 → nwB N R g (stF N R g k) p = false := by
  intro p hp
  have h1 := hr.1 p
  rw [h, Nat.zero_testBit, decide_eq_true hp, Bool.true_and, ts_nw] at h1
  exact h1.symm
theorem run_5 {N : Nat → Nat} {R : Nat → Nat → Int32} {g : Nat → Int32} {k k5 fr : Nat} {o9 o10 o11 r9 r10 r11 : Nat → Int32} (h5 : ∀ z, z < 8 → k5.testBit z = (decide (z < N 0) && tkN (stF N R g k) z)) (hr : RowT N R g (tkN (stF N R g k)) k (N 6) fr o9 o10 o11 r9 r10 r11) : ∀ z, z < 8 → (k5 ||| fr).testBit z = (decide (z < N 0) && tkN (stF N R g (k + 1)) z) := by
  intro z hz
  rw [Nat.testBit_or, h5 z hz, hr.1 z, ts_nw]
  unfold tkN
  by_cases n : nwB N R g (stF N R g k) z = true
  · rw [stF_yes n, n, decide_eq_true (Nat.succ_pos k)]
    cases decide (z < N 0) <;> simp
  · rw [stF_no (ts_nt n), ts_nt n, Bool.and_false, Bool.or_false]
theorem run_5e {N : Nat → Nat} {R : Nat → Nat → Int32} {g : Nat → Int32} {k k5 : Nat} (hf : ∀ p, p < N 0 → stF N R g k p = eS N R g p) (h5 : ∀ z, z < 8 → k5.testBit z = (decide (z < N 0) && tkN (stF N R g k) z)) : ∀ z, z < 8 → k5.testBit z = (decide (z < N 0) && tkN (eS N R g) z) := by
  intro z hz
  rw [h5 z hz]
  by_cases e : z < N 0
  · unfold tkN
    rw [hf z e]
  · rw [decide_eq_false e, Bool.false_and, Bool.false_and]
theorem run_row {N : Nat → Nat} {R : Nat → Nat → Int32} {g : Nat → Int32} {k fr : Nat} {o9 o10 o11 r9 r10 r11 : Nat → Int32} (ho : RowC N R g (stF N R g k) o9 o10 o11) (hr : RowT N R g (tkN (stF N R g k)) k (N 6) fr o9 o10 o11 r9 r10 r11) : RowC N R g (stF N R g (k + 1)) r9 r10 r11 := by
  intro p hp h0
  have h1 := hr.2 p hp
  rw [ts_nw] at h1
  by_cases n : nwB N R g (stF N R g k) p = true
  · rw [stF_yes n, Nat.add_sub_cancel]
    exact h1.1 n
  · have n2 := ts_nt n
    rw [stF_no n2] at h0 ⊢
    obtain ⟨a, b, c⟩ := h1.2 n2
    rw [a, b, c]
    exact ho p hp h0
theorem run_sum {N : Nat → Nat} {R : Nat → Nat → Int32} {g : Nat → Int32} {k k5 k6 : Nat} (hf : ∀ p, p < N 0 → stF N R g k p = eS N R g p) (h5 : ∀ z, z < 8 → k5.testBit z = (decide (z < N 0) && tkN (stF N R g k) z)) (hB : Bd N) (h6 : ∀ z, k6.testBit z = usF R g z (N 6)) : fb_sm (fun z => if k5.testBit z = true then (if k6.testBit z = true then 2 * wo R z else wo R z) else 0) (N 0) = rsk N R g := by
  unfold rsk
  refine fb_sm_cong (fun z hz => ?_)
  have := hB.1
  unfold rkF
  rw [h5 z (by omega), h6, decide_eq_true hz, Bool.true_and]
  unfold tkN
  rw [hf z hz]
  by_cases e : 0 < eS N R g z
  · rw [decide_eq_true e, if_pos rfl, if_pos e]
  · rw [decide_eq_false e, if_neg Bool.false_ne_true, if_neg e]
theorem ts_102 {N : Nat → Nat} {R : Nat → Nat → Int32} {g : Nat → Int32} {T : Nat → Bool} {h : Nat} (hrn : fmI N R T (wh R h) = -4) (z : Nat) : (decide (wh R h = z) && opB R g T h) = false ∨ fa_first (fun i => decide (wh R i = z) && opB R g T i) h < h ∨ T z = true ∨ fmI N R T z = -4 := by
  by_cases ez : z = wh R h
  · rw [ez]; exact Or.inr (Or.inr (Or.inr hrn))
  · exact Or.inl (by rw [decide_eq_false (fun y => ez y.symm), Bool.false_and])
theorem tk_93 {N : Nat → Nat} {T : Nat → Bool} {k5 fr w : Nat} (h5 : ∀ z, z < 8 → k5.testBit z = (decide (z < N 0) && T z)) (hw : w < N 0) (h8 : w < 8) (h : (k5 ||| fr).testBit w = false) : T w = false ∧ fr.testBit w = false := by
  rw [Nat.testBit_or, h5 w h8, decide_eq_true hw, Bool.true_and, Bool.or_eq_false_iff] at h
  exact h
theorem ts_93 {N : Nat → Nat} {R : Nat → Nat → Int32} {g : Nat → Int32} {T : Nat → Bool} {k5 k h fr : Nat} {o9 o10 o11 r9 r10 r11 : Nat → Int32} (h5 : ∀ z, z < 8 → k5.testBit z = (decide (z < N 0) && T z)) (hr : RowT N R g T k h fr o9 o10 o11 r9 r10 r11) (hw : wh R h < N 0) (h8 : wh R h < 8) (hc : (k5 ||| fr).testBit (wh R h) = true) (z : Nat) : (decide (wh R h = z) && opB R g T h) = false ∨ fa_first (fun i => decide (wh R i = z) && opB R g T i) h < h ∨ T z = true ∨ fmI N R T z = -4 := by
  by_cases ez : z = wh R h
  · subst ez
    rw [Nat.testBit_or, h5 _ h8, hr.1, decide_eq_true hw, Bool.true_and, Bool.true_and, Bool.or_eq_true] at hc
    rcases hc with hc | hc
    · exact Or.inr (Or.inr (Or.inl hc))
    · unfold tsB at hc
      rw [Bool.and_eq_true] at hc
      exact Or.inr (Or.inl (of_decide_eq_true hc.1))
  · exact Or.inl (by rw [decide_eq_false (fun y => ez y.symm), Bool.false_and])
set_option maxHeartbeats 4000000 in
set_option maxRecDepth 100000 in
theorem x_takeStep (l : Launch) (D : va_G) (cy : Nat → ClassId) (q : Nat → Nat) (K : Nat → Nat) (C : Nat → Nat → Int32) (O : Nat → Nat → Option Nat) (L : List Nat) (f : Nat → va_E) (N : Nat → Nat) (R : Nat → Nat → Int32) (hW : WFm N R) (hrel : RelN K C O L f N R) (gg : Nat → Int32) (k : Nat) (hk4 : K 4 = msk (stB R gg) (N 6)) (h5 : ∀ z, z < 8 → (K 5).testBit z = (decide (z < N 0) && tkN (stF N R gg k) z)) : MS (α := Nat × (Nat → Int32) × (Nat → Int32) × (Nat → Int32)) l D cy yX9_takeStep cX9_takeStep 7 (Option.some FieldType.int) rm_X9_takeStep [.ref (q 2), .int (nI (k + 1))] (wX cy q K C O L f) (fun v_ u_ => v_ = some (.int (nI u_.1)) ∧ RowT N R gg (tkN (stF N R gg k)) k (N 6) u_.1 (C 9) (C 10) (C 11) u_.2.1 u_.2.2.1 u_.2.2.2) (fun u_ => wX cy q K (va_up (va_up (va_up C 9 u_.2.1) 10 u_.2.2.1) 11 u_.2.2.2) O L f) := by
  refine MS.mk2 (by decide) (Nat.le_of_ble_eq_true rfl) [(0, .ref (q 2)), (1, .int (nI (k + 1)))] rfl ?_
  intro p e s m args below meth c A ls Q hQ S hr hlk hnm hK hA I hl
  have hW0 := hW
  obtain ⟨hB, hPt, hBo, hH, hM, hQu⟩ := hW0
  have hB0 := hB
  obtain ⟨b0, b6, b17, b24, b30⟩ := hB0
  have hrel0 := hrel
  obtain ⟨k0, k1, hC6, hK2, hC7, hHol⟩ := hrel0
  refine lv_iconst (v := nI 0) S.1 S.2.1 dX9_takeStep_0 (by decide) ?_
  refine lv_istore_n (lv' := [(2, .int (nI 0)), (0, .ref (q 2)), (1, .int (nI (k + 1)))]) S.1 S.2.1 dX9_takeStep_1 rfl hl (by decide) rfl (fun ls hl => ?_)
  refine lv_iconst (v := nI 0) S.1 S.2.1 dX9_takeStep_2 (by decide) ?_
  refine lv_istore_n (lv' := [(3, .int (nI 0)), (2, .int (nI 0)), (0, .ref (q 2)), (1, .int (nI (k + 1)))]) S.1 S.2.1 dX9_takeStep_3 rfl hl (by decide) rfl (fun ls hl => ?_)
  refine lv_iconst (v := nI 0) S.1 S.2.1 dX9_takeStep_4 (by decide) ?_
  refine lv_istore (lv' := [(4, .int (nI 0)), (3, .int (nI 0)), (2, .int (nI 0)), (0, .ref (q 2)), (1, .int (nI (k + 1)))]) S.1 S.2.1 dX9_takeStep_5 hl (by decide) rfl (fun ls hl => ?_)
  have loop_7 : ∀ (k_ : Nat) (h : Nat) (op : Nat) (fr : Nat) (r9 : Nat → Int32) (r10 : Nat → Int32) (r11 : Nat → Int32), N 6 - h < k_ → h ≤ N 6 → op = msk (opB R gg (tkN (stF N R gg k))) h → RowT N R gg (tkN (stF N R gg k)) k h fr (C 9) (C 10) (C 11) r9 r10 r11 → ∀ (H : Heap) (locs : List Loc) (ls : Array Slot), IX D A s.heap (wX cy q K (va_up (va_up (va_up C 9 r9) 10 r10) 11 r11) O L f) H locs → lv_has ls 7 [(0, .ref (q 2)), (1, .int (nI (k + 1))), (2, .int (nI op)), (3, .int (nI fr)), (4, .int (nI h))] → W p l e rm_X9_takeStep s m args below meth c H locs 0 0 Q (F0 m 7 ls []) := by
    intro k_
    induction k_ with
    | zero => intro h op fr r9 r10 r11 hm_; exact absurd hm_ (Nat.not_lt_zero _)
    | succ k_ ih_7 =>
      intro h op fr r9 r10 r11 hm_ hh hop hrt H locs ls I hl
      refine lv_iload S.1 S.2.1 dX9_takeStep_7 (lv_at hl 4 rfl) ?_
      refine lv_aload_n S.1 S.2.1 dX9_takeStep_9 rfl (lv_at hl 0 rfl) ?_
      refine rg (ci := 9) (q0 := 2) (v := .ref (q 1)) 0 S hK I cl_X9 rfl wf_X9_21 (by decide) rfl rfl rfl dX9_takeStep_10 ?_
      refine rg (ci := 5) (q0 := 1) (v := .int (nI (K 1))) 5 S hK I cl_X5 rfl wf_X9_59 (by decide) rfl rfl rfl dX9_takeStep_13 ?_
      refine lv_icmp_ge (tgt := 183) S.1 S.2.1 dX9_takeStep_16 (by decide) (fun c_16 => ?_) (fun c_16 => ?_)
      · skip
        have c_16o := c_16
        have c_16 := nI_cgeT (by omega) (by omega) c_16
        refine lv_iload_n S.1 S.2.1 dX9_takeStep_183 rfl (lv_at hl 3 rfl) ?_
        exact ru_i hQ S hr hlk (u := (fr, r9, r10, r11)) I (⟨rfl, by have e9 : h = N 6 := (by omega); rw [e9] at hrt; exact hrt⟩) dX9_takeStep_184
      · skip
        have c_16o := c_16
        have c_16 := nI_cgeF (by omega) (by omega) c_16
        refine lv_aload_n S.1 S.2.1 dX9_takeStep_19 rfl (lv_at hl 0 rfl) ?_
        refine rg (ci := 9) (q0 := 2) (v := .ref (q 1)) 0 S hK I cl_X9 rfl wf_X9_21 (by decide) rfl rfl rfl dX9_takeStep_20 ?_
        refine lv_iload S.1 S.2.1 dX9_takeStep_23 (lv_at hl 4 rfl) ?_
        obtain ⟨a, ho8, ha, hf⟩ := hHol h (by omega)
        have hkd := (hH h (by omega)).2.2.2.1
        have hwh := (hH h (by omega)).2.1
        refine cV (np := 1) (ci := 5) (q0 := 1) (As := [.int (nI h)]) (rest := []) S (x_holeAt l D cy q K (va_up (va_up (va_up C 9 r9) 10 r10) 11 r11) O L f (nI h) (show K 1 ≤ 12 by omega)) hK hA I wm_X9_62 wi_X5_holeAt ws_X5_X5_holeAt wn_X5 wk_X5_holeAt ⟨rfl, hd_X5_holeAt⟩ rfl ⟨by decide, by decide⟩ rfl rfl hl.1 rfl (Nat.le_of_ble_eq_true rfl) dX9_takeStep_25 ⟨by decide, by decide⟩ (fun v_ u_ H locs h_ I => ?_)
        obtain rfl := h_
        have I : IX D A s.heap (wX cy q K (va_up (va_up (va_up C 9 r9) 10 r10) 11 r11) O L f) H locs := I
        refine W.eq (g2 := F0 m 28 ls (va_rf (if isP (K 1) (nI h) = true then O 8 (nI h).toNatClampNeg else none) :: [])) rfl ?_
        refine tV (y := .ref a) (hat_some (K := K) (O := O) rfl (show h < K 1 by omega) (show K 1 ≤ 12 by omega) ho8) ?_
        refine lv_astore (lv' := [(5, .ref a), (0, .ref (q 2)), (1, .int (nI (k + 1))), (2, .int (nI op)), (3, .int (nI fr)), (4, .int (nI h))]) S.1 S.2.1 dX9_takeStep_28 hl (by decide) rfl (fun ls hl => ?_)
        refine lv_aload S.1 S.2.1 dX9_takeStep_30 (lv_at hl 0 rfl) ?_
        refine lv_ifnull S.1 S.2.1 dX9_takeStep_32 ?_
        refine lv_aload_n S.1 S.2.1 dX9_takeStep_35 rfl (lv_at hl 1 rfl) ?_
        refine rg (ci := 9) (q0 := 2) (v := .int (nI (K 4))) 4 S hK I cl_X9 rfl wf_X9_56 (by decide) rfl rfl rfl dX9_takeStep_36 ?_
        refine lv_iload S.1 S.2.1 dX9_takeStep_39 (lv_at hl 5 rfl) ?_
        refine cN (np := 2) (As := [.int (nI (K 4)), .int (nI h)]) (rest := []) S (x_isIn l D cy (wX cy q K (va_up (va_up (va_up C 9 r9) 10 r10) 11 r11) O L f) (K 4) h (by omega)) hK hA I (by decide +kernel) wt_X11_isIn wn_X11 wk_X11_isIn hd_X11_isIn rfl ⟨by decide, by decide⟩ hl.1 rfl (Nat.le_of_ble_eq_true rfl) dX9_takeStep_41 ⟨by decide, by decide⟩ (fun v_ u_ H locs h_ I => ?_)
        obtain rfl := h_
        have I : IX D A s.heap (wX cy q K (va_up (va_up (va_up C 9 r9) 10 r10) 11 r11) O L f) H locs := I
        refine W.eq (g2 := F0 m 44 ls [.int (bI ((K 4).testBit h))]) rfl ?_
        refine tI (y := bI (stB R gg h)) (by rw [hk4, msk_bit, decide_eq_true (show h < N 6 by omega), Bool.true_and]) ?_
        refine lv_if_eq (tgt := 177) S.1 S.2.1 dX9_takeStep_44 (by decide) (fun c_44 => ?_) (fun c_44 => ?_)
        · skip
          have c_44 := bI_f c_44
          have hopn : (opB R gg (tkN (stF N R gg k))) h = false := by rw [op_step hH (by omega), c_44]; rfl
          refine lv_iinc (v := nI (h + 1)) (lv' := [(4, .int (nI (h + 1))), (5, .ref a), (0, .ref (q 2)), (1, .int (nI (k + 1))), (2, .int (nI op)), (3, .int (nI fr))]) S.1 S.2.1 dX9_takeStep_177 hl (k := 5) rfl (nI_1 _) (by decide) rfl (fun ls hl => ?_)
          refine lv_goto (tgt := 7) S.1 S.2.1 dX9_takeStep_180 (by decide) ?_
          exact ih_7 (h + 1) op fr r9 r10 r11 (by omega) (by omega) (by rw [msk, ← hop, hopn, if_neg Bool.false_ne_true, Nat.or_zero]) (rt_no hrt (fun z hz => Or.inl (by rw [hopn, Bool.and_false]))) _ _ _ I (lv_sub hl [2, 3, 4, 5, 0] rfl)
        · skip
          have c_44 := bI_t c_44
          have hch : kd R h = 1 → ch R h < 31 ∧ ∃ z, z < 31 ∧ R 8 (ch R h) = nI z := fun h1 => by have hc := ((hH h (by omega)).2.2.2.2 h1).2; have hw := (hH (ch R h) (by omega)); exact ⟨by omega, wh R (ch R h), by have := hw.2.1; omega, hw.1⟩
          refine lv_aload S.1 S.2.1 dX9_takeStep_47 (lv_at hl 0 rfl) ?_
          refine lv_aload_n S.1 S.2.1 dX9_takeStep_49 rfl (lv_at hl 1 rfl) ?_
          refine rg (ci := 9) (q0 := 2) (v := .int (nI (K 4))) 4 S hK I cl_X9 rfl wf_X9_56 (by decide) rfl rfl rfl dX9_takeStep_50 ?_
          refine lv_iload_n S.1 S.2.1 dX9_takeStep_53 rfl (lv_at hl 3 rfl) ?_
          refine lv_aload_n S.1 S.2.1 dX9_takeStep_54 rfl (lv_at hl 1 rfl) ?_
          refine rg (ci := 9) (q0 := 2) (v := .int (nI (K 5))) 5 S hK I cl_X9 rfl wf_X9_29 (by decide) rfl rfl rfl dX9_takeStep_55 ?_
          refine cFR (rest := []) (st0 := K 4) (op := op) (tk := K 5) (t := ch R h) S hK hA I wm_X9_80 hkd ha hf hch ⟨by decide, by decide⟩ ⟨by decide, by decide⟩ hl.1 (Nat.le_of_ble_eq_true rfl) dX9_takeStep_58 (fun H locs I => ?_)
          refine W.eq (g2 := F0 m 61 ls [.int (bI (hFr (kd R h) (R 8 h) (R 8 (ch R h)) (ch R h) (K 4) op (K 5)))]) rfl ?_
          refine tI (y := bI ((opB R gg (tkN (stF N R gg k))) h)) (congrArg bI (by rw [hk4, hop]; exact hFr_op hB hH (by omega) c_44 h5)) ?_
          refine lv_if_ne (tgt := 67) S.1 S.2.1 dX9_takeStep_61 (by decide) (fun c_61 => ?_) (fun c_61 => ?_)
          · skip
            have c_61 := bI_t c_61
            have hopn := c_61
            refine lv_iload_n S.1 S.2.1 dX9_takeStep_67 rfl (lv_at hl 3 rfl) ?_
            refine lv_iload S.1 S.2.1 dX9_takeStep_68 (lv_at hl 5 rfl) ?_
            refine cN (np := 1) (As := [.int (nI h)]) (rest := [.int (nI op)]) S (x_bit l D cy (wX cy q K (va_up (va_up (va_up C 9 r9) 10 r10) 11 r11) O L f) h (by omega)) hK hA I (by decide +kernel) wt_X11_bit wn_X11 wk_X11_bit hd_X11_bit rfl ⟨by decide, by decide⟩ hl.1 rfl (Nat.le_of_ble_eq_true rfl) dX9_takeStep_70 ⟨by decide, by decide⟩ (fun v_ u_ H locs h_ I => ?_)
            obtain rfl := h_
            have I : IX D A s.heap (wX cy q K (va_up (va_up (va_up C 9 r9) 10 r10) 11 r11) O L f) H locs := I
            refine W.eq (g2 := F0 m 73 ls [.int (nI (2 ^ h)), .int (nI op)]) rfl ?_
            refine lv_ior S.1 S.2.1 dX9_takeStep_73 ?_
            refine tI (y := nI (op ||| (2 ^ h))) (fa_or _ _) ?_
            refine lv_istore_n (lv' := [(2, .int (nI (op ||| (2 ^ h)))), (5, .ref a), (0, .ref (q 2)), (1, .int (nI (k + 1))), (3, .int (nI fr)), (4, .int (nI h))]) S.1 S.2.1 dX9_takeStep_74 rfl hl (by decide) rfl (fun ls hl => ?_)
            refine lv_aload S.1 S.2.1 dX9_takeStep_75 (lv_at hl 1 rfl) ?_
            refine rgH 0 (by decide) S hK I wf_X9_66 ha hf rfl dX9_takeStep_77 ?_
            refine tI (y := nI (wh R h)) ((hH h (by omega)).1) ?_
            refine lv_istore (lv' := [(6, .int (nI (wh R h))), (2, .int (nI (op ||| (2 ^ h)))), (5, .ref a), (0, .ref (q 2)), (1, .int (nI (k + 1))), (3, .int (nI fr)), (4, .int (nI h))]) S.1 S.2.1 dX9_takeStep_80 hl (by decide) rfl (fun ls hl => ?_)
            refine lv_aload_n S.1 S.2.1 dX9_takeStep_82 rfl (lv_at hl 3 rfl) ?_
            refine rg (ci := 9) (q0 := 2) (v := .int (nI (K 5))) 5 S hK I cl_X9 rfl wf_X9_29 (by decide) rfl rfl rfl dX9_takeStep_83 ?_
            refine lv_iload_n S.1 S.2.1 dX9_takeStep_86 rfl (lv_at hl 5 rfl) ?_
            refine lv_ior S.1 S.2.1 dX9_takeStep_87 ?_
            refine tI (y := nI ((K 5) ||| fr)) (fa_or _ _) ?_
            refine lv_iload S.1 S.2.1 dX9_takeStep_88 (lv_at hl 0 rfl) ?_
            refine cN (np := 2) (As := [.int (nI ((K 5) ||| fr)), .int (nI (wh R h))]) (rest := []) S (x_isIn l D cy (wX cy q K (va_up (va_up (va_up C 9 r9) 10 r10) 11 r11) O L f) ((K 5) ||| fr) (wh R h) (by omega)) hK hA I (by decide +kernel) wt_X11_isIn wn_X11 wk_X11_isIn hd_X11_isIn rfl ⟨by decide, by decide⟩ hl.1 rfl (Nat.le_of_ble_eq_true rfl) dX9_takeStep_90 ⟨by decide, by decide⟩ (fun v_ u_ H locs h_ I => ?_)
            obtain rfl := h_
            have I : IX D A s.heap (wX cy q K (va_up (va_up (va_up C 9 r9) 10 r10) 11 r11) O L f) H locs := I
            refine W.eq (g2 := F0 m 93 ls [.int (bI (((K 5) ||| fr).testBit (wh R h)))]) rfl ?_
            refine lv_if_ne (tgt := 177) S.1 S.2.1 dX9_takeStep_93 (by decide) (fun c_93 => ?_) (fun c_93 => ?_)
            · skip
              have c_93 := bI_t c_93
              refine lv_iinc (v := nI (h + 1)) (lv' := [(4, .int (nI (h + 1))), (6, .int (nI (wh R h))), (2, .int (nI (op ||| (2 ^ h)))), (5, .ref a), (0, .ref (q 2)), (1, .int (nI (k + 1))), (3, .int (nI fr))]) S.1 S.2.1 dX9_takeStep_177 hl (k := 6) rfl (nI_1 _) (by decide) rfl (fun ls hl => ?_)
              refine lv_goto (tgt := 7) S.1 S.2.1 dX9_takeStep_180 (by decide) ?_
              exact ih_7 (h + 1) (op ||| (2 ^ h)) fr r9 r10 r11 (by omega) (by omega) (by rw [msk, ← hop, hopn, if_pos rfl]) (rt_no hrt (fun z hz => ts_93 h5 hrt hwh (by omega) c_93 z)) _ _ _ I (lv_sub hl [4, 5, 2, 6, 0] rfl)
            · skip
              have c_93 := bI_f c_93
              refine lv_aload_n S.1 S.2.1 dX9_takeStep_96 rfl (lv_at hl 3 rfl) ?_
              refine lv_iload S.1 S.2.1 dX9_takeStep_97 (lv_at hl 0 rfl) ?_
              refine cV (np := 1) (ci := 9) (q0 := 2) (As := [.int (nI (wh R h))]) (rest := []) S (x_isReached l D cy q K (va_up (va_up (va_up C 9 r9) 10 r10) 11 r11) O L f (wh R h) (by omega) (hC7 _ (by omega)).1 (hC7 _ (by omega)).2.1) hK hA I wm_X9_84 wi_X9_isReached ws_X9_X9_isReached wn_X9 wk_X9_isReached ⟨rfl, hd_X9_isReached⟩ rfl ⟨by decide, by decide⟩ rfl rfl hl.1 rfl (Nat.le_of_ble_eq_true rfl) dX9_takeStep_99 ⟨by decide, by decide⟩ (fun v_ u_ H locs h_ I => ?_)
              obtain rfl := h_
              have I : IX D A s.heap (wX cy q K (va_up (va_up (va_up C 9 r9) 10 r10) 11 r11) O L f) H locs := I
              refine W.eq (g2 := F0 m 102 ls [.int (bI ((K 2).testBit (wh R h) || decide (¬ lk C (wh R h) &&& K 5 = 0)))]) rfl ?_
              refine tI (y := bI (decide (¬ fmI N R (tkN (stF N R gg k)) (wh R h) = -4))) (congrArg bI (rch_eq hB (by omega) (hK2 _ (by omega)) (hC7 _ (by omega)).2 h5)) ?_
              refine lv_if_ne (tgt := 108) S.1 S.2.1 dX9_takeStep_102 (by decide) (fun c_102 => ?_) (fun c_102 => ?_)
              · skip
                have c_102 := bI_t c_102
                have hrm : ¬ fmI N R (tkN (stF N R gg k)) (wh R h) = -4 := of_decide_eq_true c_102
                have hTf := (tk_93 h5 hwh (by omega) c_93).1
                have hff := (tk_93 h5 hwh (by omega) c_93).2
                refine lv_iload_n S.1 S.2.1 dX9_takeStep_108 rfl (lv_at hl 5 rfl) ?_
                refine lv_iload S.1 S.2.1 dX9_takeStep_109 (lv_at hl 0 rfl) ?_
                refine cN (np := 1) (As := [.int (nI (wh R h))]) (rest := [.int (nI fr)]) S (x_bit l D cy (wX cy q K (va_up (va_up (va_up C 9 r9) 10 r10) 11 r11) O L f) (wh R h) (by omega)) hK hA I (by decide +kernel) wt_X11_bit wn_X11 wk_X11_bit hd_X11_bit rfl ⟨by decide, by decide⟩ hl.1 rfl (Nat.le_of_ble_eq_true rfl) dX9_takeStep_111 ⟨by decide, by decide⟩ (fun v_ u_ H locs h_ I => ?_)
                obtain rfl := h_
                have I : IX D A s.heap (wX cy q K (va_up (va_up (va_up C 9 r9) 10 r10) 11 r11) O L f) H locs := I
                refine W.eq (g2 := F0 m 114 ls [.int (nI (2 ^ (wh R h))), .int (nI fr)]) rfl ?_
                refine lv_ior S.1 S.2.1 dX9_takeStep_114 ?_
                refine tI (y := nI (fr ||| (2 ^ (wh R h)))) (fa_or _ _) ?_
                refine lv_istore_n (lv' := [(3, .int (nI (fr ||| (2 ^ (wh R h))))), (6, .int (nI (wh R h))), (2, .int (nI (op ||| (2 ^ h)))), (5, .ref a), (0, .ref (q 2)), (1, .int (nI (k + 1))), (4, .int (nI h))]) S.1 S.2.1 dX9_takeStep_115 rfl hl (by decide) rfl (fun ls hl => ?_)
                refine lv_aload_n S.1 S.2.1 dX9_takeStep_116 rfl (lv_at hl 4 rfl) ?_
                refine rg (ci := 9) (q0 := 2) (v := .ref (q 9)) 1 S hK I cl_X9 rfl wf_X9_9 (by decide) rfl rfl rfl dX9_takeStep_117 ?_
                refine lv_iload S.1 S.2.1 dX9_takeStep_120 (lv_at hl 1 rfl) ?_
                refine lv_iload_n S.1 S.2.1 dX9_takeStep_122 rfl (lv_at hl 5 rfl) ?_
                refine si (q0 := 9) (n := 8) (f := r9) (wh R h) S hK I rfl rfl (by omega) (by decide) dX9_takeStep_123 (fun H locs I => ?_)
                have I : IX D A s.heap (wX cy q K (va_up (va_up (va_up C 9 (upd r9 (wh R h) (nI (k + 1)))) 10 r10) 11 r11) O L f) H locs := I
                refine lv_aload_n S.1 S.2.1 dX9_takeStep_124 rfl (lv_at hl 4 rfl) ?_
                refine rg (ci := 9) (q0 := 2) (v := .ref (q 10)) 2 S hK I cl_X9 rfl wf_X9_15 (by decide) rfl rfl rfl dX9_takeStep_125 ?_
                refine lv_iload S.1 S.2.1 dX9_takeStep_128 (lv_at hl 1 rfl) ?_
                refine lv_iload S.1 S.2.1 dX9_takeStep_130 (lv_at hl 6 rfl) ?_
                refine si (q0 := 10) (n := 8) (f := r10) (wh R h) S hK I rfl rfl (by omega) (by decide) dX9_takeStep_132 (fun H locs I => ?_)
                have I : IX D A s.heap (wX cy q K (va_up (va_up (va_up C 9 (upd r9 (wh R h) (nI (k + 1)))) 10 (upd r10 (wh R h) (nI h))) 11 r11) O L f) H locs := I
                refine lv_aload_n S.1 S.2.1 dX9_takeStep_133 rfl (lv_at hl 4 rfl) ?_
                refine rg (ci := 9) (q0 := 2) (v := .ref (q 11)) 3 S hK I cl_X9 rfl wf_X9_18 (by decide) rfl rfl rfl dX9_takeStep_134 ?_
                refine lv_iload S.1 S.2.1 dX9_takeStep_137 (lv_at hl 1 rfl) ?_
                refine lv_aload_n S.1 S.2.1 dX9_takeStep_139 rfl (lv_at hl 4 rfl) ?_
                refine rg (ci := 9) (q0 := 2) (v := .ref (q 1)) 0 S hK I cl_X9 rfl wf_X9_21 (by decide) rfl rfl rfl dX9_takeStep_140 ?_
                refine rg (ci := 5) (q0 := 1) (v := .int (nI (K 2))) 6 S hK I cl_X5 rfl wf_X9_88 (by decide) rfl rfl rfl dX9_takeStep_143 ?_
                refine lv_iload S.1 S.2.1 dX9_takeStep_146 (lv_at hl 1 rfl) ?_
                refine cN (np := 2) (As := [.int (nI (K 2)), .int (nI (wh R h))]) (rest := [.int (nI (wh R h)), .ref (q 11)]) S (x_isIn l D cy (wX cy q K (va_up (va_up (va_up C 9 (upd r9 (wh R h) (nI (k + 1)))) 10 (upd r10 (wh R h) (nI h))) 11 r11) O L f) (K 2) (wh R h) (by omega)) hK hA I (by decide +kernel) wt_X11_isIn wn_X11 wk_X11_isIn hd_X11_isIn rfl ⟨by decide, by decide⟩ hl.1 rfl (Nat.le_of_ble_eq_true rfl) dX9_takeStep_148 ⟨by decide, by decide⟩ (fun v_ u_ H locs h_ I => ?_)
                obtain rfl := h_
                have I : IX D A s.heap (wX cy q K (va_up (va_up (va_up C 9 (upd r9 (wh R h) (nI (k + 1)))) 10 (upd r10 (wh R h) (nI h))) 11 r11) O L f) H locs := I
                refine W.eq (g2 := F0 m 151 ls [.int (bI ((K 2).testBit (wh R h))), .int (nI (wh R h)), .ref (q 11)]) rfl ?_
                have join_176 : ∀ (_ : Unit), ∀ (H : Heap) (locs : List Loc) (ls : Array Slot), IX D A s.heap (wX cy q K (va_up (va_up (va_up C 9 (upd r9 (wh R h) (nI (k + 1)))) 10 (upd r10 (wh R h) (nI h))) 11 r11) O L f) H locs → lv_has ls 7 [(3, .int (nI (fr ||| (2 ^ (wh R h))))), (6, .int (nI (wh R h))), (2, .int (nI (op ||| (2 ^ h)))), (5, .ref a), (0, .ref (q 2)), (1, .int (nI (k + 1))), (4, .int (nI h))] → W p l e rm_X9_takeStep s m args below meth c H locs 0 0 Q (F0 m 176 ls [.int (fmI N R (tkN (stF N R gg k)) (wh R h)), .int (nI (wh R h)), .ref (q 11)]) := by
                  intro _  H locs ls I hl
                  refine si (q0 := 11) (n := 8) (f := r11) (wh R h) S hK I rfl rfl (by omega) (by decide) dX9_takeStep_176 (fun H locs I => ?_)
                  have I : IX D A s.heap (wX cy q K (va_up (va_up (va_up C 9 (upd r9 (wh R h) (nI (k + 1)))) 10 (upd r10 (wh R h) (nI h))) 11 (upd r11 (wh R h) (fmI N R (tkN (stF N R gg k)) (wh R h)))) O L f) H locs := I
                  refine lv_iinc (v := nI (h + 1)) (lv' := [(4, .int (nI (h + 1))), (3, .int (nI (fr ||| (2 ^ (wh R h))))), (6, .int (nI (wh R h))), (2, .int (nI (op ||| (2 ^ h)))), (5, .ref a), (0, .ref (q 2)), (1, .int (nI (k + 1)))]) S.1 S.2.1 dX9_takeStep_177 hl (k := 6) rfl (nI_1 _) (by decide) rfl (fun ls hl => ?_)
                  refine lv_goto (tgt := 7) S.1 S.2.1 dX9_takeStep_180 (by decide) ?_
                  exact ih_7 (h + 1) (op ||| (2 ^ h)) (fr ||| (2 ^ (wh R h))) (upd r9 (wh R h) (nI (k + 1))) (upd r10 (wh R h) (nI h)) (upd r11 (wh R h) (fmI N R (tkN (stF N R gg k)) (wh R h))) (by omega) (by omega) (by rw [msk, ← hop, hopn, if_pos rfl]) (rt_yes hrt hwh hopn hTf hff hrm rfl) _ _ _ I (lv_sub hl [5, 6, 3, 1, 0] rfl)
                refine lv_if_eq (tgt := 158) S.1 S.2.1 dX9_takeStep_151 (by decide) (fun c_151 => ?_) (fun c_151 => ?_)
                · skip
                  have c_151 := bI_f c_151
                  refine lv_aload_n S.1 S.2.1 dX9_takeStep_158 rfl (lv_at hl 4 rfl) ?_
                  refine rg (ci := 9) (q0 := 2) (v := .ref (q 1)) 0 S hK I cl_X9 rfl wf_X9_21 (by decide) rfl rfl rfl dX9_takeStep_159 ?_
                  refine rg (ci := 5) (q0 := 1) (v := .ref (q 7)) 2 S hK I cl_X5 rfl wf_X9_91 (by decide) rfl rfl rfl dX9_takeStep_162 ?_
                  refine lv_iload S.1 S.2.1 dX9_takeStep_165 (lv_at hl 1 rfl) ?_
                  refine ri (q0 := 7) (n := 8) (f := C 7) (wh R h) S hK I rfl rfl (by omega) (by decide) dX9_takeStep_167 ?_
                  refine tI (y := nI (lk C (wh R h))) ((hC7 _ (by omega)).1) ?_
                  refine lv_aload_n S.1 S.2.1 dX9_takeStep_168 rfl (lv_at hl 4 rfl) ?_
                  refine rg (ci := 9) (q0 := 2) (v := .int (nI (K 5))) 5 S hK I cl_X9 rfl wf_X9_29 (by decide) rfl rfl rfl dX9_takeStep_169 ?_
                  refine lv_iand S.1 S.2.1 dX9_takeStep_172 ?_
                  refine tI (y := nI (lk C (wh R h) &&& K 5)) (fa_and _ _) ?_
                  refine cS (np := 1) (As := [.int (nI (lk C (wh R h) &&& K 5))]) (rest := [.int (nI (wh R h)), .ref (q 11)]) S (x_leastOf l D cy (wX cy q K (va_up (va_up (va_up C 9 (upd r9 (wh R h) (nI (k + 1)))) 10 (upd r10 (wh R h) (nI h))) 11 r11) O L f) (lk C (wh R h) &&& K 5)) hK hA I wm_X9_94 wt_X9_leastOf wn_X9 wk_X9_leastOf ⟨rfl, hd_X9_leastOf⟩ rfl ⟨by decide, by decide⟩ hl.1 rfl (Nat.le_of_ble_eq_true rfl) dX9_takeStep_173 ⟨by decide, by decide⟩ (fun v_ u_ H locs h_ I => ?_)
                  obtain rfl := h_
                  have I : IX D A s.heap (wX cy q K (va_up (va_up (va_up C 9 (upd r9 (wh R h) (nI (k + 1)))) 10 (upd r10 (wh R h) (nI h))) 11 r11) O L f) H locs := I
                  refine W.eq (g2 := F0 m 176 ls [.int (loI (lk C (wh R h) &&& K 5)), .int (nI (wh R h)), .ref (q 11)]) rfl ?_
                  refine tI (y := fmI N R (tkN (stF N R gg k)) (wh R h)) (by have h3 := hK2 (wh R h) (by omega); rw [c_151] at h3; exact lo_fr hB (Classical.not_not.mp (of_decide_eq_false h3.symm)) hrm (hC7 _ (by omega)).2.2 h5) ?_
                  exact join_176 ()  _ _ _ I (lv_sub hl [0, 1, 2, 3, 4, 5, 6] rfl)
                · skip
                  have c_151 := bI_t c_151
                  refine lv_iconst (v := (-1)) S.1 S.2.1 dX9_takeStep_154 (by decide) ?_
                  refine lv_goto (tgt := 176) S.1 S.2.1 dX9_takeStep_155 (by decide) ?_
                  refine tI (y := fmI N R (tkN (stF N R gg k)) (wh R h)) (by have h3 := hK2 (wh R h) (by omega); rw [c_151] at h3; rw [fmI, if_neg (of_decide_eq_true h3.symm)]) ?_
                  exact join_176 ()  _ _ _ I (lv_sub hl [0, 1, 2, 3, 4, 5, 6] rfl)
              · skip
                have c_102 := bI_f c_102
                have hrn : fmI N R (tkN (stF N R gg k)) (wh R h) = -4 := Classical.not_not.mp (of_decide_eq_false c_102)
                refine lv_goto (tgt := 177) S.1 S.2.1 dX9_takeStep_105 (by decide) ?_
                refine lv_iinc (v := nI (h + 1)) (lv' := [(4, .int (nI (h + 1))), (6, .int (nI (wh R h))), (2, .int (nI (op ||| (2 ^ h)))), (5, .ref a), (0, .ref (q 2)), (1, .int (nI (k + 1))), (3, .int (nI fr))]) S.1 S.2.1 dX9_takeStep_177 hl (k := 6) rfl (nI_1 _) (by decide) rfl (fun ls hl => ?_)
                refine lv_goto (tgt := 7) S.1 S.2.1 dX9_takeStep_180 (by decide) ?_
                exact ih_7 (h + 1) (op ||| (2 ^ h)) fr r9 r10 r11 (by omega) (by omega) (by rw [msk, ← hop, hopn, if_pos rfl]) (rt_no hrt (fun z hz => ts_102 hrn z)) _ _ _ I (lv_sub hl [4, 5, 2, 6, 0] rfl)
          · skip
            have c_61 := bI_f c_61
            have hopn := c_61
            refine lv_goto (tgt := 177) S.1 S.2.1 dX9_takeStep_64 (by decide) ?_
            refine lv_iinc (v := nI (h + 1)) (lv' := [(4, .int (nI (h + 1))), (5, .ref a), (0, .ref (q 2)), (1, .int (nI (k + 1))), (2, .int (nI op)), (3, .int (nI fr))]) S.1 S.2.1 dX9_takeStep_177 hl (k := 5) rfl (nI_1 _) (by decide) rfl (fun ls hl => ?_)
            refine lv_goto (tgt := 7) S.1 S.2.1 dX9_takeStep_180 (by decide) ?_
            exact ih_7 (h + 1) op fr r9 r10 r11 (by omega) (by omega) (by rw [msk, ← hop, hopn, if_neg Bool.false_ne_true, Nat.or_zero]) (rt_no hrt (fun z hz => Or.inl (by rw [hopn, Bool.and_false]))) _ _ _ I (lv_sub hl [2, 3, 4, 5, 0] rfl)
  exact loop_7 _ 0 0 0 (C 9) (C 10) (C 11) (Nat.lt_succ_self _) (Nat.zero_le _) rfl rt_0 _ _ _ I (lv_sub hl [3, 4, 2, 1, 0] rfl)
set_option maxHeartbeats 4000000 in
set_option maxRecDepth 100000 in
theorem x_run (l : Launch) (D : va_G) (cy : Nat → ClassId) (q : Nat → Nat) (K : Nat → Nat) (C : Nat → Nat → Int32) (O : Nat → Nat → Option Nat) (L : List Nat) (f : Nat → va_E) (N : Nat → Nat) (R : Nat → Nat → Int32) (hW : WFm N R) (hrel : RelN K C O L f N R) (vi G : Nat) (hv : vi = 5 ∨ vi = 14) (hG : ∀ p, p < 8 → G.testBit p = decide (¬ R 4 p = 0)) : MS (α := Nat × Nat × Nat × (Nat → Int32) × (Nat → Int32) × (Nat → Int32)) l D cy yX9_run cX9_run 5 (Option.some FieldType.int) rm_X9_run [.ref (q 2), .ref (q vi), .int (nI G)] (wX cy q K C O L f) (fun v_ u_ => v_ = some (.int (nI (rsk N R (C vi)))) ∧ u_.1 = msk (stB R (C vi)) (N 6) ∧ (∀ z, z < 8 → u_.2.1.testBit z = (decide (z < N 0) && tkN (eS N R (C vi)) z)) ∧ u_.2.1 < 256 ∧ u_.2.2.1 = twF R (C vi) (N 6) ∧ RowC N R (C vi) (eS N R (C vi)) u_.2.2.2.1 u_.2.2.2.2.1 u_.2.2.2.2.2) (fun u_ => wX cy q (va_up (va_up (va_up K 4 u_.1) 5 u_.2.1) 6 u_.2.2.1) (va_up (va_up (va_up C 9 u_.2.2.2.1) 10 u_.2.2.2.2.1) 11 u_.2.2.2.2.2) O L f) := by
  refine MS.mk2 (by decide) (Nat.le_of_ble_eq_true rfl) [(0, .ref (q 2)), (1, .ref (q vi)), (2, .int (nI G))] rfl ?_
  intro p e s m args below meth c A ls Q hQ S hr hlk hnm hK hA I hl
  have hW0 := hW
  obtain ⟨hB, hPt, hBo, hH, hM, hQu⟩ := hW0
  have hB0 := hB
  obtain ⟨b0, b6, b17, b24, b30⟩ := hB0
  have hrel0 := hrel
  obtain ⟨k0, k1, hC6, hK2, hC7, hHol⟩ := hrel0
  refine lv_aload_n S.1 S.2.1 dX9_run_0 rfl (lv_at hl 0 rfl) ?_
  refine lv_aload_n S.1 S.2.1 dX9_run_1 rfl (lv_at hl 1 rfl) ?_
  refine lv_iload_n S.1 S.2.1 dX9_run_2 rfl (lv_at hl 2 rfl) ?_
  refine cV (np := 2) (ci := 9) (q0 := 2) (As := [.ref (q vi), .int (nI G)]) (rest := []) S (x_findStanding l D cy q K C O L f N R hW hrel vi G hv hG) hK hA I wm_X9_25 wi_X9_findStanding ws_X9_X9_findStanding wn_X9 wk_X9_findStanding ⟨rfl, hd_X9_findStanding⟩ rfl ⟨by decide, by decide⟩ rfl rfl hl.1 rfl (Nat.le_of_ble_eq_true rfl) dX9_run_3 ⟨by decide, by decide⟩ (fun v_ u_ H locs h_ I => ?_)
  obtain ⟨rfl, hs4, hs6⟩ := h_
  obtain ⟨s4, s6⟩ := u_
  have hs4 : s4 = msk (stB R (C vi)) (N 6) := hs4
  have hs6 : s6 = twF R (C vi) (N 6) := hs6
  have I : IX D A s.heap (wX cy q (va_up (va_up K 4 s4) 6 s6) C O L f) H locs := I
  refine W.eq (g2 := F0 m 6 ls []) rfl ?_
  refine lv_aload_n S.1 S.2.1 dX9_run_6 rfl (lv_at hl 0 rfl) ?_
  refine lv_iconst (v := nI 0) S.1 S.2.1 dX9_run_7 (by decide) ?_
  refine rp (ci := 9) (q0 := 2) (v := .int (nI 0)) (ty := .int) 5 S hK I cl_X9 rfl wf_X9_29 (by decide) rfl tyX9_ok nmX9 rfl (by decide +kernel) rfl rfl (by exact Nat.le_of_ble_eq_true rfl) rfl dX9_run_8 (fun H locs I => ?_)
  have I : IX D A s.heap (wX cy q (va_up (va_up (va_up K 4 s4) 5 0) 6 s6) C O L f) H locs := I
  refine lv_iconst (v := nI 1) S.1 S.2.1 dX9_run_11 (by decide) ?_
  refine lv_istore_n (lv' := [(3, .int (nI 1)), (0, .ref (q 2)), (1, .ref (q vi)), (2, .int (nI G))]) S.1 S.2.1 dX9_run_12 rfl hl (by decide) rfl (fun ls hl => ?_)
  have loop_13 : ∀ (k_ : Nat) (k : Nat) (k5 : Nat) (r9 : Nat → Int32) (r10 : Nat → Int32) (r11 : Nat → Int32), 9 - k < k_ → k ≤ 8 → (∀ z, z < 8 → k5.testBit z = (decide (z < N 0) && tkN (stF N R (C vi) k) z)) → k5 < 256 → RowC N R (C vi) (stF N R (C vi) k) r9 r10 r11 → ∀ (H : Heap) (locs : List Loc) (ls : Array Slot), IX D A s.heap (wX cy q (va_up (va_up (va_up K 4 s4) 5 k5) 6 s6) (va_up (va_up (va_up C 9 r9) 10 r10) 11 r11) O L f) H locs → lv_has ls 5 [(0, .ref (q 2)), (1, .ref (q vi)), (2, .int (nI G)), (3, .int (nI (k + 1)))] → W p l e rm_X9_run s m args below meth c H locs 0 0 Q (F0 m 13 ls []) := by
    intro k_
    induction k_ with
    | zero => intro k k5 r9 r10 r11 hm_; exact absurd hm_ (Nat.not_lt_zero _)
    | succ k_ ih_13 =>
      intro k k5 r9 r10 r11 hm_ hk h5 h5l hrow H locs ls I hl
      refine lv_iload_n S.1 S.2.1 dX9_run_13 rfl (lv_at hl 3 rfl) ?_
      refine lv_bipush (v := nI 8) S.1 S.2.1 dX9_run_14 (by decide) ?_
      refine lv_icmp_gt (tgt := 51) S.1 S.2.1 dX9_run_16 (by decide) (fun c_16 => ?_) (fun c_16 => ?_)
      · skip
        have c_16o := c_16
        have c_16 := nI_cgtT (by omega) (by omega) c_16
        have hk8 : k = 8 := by omega
        subst hk8
        have hfin : ∀ p, p < N 0 → stF N R (C vi) 8 p = eS N R (C vi) p := fun p _ => rfl
        have hrowE := hrow
        refine lv_aload_n S.1 S.2.1 dX9_run_51 rfl (lv_at hl 0 rfl) ?_
        refine cV (np := 0) (ci := 9) (q0 := 2) (As := []) (rest := []) S (x_sumOfWorths l D cy q (va_up (va_up (va_up K 4 s4) 5 k5) 6 s6) (va_up (va_up (va_up C 9 r9) 10 r10) 11 r11) O L f N R hW (RelN_s hrel)) hK hA I wm_X9_37 wi_X9_sumOfWorths ws_X9_X9_sumOfWorths wn_X9 wk_X9_sumOfWorths ⟨rfl, hd_X9_sumOfWorths⟩ rfl ⟨by decide, by decide⟩ rfl rfl hl.1 rfl (Nat.le_of_ble_eq_true rfl) dX9_run_52 ⟨by decide, by decide⟩ (fun v_ u_ H locs h_ I => ?_)
        obtain rfl := h_
        have I : IX D A s.heap (wX cy q (va_up (va_up (va_up K 4 s4) 5 k5) 6 s6) (va_up (va_up (va_up C 9 r9) 10 r10) 11 r11) O L f) H locs := I
        refine W.eq (g2 := F0 m 55 ls [.int (nI (fb_sm (fun z => if (k5).testBit z = true then (if (s6).testBit z = true then 2 * wo R z else wo R z) else 0) (N 0)))]) rfl ?_
        exact ru_i hQ S hr hlk (u := (s4, k5, s6, r9, r10, r11)) I (⟨by rw [run_sum hfin h5 hB (fun z => by rw [hs6, twF_bit])], hs4, run_5e hfin h5, h5l, hs6, hrowE⟩) dX9_run_55
      · skip
        have c_16o := c_16
        have c_16 := nI_cgtF (by omega) (by omega) c_16
        refine lv_aload_n S.1 S.2.1 dX9_run_19 rfl (lv_at hl 0 rfl) ?_
        refine lv_iload_n S.1 S.2.1 dX9_run_20 rfl (lv_at hl 3 rfl) ?_
        refine cV (np := 1) (ci := 9) (q0 := 2) (As := [.int (nI (k + 1))]) (rest := []) S (x_takeStep l D cy q (va_up (va_up (va_up K 4 s4) 5 k5) 6 s6) (va_up (va_up (va_up C 9 r9) 10 r10) 11 r11) O L f N R hW (RelN_s hrel) (C vi) k hs4 h5) hK hA I wm_X9_33 wi_X9_takeStep ws_X9_X9_takeStep wn_X9 wk_X9_takeStep ⟨rfl, hd_X9_takeStep⟩ rfl ⟨by decide, by decide⟩ rfl rfl hl.1 rfl (Nat.le_of_ble_eq_true rfl) dX9_run_21 ⟨by decide, by decide⟩ (fun v_ u_ H locs h_ I => ?_)
        obtain ⟨rfl, hrt⟩ := h_
        obtain ⟨fr, t9, t10, t11⟩ := u_
        have hrt : RowT N R (C vi) (tkN (stF N R (C vi) k)) k (N 6) fr r9 r10 r11 t9 t10 t11 := hrt
        have I : IX D A s.heap (wX cy q (va_up (va_up (va_up K 4 s4) 5 k5) 6 s6) (va_up (va_up (va_up C 9 t9) 10 t10) 11 t11) O L f) H locs := I
        refine W.eq (g2 := F0 m 24 ls [.int (nI fr)]) rfl ?_
        refine lv_istore (lv' := [(4, .int (nI fr)), (0, .ref (q 2)), (1, .ref (q vi)), (2, .int (nI G)), (3, .int (nI (k + 1)))]) S.1 S.2.1 dX9_run_24 hl (by decide) rfl (fun ls hl => ?_)
        refine lv_iload S.1 S.2.1 dX9_run_26 (lv_at hl 0 rfl) ?_
        have hfl := rt_lt hB hrt
        refine lv_if_ne (tgt := 34) S.1 S.2.1 dX9_run_28 (by decide) (fun c_28 => ?_) (fun c_28 => ?_)
        · skip
          have c_28o := c_28
          have c_28 := nI_zneT (by omega) c_28
          refine lv_aload_n S.1 S.2.1 dX9_run_34 rfl (lv_at hl 1 rfl) ?_
          refine lv_dup S.1 S.2.1 dX9_run_35 rfl ?_
          refine rg (ci := 9) (q0 := 2) (v := .int (nI k5)) 5 S hK I cl_X9 rfl wf_X9_29 (by decide) rfl rfl rfl dX9_run_36 ?_
          refine lv_iload S.1 S.2.1 dX9_run_39 (lv_at hl 0 rfl) ?_
          refine lv_ior S.1 S.2.1 dX9_run_41 ?_
          refine tI (y := nI (k5 ||| fr)) (fa_or _ _) ?_
          refine rp (ci := 9) (q0 := 2) (v := .int (nI (k5 ||| fr))) (ty := .int) 5 S hK I cl_X9 rfl wf_X9_29 (by decide) rfl tyX9_ok nmX9 rfl (by decide +kernel) rfl rfl (by exact Nat.le_of_ble_eq_true rfl) rfl dX9_run_42 (fun H locs I => ?_)
          have I : IX D A s.heap (wX cy q (va_up (va_up (va_up K 4 s4) 5 (k5 ||| fr)) 6 s6) (va_up (va_up (va_up C 9 t9) 10 t10) 11 t11) O L f) H locs := I
          refine lv_iinc (v := nI (k + 1 + 1)) (lv' := [(3, .int (nI (k + 1 + 1))), (4, .int (nI fr)), (0, .ref (q 2)), (1, .ref (q vi)), (2, .int (nI G))]) S.1 S.2.1 dX9_run_45 hl (k := 4) rfl (nI_1 _) (by decide) rfl (fun ls hl => ?_)
          refine lv_goto (tgt := 13) S.1 S.2.1 dX9_run_48 (by decide) ?_
          exact ih_13 (k + 1) (k5 ||| fr) t9 t10 t11 (by omega) (by omega) (run_5 h5 hrt) (Nat.or_lt_two_pow (n := 8) h5l (rt_lt hB hrt)) (run_row hrow hrt) _ _ _ I (lv_sub hl [2, 3, 4, 0] rfl)
        · skip
          have c_28o := c_28
          have c_28 := nI_zneF (by omega) c_28
          have hno := run_no hrt c_28
          have hfin := fun p hp => ((stF_no (hno p hp)).symm.trans (stF_fin hH hk hno p hp))
          have hrow9 := run_row hrow hrt
          have hrowE := RowC_v (stF_fin hH hk hno) hrow9
          refine lv_goto (tgt := 51) S.1 S.2.1 dX9_run_31 (by decide) ?_
          refine lv_aload_n S.1 S.2.1 dX9_run_51 rfl (lv_at hl 1 rfl) ?_
          refine cV (np := 0) (ci := 9) (q0 := 2) (As := []) (rest := []) S (x_sumOfWorths l D cy q (va_up (va_up (va_up K 4 s4) 5 k5) 6 s6) (va_up (va_up (va_up C 9 t9) 10 t10) 11 t11) O L f N R hW (RelN_s hrel)) hK hA I wm_X9_37 wi_X9_sumOfWorths ws_X9_X9_sumOfWorths wn_X9 wk_X9_sumOfWorths ⟨rfl, hd_X9_sumOfWorths⟩ rfl ⟨by decide, by decide⟩ rfl rfl hl.1 rfl (Nat.le_of_ble_eq_true rfl) dX9_run_52 ⟨by decide, by decide⟩ (fun v_ u_ H locs h_ I => ?_)
          obtain rfl := h_
          have I : IX D A s.heap (wX cy q (va_up (va_up (va_up K 4 s4) 5 k5) 6 s6) (va_up (va_up (va_up C 9 t9) 10 t10) 11 t11) O L f) H locs := I
          refine W.eq (g2 := F0 m 55 ls [.int (nI (fb_sm (fun z => if (k5).testBit z = true then (if (s6).testBit z = true then 2 * wo R z else wo R z) else 0) (N 0)))]) rfl ?_
          exact ru_i hQ S hr hlk (u := (s4, k5, s6, t9, t10, t11)) I (⟨by rw [run_sum hfin h5 hB (fun z => by rw [hs6, twF_bit])], hs4, run_5e hfin h5, h5l, hs6, hrowE⟩) dX9_run_55
  exact loop_13 _ 0 0 (C 9) (C 10) (C 11) (Nat.lt_succ_self _) (Nat.zero_le _) (fun z hz => by rw [Nat.zero_testBit, show tkN (stF N R (C vi) 0) z = false from rfl, Bool.and_false]) (by decide) (fun p hp h => absurd h (Nat.lt_irrefl 0)) _ _ _ I (lv_sub hl [1, 2, 3, 0] rfl)
