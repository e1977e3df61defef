def RelM (K : Nat → Nat) (O : Nat → Nat → Option Nat) (L : List Nat) (f : Nat → va_E) (N : Nat → Nat) (R : Nat → Nat → Int32) : Prop := K 7 = N 17 ∧ K 8 = N 24 ∧ (∀ k, k < N 17 → ∃ a, O 12 k = some a ∧ a ∈ L ∧ f a = mcell R k) ∧ (∀ k, k < N 24 → ∃ a, O 13 k = some a ∧ a ∈ L ∧ f a = qcell R k)
def RelG (K : Nat → Nat) (C : Nat → Nat → Int32) (R : Nat → Nat → Int32) : Prop := (∀ p, p < 8 → C 5 p = R 1 p) ∧ (∀ p, p < 8 → (K 3).testBit p = decide (¬ R 4 p = 0)) ∧ K 3 < 256 ∧ K 2 < 256
theorem mat_some {K : Nat → Nat} {O : Nat → Nat → Option Nat} {x : Int32} {j a : Nat} (hx : x = nI j) (hj : j < K 7) (hb : K 7 ≤ 8) (ho : O 12 j = some a) : va_rf (if isP (K 7) x = true then O 12 x.toNatClampNeg else none) = .ref a := by
  rw [hx, if_pos (isP_nI hj (by omega)), nI_clamp (by omega), ho]
  rfl
theorem mat_none {K : Nat → Nat} {O : Nat → Nat → Option Nat} {x : Int32} (h : isP (K 7) x = false) : va_rf (if isP (K 7) x = true then O 12 x.toNatClampNeg else none) = .null := by
  rw [h, if_neg Bool.false_ne_true]
  rfl
theorem cpy8 {f g : Nat → Int32} {p : Nat} (h : p < 8) : va_cpy f g (nI 0).toNatClampNeg (nI 0).toNatClampNeg (nI 8).toNatClampNeg p = f p := by
  have e0 : (nI 0).toNatClampNeg = 0 := rfl
  have e8 : (nI 8).toNatClampNeg = 8 := rfl
  rw [e0, e8, pk_cpy_in (Nat.zero_le p) (by omega), Nat.zero_add, Nat.sub_zero]
theorem vt_m {R : Nat → Nat → Int32} {d m n : Nat} {g : Nat → Int32} (hm : mp R m < n) (hb : d.testBit m = true) (hg : ∀ p, p < n → g p = vtF R d m p) : ∀ p, p < n → upd g (mp R m) (if g (mp R m) < R 19 m then R 19 m else g (mp R m)) p = vtF R d (m + 1) p := by
  intro p hp
  by_cases c : g (mp R m) < R 19 m
  · rw [if_pos c]
    exact vt_c hm hb (fa_of_lt c).2.1 hg p hp
  · rw [if_neg c, fa_upd_same rfl]
    exact vt_b hm (fa_of_nlt c) hg p hp
theorem quF_true {R : Nat → Nat → Int32} {g : Nat → Int32} : ∀ {n i : Nat}, i < n → (decide (g (qa R i) = R 25 (4 * i + 1)) && decide (g (qb R i) = R 25 (4 * i + 3))) = true → quF R g n = true := by
  intro n
  induction n with
  | zero => intro i h; exact absurd h (Nat.not_lt_zero i)
  | succ n ih =>
    intro i hi h
    rw [quF]
    by_cases e : i = n
    · rw [← e, h, Bool.or_true]
    · rw [ih (by omega) h, Bool.true_or]
theorem need_1 {R : Nat → Nat → Int32} {m : Nat} (h : R 21 m = -1 ∨ (R 21 m = nI (mn R m) ∧ mn R m < m)) (h2 : ¬ R 21 m = -1) (hm : m < 1000) : (R 21 m = nI (mn R m) ∧ mn R m < m) ∧ ¬ R 21 m < 0 := by
  rcases h with h | h
  · exact absurd h h2
  · refine ⟨h, ?_⟩
    rw [h.1]
    exact nI_pos (by omega)
theorem need_m1 {x : Int32} (h : x = -1) : x < 0 := by rw [h]; decide
theorem RelN_14 {K : Nat → Nat} {C : Nat → Nat → Int32} {O : Nat → Nat → Option Nat} {L : List Nat} {f : Nat → va_E} {N : Nat → Nat} {R : Nat → Nat → Int32} {x : Nat → Int32} (h : RelN K C O L f N R) : RelN K (va_up C 14 x) O L f N R := h
set_option maxHeartbeats 4000000 in
set_option maxRecDepth 100000 in
theorem x_mendAt (l : Launch) (D : va_G) (cy : Nat → ClassId) (q : Nat → Nat) (K : Nat → Nat) (C : Nat → Nat → Int32) (O : Nat → Nat → Option Nat) (L : List Nat) (f : Nat → va_E) (x : Int32) (hkb : K 7 ≤ 8) : MS (α := Unit) l D cy yX4_mendAt cX4_mendAt 2 (Option.some (FieldType.object "MendDesk$Mend")) rm_X4_mendAt [.ref (q 3), .int x] (wX cy q K C O L f) (fun v_ (_ : Unit) => v_ = some (va_rf (if isP (K 7) x = true then O 12 x.toNatClampNeg else none))) (fun _ => wX cy q K C O L f) := by
  refine MS.mk2 (by decide) (Nat.le_of_ble_eq_true rfl) [(0, .ref (q 3)), (1, .int x)] rfl ?_
  intro p e s m args below meth c A ls Q hQ S hr hlk hnm hK hA I hl
  refine lv_iload_n S.1 S.2.1 dX4_mendAt_0 rfl (lv_at hl 1 rfl) ?_
  refine lv_if_lt (tgt := 21) S.1 S.2.1 dX4_mendAt_1 (by decide) (fun c_1 => ?_) (fun c_1 => ?_)
  · skip
    refine lv_null S.1 S.2.1 dX4_mendAt_21 ?_
    refine tV (y := va_rf (if isP (K 7) x = true then O 12 x.toNatClampNeg else none)) (by rw [if_neg (by rw [nx_no1 c_1]; exact Bool.false_ne_true)]; rfl) ?_
    exact ru_a hQ S hr hlk (u := ()) I rfl dX4_mendAt_22
  · skip
    refine lv_iload_n S.1 S.2.1 dX4_mendAt_4 rfl (lv_at hl 1 rfl) ?_
    refine lv_aload_n S.1 S.2.1 dX4_mendAt_5 rfl (lv_at hl 0 rfl) ?_
    refine rg (ci := 4) (q0 := 3) (v := .int (nI (K 7))) 5 S hK I cl_X4 rfl wf_X4_35 (by decide) rfl rfl rfl dX4_mendAt_6 ?_
    refine lv_icmp_ge (tgt := 21) S.1 S.2.1 dX4_mendAt_9 (by decide) (fun c_9 => ?_) (fun c_9 => ?_)
    · skip
      refine lv_null S.1 S.2.1 dX4_mendAt_21 ?_
      refine tV (y := va_rf (if isP (K 7) x = true then O 12 x.toNatClampNeg else none)) (by rw [if_neg (by rw [nx_no2 c_9 (by omega)]; exact Bool.false_ne_true)]; rfl) ?_
      exact ru_a hQ S hr hlk (u := ()) I rfl dX4_mendAt_22
    · skip
      have hx9 := nx_of c_1 c_9 (by omega)
      obtain ⟨j, h_j, rfl⟩ := isP_of hx9 (by omega)
      have e_j : (nI j).toNatClampNeg = j := nI_clamp (by omega)
      refine lv_aload_n S.1 S.2.1 dX4_mendAt_12 rfl (lv_at hl 0 rfl) ?_
      refine rg (ci := 4) (q0 := 3) (v := .ref (q 12)) 2 S hK I cl_X4 rfl wf_X4_11 (by decide) rfl rfl rfl dX4_mendAt_13 ?_
      refine lv_iload_n S.1 S.2.1 dX4_mendAt_16 rfl (lv_at hl 1 rfl) ?_
      refine rq (q0 := 12) (n := 8) (t0 := 3) (g := O 12) j S hK I rfl rfl rfl (by omega) (by decide) dX4_mendAt_17 ?_
      refine lv_goto (tgt := 22) S.1 S.2.1 dX4_mendAt_18 (by decide) ?_
      refine tV (y := va_rf (if isP (K 7) (nI j) = true then O 12 (nI j).toNatClampNeg else none)) (by rw [if_pos hx9, e_j]) ?_
      exact ru_a hQ S hr hlk (u := ()) I rfl dX4_mendAt_22
set_option maxHeartbeats 4000000 in
set_option maxRecDepth 100000 in
theorem x_isSet (l : Launch) (D : va_G) (cy : Nat → ClassId) (q : Nat → Nat) (K : Nat → Nat) (C : Nat → Nat → Int32) (O : Nat → Nat → Option Nat) (L : List Nat) (f : Nat → va_E) (x : Int32) (hkb : K 7 ≤ 8) : MS (α := Unit) l D cy yX4_isSet cX4_isSet 2 (Option.some FieldType.boolean) rm_X4_isSet [.ref (q 3), .int x] (wX cy q K C O L f) (fun v_ (_ : Unit) => v_ = some (.int (bI (isP (2 ^ K 7) x)))) (fun _ => wX cy q K C O L f) := by
  refine MS.mk2 (by decide) (Nat.le_of_ble_eq_true rfl) [(0, .ref (q 3)), (1, .int x)] rfl ?_
  intro p e s m args below meth c A ls Q hQ S hr hlk hnm hK hA I hl
  have hp2 := pow_256 hkb
  refine lv_iload_n S.1 S.2.1 dX4_isSet_0 rfl (lv_at hl 1 rfl) ?_
  refine lv_if_lt (tgt := 19) S.1 S.2.1 dX4_isSet_1 (by decide) (fun c_1 => ?_) (fun c_1 => ?_)
  · skip
    refine lv_iconst (v := nI 0) S.1 S.2.1 dX4_isSet_19 (by decide) ?_
    exact ru_z hQ S hr hlk (by decide) (u := ()) I (congrArg (fun z => some (Value.int z)) (bI_0 (nx_no1 c_1))) dX4_isSet_20
  · skip
    refine lv_iload_n S.1 S.2.1 dX4_isSet_4 rfl (lv_at hl 1 rfl) ?_
    refine lv_aload_n S.1 S.2.1 dX4_isSet_5 rfl (lv_at hl 0 rfl) ?_
    refine rg (ci := 4) (q0 := 3) (v := .int (nI (K 7))) 5 S hK I cl_X4 rfl wf_X4_35 (by decide) rfl rfl rfl dX4_isSet_6 ?_
    refine cN (np := 1) (As := [.int (nI (K 7))]) (rest := [.int x]) S (x_bit l D cy (wX cy q K C O L f) (K 7) (by omega)) hK hA I (by decide +kernel) wt_X11_bit wn_X11 wk_X11_bit hd_X11_bit rfl ⟨by decide, by decide⟩ hl.1 rfl (Nat.le_of_ble_eq_true rfl) dX4_isSet_9 ⟨by decide, by decide⟩ (fun v_ u_ H locs h_ I => ?_)
    obtain rfl := h_
    have I : IX D A s.heap (wX cy q K C O L f) H locs := I
    refine W.eq (g2 := F0 m 12 ls [.int (nI (2 ^ (K 7))), .int x]) rfl ?_
    refine lv_icmp_ge (tgt := 19) S.1 S.2.1 dX4_isSet_12 (by decide) (fun c_12 => ?_) (fun c_12 => ?_)
    · skip
      refine lv_iconst (v := nI 0) S.1 S.2.1 dX4_isSet_19 (by decide) ?_
      exact ru_z hQ S hr hlk (by decide) (u := ()) I (congrArg (fun z => some (Value.int z)) (bI_0 (nx_no2 c_12 (by omega)))) dX4_isSet_20
    · skip
      refine lv_iconst (v := nI 1) S.1 S.2.1 dX4_isSet_15 (by decide) ?_
      refine lv_goto (tgt := 20) S.1 S.2.1 dX4_isSet_16 (by decide) ?_
      exact ru_z hQ S hr hlk (by decide) (u := ()) I (congrArg (fun z => some (Value.int z)) (bI_1 (nx_of c_1 c_12 (by omega)))) dX4_isSet_20
set_option maxHeartbeats 4000000 in
set_option maxRecDepth 100000 in
theorem x_holds (l : Launch) (D : va_G) (cy : Nat → ClassId) (q : Nat → Nat) (K : Nat → Nat) (C : Nat → Nat → Int32) (O : Nat → Nat → Option Nat) (L : List Nat) (f : Nat → va_E) (N : Nat → Nat) (R : Nat → Nat → Int32) (a k : Nat) (hW : WFm N R) (hk : k < N 24) (ha : a ∈ L) (hf : f a = qcell R k) : MS (α := Unit) l D cy yX7_holds cX7_holds 2 (Option.some FieldType.boolean) rm_X7_holds [.ref a, .ref (q 14)] (wX cy q K C O L f) (fun v_ (_ : Unit) => v_ = some (.int (bI (decide (C 14 (qa R k) = R 25 (4 * k + 1)) && decide (C 14 (qb R k) = R 25 (4 * k + 3)))))) (fun _ => wX cy q K C O L f) := by
  refine MS.mk2 (by decide) (Nat.le_of_ble_eq_true rfl) [(0, .ref a), (1, .ref (q 14))] rfl ?_
  intro p e s m args below meth c A ls Q hQ S hr hlk hnm hK hA I hl
  have hW0 := hW
  obtain ⟨hB, hPt, hBo, hH, hM, hQu⟩ := hW0
  have hB0 := hB
  obtain ⟨b0, b6, b17, b24, b30⟩ := hB0
  have hqa := (hQu k hk).1.2
  have hqb := (hQu k hk).2.2
  refine lv_aload_n S.1 S.2.1 dX7_holds_0 rfl (lv_at hl 1 rfl) ?_
  refine lv_aload_n S.1 S.2.1 dX7_holds_1 rfl (lv_at hl 0 rfl) ?_
  refine rgP (ci := 7) (T := TX7) (fs := [.int (R 25 (4 * k)), .int (R 25 (4 * k + 1)), .int (R 25 (4 * k + 2)), .int (R 25 (4 * k + 3))]) 0 S hK I cl_X7 rfl wf_X7_7 (by decide) rfl ha hf rfl dX7_holds_2 ?_
  refine tI (y := nI (qa R k)) ((hQu k hk).1.1) ?_
  refine ri (q0 := 14) (n := 8) (f := C 14) (qa R k) S hK I rfl rfl (by omega) (by decide) dX7_holds_5 ?_
  refine lv_aload_n S.1 S.2.1 dX7_holds_6 rfl (lv_at hl 0 rfl) ?_
  refine rgP (ci := 7) (T := TX7) (fs := [.int (R 25 (4 * k)), .int (R 25 (4 * k + 1)), .int (R 25 (4 * k + 2)), .int (R 25 (4 * k + 3))]) 1 S hK I cl_X7 rfl wf_X7_13 (by decide) rfl ha hf rfl dX7_holds_7 ?_
  refine lv_icmp_ne (tgt := 30) S.1 S.2.1 dX7_holds_10 (by decide) (fun c_10 => ?_) (fun c_10 => ?_)
  · skip
    refine lv_iconst (v := nI 0) S.1 S.2.1 dX7_holds_30 (by decide) ?_
    exact ru_z hQ S hr hlk (by decide) (u := ()) I (congrArg (fun z => some (Value.int z)) (bI_0 (by simp [c_10]))) dX7_holds_31
  · skip
    refine lv_aload_n S.1 S.2.1 dX7_holds_13 rfl (lv_at hl 1 rfl) ?_
    refine lv_aload_n S.1 S.2.1 dX7_holds_14 rfl (lv_at hl 0 rfl) ?_
    refine rgP (ci := 7) (T := TX7) (fs := [.int (R 25 (4 * k)), .int (R 25 (4 * k + 1)), .int (R 25 (4 * k + 2)), .int (R 25 (4 * k + 3))]) 2 S hK I cl_X7 rfl wf_X7_16 (by decide) rfl ha hf rfl dX7_holds_15 ?_
    refine tI (y := nI (qb R k)) ((hQu k hk).2.1) ?_
    refine ri (q0 := 14) (n := 8) (f := C 14) (qb R k) S hK I rfl rfl (by omega) (by decide) dX7_holds_18 ?_
    refine lv_aload_n S.1 S.2.1 dX7_holds_19 rfl (lv_at hl 0 rfl) ?_
    refine rgP (ci := 7) (T := TX7) (fs := [.int (R 25 (4 * k)), .int (R 25 (4 * k + 1)), .int (R 25 (4 * k + 2)), .int (R 25 (4 * k + 3))]) 3 S hK I cl_X7 rfl wf_X7_19 (by decide) rfl ha hf rfl dX7_holds_20 ?_
    refine lv_icmp_ne (tgt := 30) S.1 S.2.1 dX7_holds_23 (by decide) (fun c_23 => ?_) (fun c_23 => ?_)
    · skip
      refine lv_iconst (v := nI 0) S.1 S.2.1 dX7_holds_30 (by decide) ?_
      exact ru_z hQ S hr hlk (by decide) (u := ()) I (congrArg (fun z => some (Value.int z)) (bI_0 (by simp [c_10, c_23]))) dX7_holds_31
    · skip
      refine lv_iconst (v := nI 1) S.1 S.2.1 dX7_holds_26 (by decide) ?_
      refine lv_goto (tgt := 31) S.1 S.2.1 dX7_holds_27 (by decide) ?_
      exact ru_z hQ S hr hlk (by decide) (u := ()) I (congrArg (fun z => some (Value.int z)) (bI_1 (by simp [c_10, c_23]))) dX7_holds_31
set_option maxHeartbeats 4000000 in
set_option maxRecDepth 100000 in
theorem x_fillVersions (l : Launch) (D : va_G) (cy : Nat → ClassId) (q : Nat → Nat) (K : Nat → Nat) (C : Nat → Nat → Int32) (O : Nat → Nat → Option Nat) (L : List Nat) (f : Nat → va_E) (N : Nat → Nat) (R : Nat → Nat → Int32) (d : Nat) (hW : WFm N R) (hrm : RelM K O L f N R) (hC5 : ∀ p, p < 8 → C 5 p = R 1 p) : MS (α := (Nat → Int32)) l D cy yX4_fillVersions cX4_fillVersions 4 (Option.none : Option FieldType) rm_X4_fillVersions [.ref (q 3), .int (nI d)] (wX cy q K C O L f) (fun v_ u_ => v_ = none ∧ ∀ p, p < 8 → u_ p = vtF R d (N 17) p) (fun u_ => wX cy q K (va_up C 14 u_) O L f) := by
  refine MS.mk2 (by decide) (Nat.le_of_ble_eq_true rfl) [(0, .ref (q 3)), (1, .int (nI d))] rfl ?_
  intro p e s m args below meth c A ls Q hQ S hr hlk hnm hK hA I hl
  have hW0 := hW
  obtain ⟨hB, hPt, hBo, hH, hM, hQu⟩ := hW0
  have hB0 := hB
  obtain ⟨b0, b6, b17, b24, b30⟩ := hB0
  have hrm0 := hrm
  obtain ⟨k7, k8, hMe, hQe⟩ := hrm0
  refine lv_aload_n S.1 S.2.1 dX4_fillVersions_0 rfl (lv_at hl 0 rfl) ?_
  refine rg (ci := 4) (q0 := 3) (v := .ref (q 1)) 0 S hK I cl_X4 rfl wf_X4_27 (by decide) rfl rfl rfl dX4_fillVersions_1 ?_
  refine rg (ci := 5) (q0 := 1) (v := .ref (q 5)) 0 S hK I cl_X5 rfl wf_X4_79 (by decide) rfl rfl rfl dX4_fillVersions_4 ?_
  refine lv_iconst (v := nI 0) S.1 S.2.1 dX4_fillVersions_7 (by decide) ?_
  refine lv_aload_n S.1 S.2.1 dX4_fillVersions_8 rfl (lv_at hl 0 rfl) ?_
  refine rg (ci := 4) (q0 := 3) (v := .ref (q 14)) 4 S hK I cl_X4 rfl wf_X4_23 (by decide) rfl rfl rfl dX4_fillVersions_9 ?_
  refine lv_iconst (v := nI 0) S.1 S.2.1 dX4_fillVersions_12 (by decide) ?_
  refine lv_bipush (v := nI 8) S.1 S.2.1 dX4_fillVersions_13 (by decide) ?_
  refine va_copyi (rest := []) (sp := nI 0) (dp := nI 0) (n := nI 8) S.1 S.2.1 (S.2.2.1.trans hl.1.symm) S.2.2.2.1 (S.2.2.2.2 _ (List.mem_cons_of_mem _ wm_X4_92)) (S.2.2.2.2 _ (List.mem_cons_of_mem _ wz_native)) (S.2.2.2.2 _ (List.mem_cons_of_mem _ wt_arraycopyName)) (S.2.2.2.2 _ (List.mem_cons_of_mem _ wn_J10)) hK.1 I.1 I.2.1 I.2.2 5 14 0 0 (ty := .int) (f := C 5) (g := C 14) rfl rfl rfl rfl rfl (by decide) (by decide) (by decide) (by decide) (by decide) (fun _ _ => rfl) (by decide) (by decide) dX4_fillVersions_15 (fun H locs i1 i2 i3 => ?_)
  have I : IX D A s.heap (wX cy q K (va_up C 14 (va_cpy (C 5) (C 14) (nI 0).toNatClampNeg (nI 0).toNatClampNeg (nI 8).toNatClampNeg)) O L f) H locs := ⟨i1, i2, i3⟩
  refine lv_iconst (v := nI 0) S.1 S.2.1 dX4_fillVersions_18 (by decide) ?_
  refine lv_istore_n (lv' := [(2, .int (nI 0)), (0, .ref (q 3)), (1, .int (nI d))]) S.1 S.2.1 dX4_fillVersions_19 rfl hl (by decide) rfl (fun ls hl => ?_)
  have loop_20 : ∀ (k_ : Nat) (m2 : Nat) (g14 : Nat → Int32), N 17 - m2 < k_ → m2 ≤ N 17 → (∀ p, p < 8 → g14 p = vtF R d m2 p) → ∀ (H : Heap) (locs : List Loc) (ls : Array Slot), IX D A s.heap (wX cy q K (va_up C 14 g14) O L f) H locs → lv_has ls 4 [(0, .ref (q 3)), (1, .int (nI d)), (2, .int (nI m2))] → W p l e rm_X4_fillVersions s m args below meth c H locs 0 0 Q (F0 m 20 ls []) := by
    intro k_
    induction k_ with
    | zero => intro m2 g14 hm_; exact absurd hm_ (Nat.not_lt_zero _)
    | succ k_ ih_20 =>
      intro m2 g14 hm_ hm2 hg H locs ls I hl
      refine lv_iload_n S.1 S.2.1 dX4_fillVersions_20 rfl (lv_at hl 2 rfl) ?_
      refine lv_aload_n S.1 S.2.1 dX4_fillVersions_21 rfl (lv_at hl 0 rfl) ?_
      refine rg (ci := 4) (q0 := 3) (v := .int (nI (K 7))) 5 S hK I cl_X4 rfl wf_X4_35 (by decide) rfl rfl rfl dX4_fillVersions_22 ?_
      refine lv_icmp_ge (tgt := 81) S.1 S.2.1 dX4_fillVersions_25 (by decide) (fun c_25 => ?_) (fun c_25 => ?_)
      · skip
        have c_25o := c_25
        have c_25 := nI_cgeT (by omega) (by omega) c_25
        exact ru_v hQ S hr hlk (u := g14) I (⟨rfl, by rw [show N 17 = m2 by omega]; exact hg⟩) dX4_fillVersions_81
      · skip
        have c_25o := c_25
        have c_25 := nI_cgeF (by omega) (by omega) c_25
        refine lv_aload_n S.1 S.2.1 dX4_fillVersions_28 rfl (lv_at hl 0 rfl) ?_
        refine rg (ci := 4) (q0 := 3) (v := .ref (q 12)) 2 S hK I cl_X4 rfl wf_X4_11 (by decide) rfl rfl rfl dX4_fillVersions_29 ?_
        refine lv_iload_n S.1 S.2.1 dX4_fillVersions_32 rfl (lv_at hl 2 rfl) ?_
        obtain ⟨a, ho12, ha, hf⟩ := hMe m2 (by omega)
        refine rq (q0 := 12) (n := 8) (t0 := 3) (g := O 12) m2 S hK I rfl rfl rfl (by omega) (by decide) dX4_fillVersions_33 ?_
        refine tV (y := .ref a) (by rw [ho12]; rfl) ?_
        refine lv_astore_n (lv' := [(3, .ref a), (0, .ref (q 3)), (1, .int (nI d)), (2, .int (nI m2))]) S.1 S.2.1 dX4_fillVersions_34 rfl hl (by decide) rfl (fun ls hl => ?_)
        refine lv_aload_n S.1 S.2.1 dX4_fillVersions_35 rfl (lv_at hl 0 rfl) ?_
        refine lv_ifnull S.1 S.2.1 dX4_fillVersions_36 ?_
        refine lv_iload_n S.1 S.2.1 dX4_fillVersions_39 rfl (lv_at hl 2 rfl) ?_
        refine lv_iload_n S.1 S.2.1 dX4_fillVersions_40 rfl (lv_at hl 3 rfl) ?_
        refine cN (np := 2) (As := [.int (nI d), .int (nI m2)]) (rest := []) S (x_isIn l D cy (wX cy q K (va_up C 14 g14) O L f) d m2 (by omega)) hK hA I (by decide +kernel) wt_X11_isIn wn_X11 wk_X11_isIn hd_X11_isIn rfl ⟨by decide, by decide⟩ hl.1 rfl (Nat.le_of_ble_eq_true rfl) dX4_fillVersions_41 ⟨by decide, by decide⟩ (fun v_ u_ H locs h_ I => ?_)
        obtain rfl := h_
        have I : IX D A s.heap (wX cy q K (va_up C 14 g14) O L f) H locs := I
        refine W.eq (g2 := F0 m 44 ls [.int (bI (d.testBit m2))]) rfl ?_
        refine lv_if_ne (tgt := 50) S.1 S.2.1 dX4_fillVersions_44 (by decide) (fun c_44 => ?_) (fun c_44 => ?_)
        · skip
          have c_44 := bI_t c_44
          have hmp : mp R m2 < 8 := by have := (hM m2 (by omega)).2.1; omega
          refine lv_aload_n S.1 S.2.1 dX4_fillVersions_50 rfl (lv_at hl 1 rfl) ?_
          refine rg (ci := 4) (q0 := 3) (v := .ref (q 14)) 4 S hK I cl_X4 rfl wf_X4_23 (by decide) rfl rfl rfl dX4_fillVersions_51 ?_
          refine lv_aload_n S.1 S.2.1 dX4_fillVersions_54 rfl (lv_at hl 0 rfl) ?_
          refine rgP (ci := 3) (T := TX3) (fs := [.int (R 18 m2), .int (R 19 m2), .int (R 20 m2), .int (R 21 m2), .int (R 22 m2), .int (R 23 m2)]) 0 S hK I cl_X3 rfl wf_X4_82 (by decide) rfl ha hf rfl dX4_fillVersions_55 ?_
          refine tI (y := nI (mp R m2)) ((hM m2 (by omega)).1) ?_
          refine lv_aload_n S.1 S.2.1 dX4_fillVersions_58 rfl (lv_at hl 1 rfl) ?_
          refine rg (ci := 4) (q0 := 3) (v := .ref (q 14)) 4 S hK I cl_X4 rfl wf_X4_23 (by decide) rfl rfl rfl dX4_fillVersions_59 ?_
          refine lv_aload_n S.1 S.2.1 dX4_fillVersions_62 rfl (lv_at hl 0 rfl) ?_
          refine rgP (ci := 3) (T := TX3) (fs := [.int (R 18 m2), .int (R 19 m2), .int (R 20 m2), .int (R 21 m2), .int (R 22 m2), .int (R 23 m2)]) 0 S hK I cl_X3 rfl wf_X4_82 (by decide) rfl ha hf rfl dX4_fillVersions_63 ?_
          refine tI (y := nI (mp R m2)) ((hM m2 (by omega)).1) ?_
          refine ri (q0 := 14) (n := 8) (f := g14) (mp R m2) S hK I rfl rfl (by omega) (by decide) dX4_fillVersions_66 ?_
          refine lv_aload_n S.1 S.2.1 dX4_fillVersions_67 rfl (lv_at hl 0 rfl) ?_
          refine rgP (ci := 3) (T := TX3) (fs := [.int (R 18 m2), .int (R 19 m2), .int (R 20 m2), .int (R 21 m2), .int (R 22 m2), .int (R 23 m2)]) 1 S hK I cl_X3 rfl wf_X4_85 (by decide) rfl ha hf rfl dX4_fillVersions_68 ?_
          refine va_mmax (rest := [.int (nI (mp R m2)), .ref (q 14)]) S.1 S.2.1 (S.2.2.1.trans hl.1.symm) S.2.2.2.1 (S.2.2.2.2 _ (List.mem_cons_of_mem _ wm_X4_98)) (S.2.2.2.2 _ (List.mem_cons_of_mem _ wt_J9_max_7cf53)) (S.2.2.2.2 _ (List.mem_cons_of_mem _ wn_J9)) (S.2.2.2.2 _ (List.mem_cons_of_mem _ wk_J9_max_7cf53)) (by decide) (Nat.le_of_ble_eq_true rfl) (by decide) (by decide) dX4_fillVersions_71 ?_
          refine W.eq (g2 := F0 m 74 ls [.int (if g14 (mp R m2) < R 19 m2 then R 19 m2 else g14 (mp R m2)), .int (nI (mp R m2)), .ref (q 14)]) rfl ?_
          refine si (q0 := 14) (n := 8) (f := g14) (mp R m2) S hK I rfl rfl (by omega) (by decide) dX4_fillVersions_74 (fun H locs I => ?_)
          have I : IX D A s.heap (wX cy q K (va_up C 14 (upd g14 (mp R m2) (if g14 (mp R m2) < R 19 m2 then R 19 m2 else g14 (mp R m2)))) O L f) H locs := I
          refine lv_iinc (v := nI (m2 + 1)) (lv' := [(2, .int (nI (m2 + 1))), (3, .ref a), (0, .ref (q 3)), (1, .int (nI d))]) S.1 S.2.1 dX4_fillVersions_75 hl (k := 3) rfl (nI_1 _) (by decide) rfl (fun ls hl => ?_)
          refine lv_goto (tgt := 20) S.1 S.2.1 dX4_fillVersions_78 (by decide) ?_
          exact ih_20 (m2 + 1) (upd g14 (mp R m2) (if g14 (mp R m2) < R 19 m2 then R 19 m2 else g14 (mp R m2))) (by omega) (by omega) (vt_m hmp c_44 hg) _ _ _ I (lv_sub hl [2, 3, 0] rfl)
        · skip
          have c_44 := bI_f c_44
          refine lv_goto (tgt := 75) S.1 S.2.1 dX4_fillVersions_47 (by decide) ?_
          refine lv_iinc (v := nI (m2 + 1)) (lv' := [(2, .int (nI (m2 + 1))), (3, .ref a), (0, .ref (q 3)), (1, .int (nI d))]) S.1 S.2.1 dX4_fillVersions_75 hl (k := 3) rfl (nI_1 _) (by decide) rfl (fun ls hl => ?_)
          refine lv_goto (tgt := 20) S.1 S.2.1 dX4_fillVersions_78 (by decide) ?_
          exact ih_20 (m2 + 1) g14 (by omega) (by omega) (vt_a c_44 hg) _ _ _ I (lv_sub hl [2, 3, 0] rfl)
  exact loop_20 _ 0 (va_cpy (C 5) (C 14) (nI 0).toNatClampNeg (nI 0).toNatClampNeg (nI 8).toNatClampNeg) (Nat.lt_succ_self _) (Nat.zero_le _) (fun p hp => (cpy8 hp).trans (hC5 p hp)) _ _ _ I (lv_sub hl [1, 2, 0] rfl)
set_option maxHeartbeats 4000000 in
set_option maxRecDepth 100000 in
theorem x_quarrelHolds (l : Launch) (D : va_G) (cy : Nat → ClassId) (q : Nat → Nat) (K : Nat → Nat) (C : Nat → Nat → Int32) (O : Nat → Nat → Option Nat) (L : List Nat) (f : Nat → va_E) (N : Nat → Nat) (R : Nat → Nat → Int32) (d : Nat) (hW : WFm N R) (hrm : RelM K O L f N R) (hC5 : ∀ p, p < 8 → C 5 p = R 1 p) : MS (α := (Nat → Int32)) l D cy yX4_quarrelHolds cX4_quarrelHolds 4 (Option.some FieldType.boolean) rm_X4_quarrelHolds [.ref (q 3), .int (nI d)] (wX cy q K C O L f) (fun v_ (_ : Nat → Int32) => v_ = some (.int (bI (quF R (vtF R d (N 17)) (N 24))))) (fun u_ => wX cy q K (va_up C 14 u_) O L f) := by
  refine MS.mk2 (by decide) (Nat.le_of_ble_eq_true rfl) [(0, .ref (q 3)), (1, .int (nI d))] rfl ?_
  intro p e s m args below meth c A ls Q hQ S hr hlk hnm hK hA I hl
  have hW0 := hW
  obtain ⟨hB, hPt, hBo, hH, hM, hQu⟩ := hW0
  have hB0 := hB
  obtain ⟨b0, b6, b17, b24, b30⟩ := hB0
  have hrm0 := hrm
  obtain ⟨k7, k8, hMe, hQe⟩ := hrm0
  refine lv_aload_n S.1 S.2.1 dX4_quarrelHolds_0 rfl (lv_at hl 0 rfl) ?_
  refine lv_iload_n S.1 S.2.1 dX4_quarrelHolds_1 rfl (lv_at hl 1 rfl) ?_
  refine cV (np := 1) (ci := 4) (q0 := 3) (As := [.int (nI d)]) (rest := []) S (x_fillVersions l D cy q K C O L f N R d hW hrm hC5) hK hA I wm_X4_46 wi_X4_fillVersions ws_X4_X4_fillVersions wn_X4 wk_X4_fillVersions ⟨rfl, hd_X4_fillVersions⟩ rfl ⟨by decide, by decide⟩ rfl rfl hl.1 rfl (Nat.le_of_ble_eq_true rfl) dX4_quarrelHolds_2 ⟨by decide, by decide⟩ (fun v_ u_ H locs h_ I => ?_)
  obtain ⟨rfl, hf14_2⟩ := h_
  generalize u_ = f14_2 at hf14_2 I
  have hf14_2 : ∀ p, p < 8 → f14_2 p = vtF R d (N 17) p := hf14_2
  have I : IX D A s.heap (wX cy q K (va_up C 14 f14_2) O L f) H locs := I
  refine W.eq (g2 := F0 m 5 ls []) rfl ?_
  refine lv_iconst (v := nI 0) S.1 S.2.1 dX4_quarrelHolds_5 (by decide) ?_
  refine lv_istore_n (lv' := [(2, .int (nI 0)), (0, .ref (q 3)), (1, .int (nI d))]) S.1 S.2.1 dX4_quarrelHolds_6 rfl hl (by decide) rfl (fun ls hl => ?_)
  have loop_7 : ∀ (k_ : Nat) (i : Nat), N 24 - i < k_ → i ≤ N 24 → quF R f14_2 i = false → ∀ (H : Heap) (locs : List Loc) (ls : Array Slot), IX D A s.heap (wX cy q K (va_up C 14 f14_2) O L f) H locs → lv_has ls 4 [(0, .ref (q 3)), (1, .int (nI d)), (2, .int (nI i))] → W p l e rm_X4_quarrelHolds s m args below meth c H locs 0 0 Q (F0 m 7 ls []) := by
    intro k_
    induction k_ with
    | zero => intro i hm_; exact absurd hm_ (Nat.not_lt_zero _)
    | succ k_ ih_7 =>
      intro i hm_ hi hq H locs ls I hl
      refine lv_iload_n S.1 S.2.1 dX4_quarrelHolds_7 rfl (lv_at hl 2 rfl) ?_
      refine lv_aload_n S.1 S.2.1 dX4_quarrelHolds_8 rfl (lv_at hl 0 rfl) ?_
      refine rg (ci := 4) (q0 := 3) (v := .int (nI (K 8))) 6 S hK I cl_X4 rfl wf_X4_43 (by decide) rfl rfl rfl dX4_quarrelHolds_9 ?_
      refine lv_icmp_ge (tgt := 45) S.1 S.2.1 dX4_quarrelHolds_12 (by decide) (fun c_12 => ?_) (fun c_12 => ?_)
      · skip
        have c_12o := c_12
        have c_12 := nI_cgeT (by omega) (by omega) c_12
        refine lv_iconst (v := nI 0) S.1 S.2.1 dX4_quarrelHolds_45 (by decide) ?_
        exact ru_z hQ S hr hlk (by decide) (u := f14_2) I (congrArg (fun z => some (Value.int z)) (bI_0 (by rw [← (quF_cg (N := N) hQu (g := f14_2) (fun p hp => hf14_2 p (by omega)) (N 24) (Nat.le_refl _)), show N 24 = i by omega]; exact hq))) dX4_quarrelHolds_46
      · skip
        have c_12o := c_12
        have c_12 := nI_cgeF (by omega) (by omega) c_12
        refine lv_aload_n S.1 S.2.1 dX4_quarrelHolds_15 rfl (lv_at hl 0 rfl) ?_
        refine rg (ci := 4) (q0 := 3) (v := .ref (q 13)) 3 S hK I cl_X4 rfl wf_X4_19 (by decide) rfl rfl rfl dX4_quarrelHolds_16 ?_
        refine lv_iload_n S.1 S.2.1 dX4_quarrelHolds_19 rfl (lv_at hl 2 rfl) ?_
        obtain ⟨a, ho13, ha, hf⟩ := hQe i (by omega)
        refine rq (q0 := 13) (n := 8) (t0 := 4) (g := O 13) i S hK I rfl rfl rfl (by omega) (by decide) dX4_quarrelHolds_20 ?_
        refine tV (y := .ref a) (by rw [ho13]; rfl) ?_
        refine lv_astore_n (lv' := [(3, .ref a), (0, .ref (q 3)), (1, .int (nI d)), (2, .int (nI i))]) S.1 S.2.1 dX4_quarrelHolds_21 rfl hl (by decide) rfl (fun ls hl => ?_)
        refine lv_aload_n S.1 S.2.1 dX4_quarrelHolds_22 rfl (lv_at hl 0 rfl) ?_
        refine lv_ifnull S.1 S.2.1 dX4_quarrelHolds_23 ?_
        refine lv_aload_n S.1 S.2.1 dX4_quarrelHolds_26 rfl (lv_at hl 0 rfl) ?_
        refine lv_aload_n S.1 S.2.1 dX4_quarrelHolds_27 rfl (lv_at hl 1 rfl) ?_
        refine rg (ci := 4) (q0 := 3) (v := .ref (q 14)) 4 S hK I cl_X4 rfl wf_X4_23 (by decide) rfl rfl rfl dX4_quarrelHolds_28 ?_
        refine cVP (np := 1) (ci := 7) (As := [.ref (q 14)]) (rest := []) (fs := [.int (R 25 (4 * i)), .int (R 25 (4 * i + 1)), .int (R 25 (4 * i + 2)), .int (R 25 (4 * i + 3))]) S (x_holds l D cy q K (va_up C 14 f14_2) O L f N R a i hW (by omega) ha hf) hK hA I wm_X4_68 wi_X7_holds ws_X7_X7_holds wn_X7 wk_X7_holds ⟨rfl, hd_X7_holds⟩ rfl ⟨by decide, by decide⟩ rfl ha hf hl.1 rfl (Nat.le_of_ble_eq_true rfl) dX4_quarrelHolds_31 ⟨by decide, by decide⟩ (fun v_ u_ H locs h_ I => ?_)
        obtain rfl := h_
        have I : IX D A s.heap (wX cy q K (va_up C 14 f14_2) O L f) H locs := I
        refine W.eq (g2 := F0 m 34 ls [.int (bI (decide (f14_2 (qa R i) = R 25 (4 * i + 1)) && decide (f14_2 (qb R i) = R 25 (4 * i + 3))))]) rfl ?_
        refine lv_if_eq (tgt := 39) S.1 S.2.1 dX4_quarrelHolds_34 (by decide) (fun c_34 => ?_) (fun c_34 => ?_)
        · skip
          have c_34 := bI_f c_34
          refine lv_iinc (v := nI (i + 1)) (lv' := [(2, .int (nI (i + 1))), (3, .ref a), (0, .ref (q 3)), (1, .int (nI d))]) S.1 S.2.1 dX4_quarrelHolds_39 hl (k := 3) rfl (nI_1 _) (by decide) rfl (fun ls hl => ?_)
          refine lv_goto (tgt := 7) S.1 S.2.1 dX4_quarrelHolds_42 (by decide) ?_
          exact ih_7 (i + 1) (by omega) (by omega) (by rw [quF, hq, c_34]; rfl) _ _ _ I (lv_sub hl [2, 3, 0] rfl)
        · skip
          have c_34 := bI_t c_34
          refine lv_iconst (v := nI 1) S.1 S.2.1 dX4_quarrelHolds_37 (by decide) ?_
          exact ru_z hQ S hr hlk (by decide) (u := f14_2) I (congrArg (fun z => some (Value.int z)) (bI_1 (by rw [← (quF_cg (N := N) hQu (g := f14_2) (fun p hp => hf14_2 p (by omega)) (N 24) (Nat.le_refl _))]; exact quF_true (show i < N 24 by omega) c_34))) dX4_quarrelHolds_38
  exact loop_7 _ 0 (Nat.lt_succ_self _) (Nat.zero_le _) rfl _ _ _ I (lv_sub hl [1, 2, 0] rfl)
set_option maxHeartbeats 4000000 in
set_option maxRecDepth 100000 in
theorem x_hasAllNeeds (l : Launch) (D : va_G) (cy : Nat → ClassId) (q : Nat → Nat) (K : Nat → Nat) (C : Nat → Nat → Int32) (O : Nat → Nat → Option Nat) (L : List Nat) (f : Nat → va_E) (N : Nat → Nat) (R : Nat → Nat → Int32) (d : Nat) (hW : WFm N R) (hrm : RelM K O L f N R) : MS (α := Unit) l D cy yX4_hasAllNeeds cX4_hasAllNeeds 4 (Option.some FieldType.boolean) rm_X4_hasAllNeeds [.ref (q 3), .int (nI d)] (wX cy q K C O L f) (fun v_ (_ : Unit) => v_ = some (.int (bI (neF R d (N 17))))) (fun _ => wX cy q K C O L f) := by
  refine MS.mk2 (by decide) (Nat.le_of_ble_eq_true rfl) [(0, .ref (q 3)), (1, .int (nI d))] rfl ?_
  intro p e s m args below meth c A ls Q hQ S hr hlk hnm hK hA I hl
  have hW0 := hW
  obtain ⟨hB, hPt, hBo, hH, hM, hQu⟩ := hW0
  have hB0 := hB
  obtain ⟨b0, b6, b17, b24, b30⟩ := hB0
  have hrm0 := hrm
  obtain ⟨k7, k8, hMe, hQe⟩ := hrm0
  refine lv_iconst (v := nI 0) S.1 S.2.1 dX4_hasAllNeeds_0 (by decide) ?_
  refine lv_istore_n (lv' := [(2, .int (nI 0)), (0, .ref (q 3)), (1, .int (nI d))]) S.1 S.2.1 dX4_hasAllNeeds_1 rfl hl (by decide) rfl (fun ls hl => ?_)
  have loop_2 : ∀ (k_ : Nat) (i : Nat), N 17 - i < k_ → i ≤ N 17 → neF R d i = true → ∀ (H : Heap) (locs : List Loc) (ls : Array Slot), IX D A s.heap (wX cy q K C O L f) H locs → lv_has ls 4 [(0, .ref (q 3)), (1, .int (nI d)), (2, .int (nI i))] → W p l e rm_X4_hasAllNeeds s m args below meth c H locs 0 0 Q (F0 m 2 ls []) := by
    intro k_
    induction k_ with
    | zero => intro i hm_; exact absurd hm_ (Nat.not_lt_zero _)
    | succ k_ ih_2 =>
      intro i hm_ hi hne H locs ls I hl
      refine lv_iload_n S.1 S.2.1 dX4_hasAllNeeds_2 rfl (lv_at hl 2 rfl) ?_
      refine lv_aload_n S.1 S.2.1 dX4_hasAllNeeds_3 rfl (lv_at hl 0 rfl) ?_
      refine rg (ci := 4) (q0 := 3) (v := .int (nI (K 7))) 5 S hK I cl_X4 rfl wf_X4_35 (by decide) rfl rfl rfl dX4_hasAllNeeds_4 ?_
      refine lv_icmp_ge (tgt := 59) S.1 S.2.1 dX4_hasAllNeeds_7 (by decide) (fun c_7 => ?_) (fun c_7 => ?_)
      · skip
        have c_7o := c_7
        have c_7 := nI_cgeT (by omega) (by omega) c_7
        refine lv_iconst (v := nI 1) S.1 S.2.1 dX4_hasAllNeeds_59 (by decide) ?_
        exact ru_z hQ S hr hlk (by decide) (u := ()) I (congrArg (fun z => some (Value.int z)) (bI_1 (by rw [show N 17 = i by omega]; exact hne))) dX4_hasAllNeeds_60
      · skip
        have c_7o := c_7
        have c_7 := nI_cgeF (by omega) (by omega) c_7
        refine lv_aload_n S.1 S.2.1 dX4_hasAllNeeds_10 rfl (lv_at hl 0 rfl) ?_
        refine rg (ci := 4) (q0 := 3) (v := .ref (q 12)) 2 S hK I cl_X4 rfl wf_X4_11 (by decide) rfl rfl rfl dX4_hasAllNeeds_11 ?_
        refine lv_iload_n S.1 S.2.1 dX4_hasAllNeeds_14 rfl (lv_at hl 2 rfl) ?_
        obtain ⟨a, ho12, ha, hf⟩ := hMe i (by omega)
        refine rq (q0 := 12) (n := 8) (t0 := 3) (g := O 12) i S hK I rfl rfl rfl (by omega) (by decide) dX4_hasAllNeeds_15 ?_
        refine tV (y := .ref a) (by rw [ho12]; rfl) ?_
        refine lv_astore_n (lv' := [(3, .ref a), (0, .ref (q 3)), (1, .int (nI d)), (2, .int (nI i))]) S.1 S.2.1 dX4_hasAllNeeds_16 rfl hl (by decide) rfl (fun ls hl => ?_)
        refine lv_aload_n S.1 S.2.1 dX4_hasAllNeeds_17 rfl (lv_at hl 0 rfl) ?_
        refine lv_ifnull S.1 S.2.1 dX4_hasAllNeeds_18 ?_
        refine lv_iload_n S.1 S.2.1 dX4_hasAllNeeds_21 rfl (lv_at hl 2 rfl) ?_
        refine lv_iload_n S.1 S.2.1 dX4_hasAllNeeds_22 rfl (lv_at hl 3 rfl) ?_
        refine cN (np := 2) (As := [.int (nI d), .int (nI i)]) (rest := []) S (x_isIn l D cy (wX cy q K C O L f) d i (by omega)) hK hA I (by decide +kernel) wt_X11_isIn wn_X11 wk_X11_isIn hd_X11_isIn rfl ⟨by decide, by decide⟩ hl.1 rfl (Nat.le_of_ble_eq_true rfl) dX4_hasAllNeeds_23 ⟨by decide, by decide⟩ (fun v_ u_ H locs h_ I => ?_)
        obtain rfl := h_
        have I : IX D A s.heap (wX cy q K C O L f) H locs := I
        refine W.eq (g2 := F0 m 26 ls [.int (bI (d.testBit i))]) rfl ?_
        refine lv_if_eq (tgt := 53) S.1 S.2.1 dX4_hasAllNeeds_26 (by decide) (fun c_26 => ?_) (fun c_26 => ?_)
        · skip
          have c_26 := bI_f c_26
          refine lv_iinc (v := nI (i + 1)) (lv' := [(2, .int (nI (i + 1))), (3, .ref a), (0, .ref (q 3)), (1, .int (nI d))]) S.1 S.2.1 dX4_hasAllNeeds_53 hl (k := 3) rfl (nI_1 _) (by decide) rfl (fun ls hl => ?_)
          refine lv_goto (tgt := 2) S.1 S.2.1 dX4_hasAllNeeds_56 (by decide) ?_
          exact ih_2 (i + 1) (by omega) (by omega) (by rw [neF, hne]; simp [c_26]) _ _ _ I (lv_sub hl [2, 3, 0] rfl)
        · skip
          have c_26 := bI_t c_26
          refine lv_aload_n S.1 S.2.1 dX4_hasAllNeeds_29 rfl (lv_at hl 0 rfl) ?_
          refine rgP (ci := 3) (T := TX3) (fs := [.int (R 18 i), .int (R 19 i), .int (R 20 i), .int (R 21 i), .int (R 22 i), .int (R 23 i)]) 3 S hK I cl_X3 rfl wf_X4_72 (by decide) rfl ha hf rfl dX4_hasAllNeeds_30 ?_
          refine lv_iconst (v := (-1)) S.1 S.2.1 dX4_hasAllNeeds_33 (by decide) ?_
          refine lv_icmp_ne (tgt := 40) S.1 S.2.1 dX4_hasAllNeeds_34 (by decide) (fun c_34 => ?_) (fun c_34 => ?_)
          · skip
            have hmn := need_1 (hM i (by omega)).2.2.2.2.1 c_34 (by omega)
            have hmn2 := hmn.1.2
            refine lv_iload_n S.1 S.2.1 dX4_hasAllNeeds_40 rfl (lv_at hl 2 rfl) ?_
            refine lv_aload_n S.1 S.2.1 dX4_hasAllNeeds_41 rfl (lv_at hl 0 rfl) ?_
            refine rgP (ci := 3) (T := TX3) (fs := [.int (R 18 i), .int (R 19 i), .int (R 20 i), .int (R 21 i), .int (R 22 i), .int (R 23 i)]) 3 S hK I cl_X3 rfl wf_X4_72 (by decide) rfl ha hf rfl dX4_hasAllNeeds_42 ?_
            refine tI (y := nI (mn R i)) hmn.1.1 ?_
            refine cN (np := 2) (As := [.int (nI d), .int (nI (mn R i))]) (rest := []) S (x_isIn l D cy (wX cy q K C O L f) d (mn R i) (by omega)) hK hA I (by decide +kernel) wt_X11_isIn wn_X11 wk_X11_isIn hd_X11_isIn rfl ⟨by decide, by decide⟩ hl.1 rfl (Nat.le_of_ble_eq_true rfl) dX4_hasAllNeeds_45 ⟨by decide, by decide⟩ (fun v_ u_ H locs h_ I => ?_)
            obtain rfl := h_
            have I : IX D A s.heap (wX cy q K C O L f) H locs := I
            refine W.eq (g2 := F0 m 48 ls [.int (bI (d.testBit (mn R i)))]) rfl ?_
            refine lv_if_ne (tgt := 53) S.1 S.2.1 dX4_hasAllNeeds_48 (by decide) (fun c_48 => ?_) (fun c_48 => ?_)
            · skip
              have c_48 := bI_t c_48
              refine lv_iinc (v := nI (i + 1)) (lv' := [(2, .int (nI (i + 1))), (3, .ref a), (0, .ref (q 3)), (1, .int (nI d))]) S.1 S.2.1 dX4_hasAllNeeds_53 hl (k := 3) rfl (nI_1 _) (by decide) rfl (fun ls hl => ?_)
              refine lv_goto (tgt := 2) S.1 S.2.1 dX4_hasAllNeeds_56 (by decide) ?_
              exact ih_2 (i + 1) (by omega) (by omega) (by rw [neF, hne]; simp [c_48]) _ _ _ I (lv_sub hl [2, 3, 0] rfl)
            · skip
              have c_48 := bI_f c_48
              refine lv_iconst (v := nI 0) S.1 S.2.1 dX4_hasAllNeeds_51 (by decide) ?_
              exact ru_z hQ S hr hlk (by decide) (u := ()) I (congrArg (fun z => some (Value.int z)) (bI_0 (neF_false (show i < N 17 by omega) (by simp [c_26, c_48, hmn.2])))) dX4_hasAllNeeds_52
          · skip
            refine lv_goto (tgt := 53) S.1 S.2.1 dX4_hasAllNeeds_37 (by decide) ?_
            refine lv_iinc (v := nI (i + 1)) (lv' := [(2, .int (nI (i + 1))), (3, .ref a), (0, .ref (q 3)), (1, .int (nI d))]) S.1 S.2.1 dX4_hasAllNeeds_53 hl (k := 3) rfl (nI_1 _) (by decide) rfl (fun ls hl => ?_)
            refine lv_goto (tgt := 2) S.1 S.2.1 dX4_hasAllNeeds_56 (by decide) ?_
            exact ih_2 (i + 1) (by omega) (by omega) (by rw [neF, hne]; simp [need_m1 c_34]) _ _ _ I (lv_sub hl [2, 3, 0] rfl)
  exact loop_2 _ 0 (Nat.lt_succ_self _) (Nat.zero_le _) rfl _ _ _ I (lv_sub hl [1, 2, 0] rfl)
set_option maxHeartbeats 4000000 in
set_option maxRecDepth 100000 in
theorem x_isSound (l : Launch) (D : va_G) (cy : Nat → ClassId) (q : Nat → Nat) (K : Nat → Nat) (C : Nat → Nat → Int32) (O : Nat → Nat → Option Nat) (L : List Nat) (f : Nat → va_E) (N : Nat → Nat) (R : Nat → Nat → Int32) (d : Nat) (hW : WFm N R) (hrm : RelM K O L f N R) (hC5 : ∀ p, p < 8 → C 5 p = R 1 p) : MS (α := (Nat → Int32)) l D cy yX4_isSound cX4_isSound 2 (Option.some FieldType.boolean) rm_X4_isSound [.ref (q 3), .int (nI d)] (wX cy q K C O L f) (fun v_ (_ : Nat → Int32) => v_ = some (.int (bI (soB N R d)))) (fun u_ => wX cy q K (va_up C 14 u_) O L f) := by
  refine MS.mk2 (by decide) (Nat.le_of_ble_eq_true rfl) [(0, .ref (q 3)), (1, .int (nI d))] rfl ?_
  intro p e s m args below meth c A ls Q hQ S hr hlk hnm hK hA I hl
  have hW0 := hW
  obtain ⟨hB, hPt, hBo, hH, hM, hQu⟩ := hW0
  have hB0 := hB
  obtain ⟨b0, b6, b17, b24, b30⟩ := hB0
  have hrm0 := hrm
  obtain ⟨k7, k8, hMe, hQe⟩ := hrm0
  refine lv_aload_n S.1 S.2.1 dX4_isSound_0 rfl (lv_at hl 0 rfl) ?_
  refine lv_iload_n S.1 S.2.1 dX4_isSound_1 rfl (lv_at hl 1 rfl) ?_
  refine cV (np := 1) (ci := 4) (q0 := 3) (As := [.int (nI d)]) (rest := []) S (x_hasAllNeeds l D cy q K C O L f N R d hW hrm) hK hA I wm_X4_61 wi_X4_hasAllNeeds ws_X4_X4_hasAllNeeds wn_X4 wk_X4_hasAllNeeds ⟨rfl, hd_X4_hasAllNeeds⟩ rfl ⟨by decide, by decide⟩ rfl rfl hl.1 rfl (Nat.le_of_ble_eq_true rfl) dX4_isSound_2 ⟨by decide, by decide⟩ (fun v_ u_ H locs h_ I => ?_)
  obtain rfl := h_
  have I : IX D A s.heap (wX cy q K C O L f) H locs := I
  refine W.eq (g2 := F0 m 5 ls [.int (bI (neF R d (N 17)))]) rfl ?_
  refine lv_if_eq (tgt := 20) S.1 S.2.1 dX4_isSound_5 (by decide) (fun c_5 => ?_) (fun c_5 => ?_)
  · skip
    have c_5 := bI_f c_5
    refine lv_iconst (v := nI 0) S.1 S.2.1 dX4_isSound_20 (by decide) ?_
    exact ru_z hQ S hr hlk (by decide) (u := C 14) I (congrArg (fun z => some (Value.int z)) (bI_0 (by simp [soB, c_5]))) dX4_isSound_21
  · skip
    have c_5 := bI_t c_5
    refine lv_aload_n S.1 S.2.1 dX4_isSound_8 rfl (lv_at hl 0 rfl) ?_
    refine lv_iload_n S.1 S.2.1 dX4_isSound_9 rfl (lv_at hl 1 rfl) ?_
    refine cV (np := 1) (ci := 4) (q0 := 3) (As := [.int (nI d)]) (rest := []) S (x_quarrelHolds l D cy q K C O L f N R d hW hrm hC5) hK hA I wm_X4_65 wi_X4_quarrelHolds ws_X4_X4_quarrelHolds wn_X4 wk_X4_quarrelHolds ⟨rfl, hd_X4_quarrelHolds⟩ rfl ⟨by decide, by decide⟩ rfl rfl hl.1 rfl (Nat.le_of_ble_eq_true rfl) dX4_isSound_10 ⟨by decide, by decide⟩ (fun v_ u_ H locs h_ I => ?_)
    obtain rfl := h_
    generalize u_ = f14_10 at I
    have I : IX D A s.heap (wX cy q K (va_up C 14 f14_10) O L f) H locs := I
    refine W.eq (g2 := F0 m 13 ls [.int (bI (quF R (vtF R d (N 17)) (N 24)))]) rfl ?_
    refine lv_if_ne (tgt := 20) S.1 S.2.1 dX4_isSound_13 (by decide) (fun c_13 => ?_) (fun c_13 => ?_)
    · skip
      have c_13 := bI_t c_13
      refine lv_iconst (v := nI 0) S.1 S.2.1 dX4_isSound_20 (by decide) ?_
      exact ru_z hQ S hr hlk (by decide) (u := f14_10) I (congrArg (fun z => some (Value.int z)) (bI_0 (by simp [soB, c_5, c_13]))) dX4_isSound_21
    · skip
      have c_13 := bI_f c_13
      refine lv_iconst (v := nI 1) S.1 S.2.1 dX4_isSound_16 (by decide) ?_
      refine lv_goto (tgt := 21) S.1 S.2.1 dX4_isSound_17 (by decide) ?_
      exact ru_z hQ S hr hlk (by decide) (u := f14_10) I (congrArg (fun z => some (Value.int z)) (bI_1 (by simp [soB, c_5, c_13]))) dX4_isSound_21
set_option maxHeartbeats 4000000 in
set_option maxRecDepth 100000 in
theorem x_riskAfter (l : Launch) (D : va_G) (cy : Nat → ClassId) (q : Nat → Nat) (K : Nat → Nat) (C : Nat → Nat → Int32) (O : Nat → Nat → Option Nat) (L : List Nat) (f : Nat → va_E) (N : Nat → Nat) (R : Nat → Nat → Int32) (d : Nat) (hW : WFm N R) (hrel : RelN K C O L f N R) (hrm : RelM K O L f N R) (hrg : RelG K C R) : MS (α := Nat × Nat × Nat × (Nat → Int32) × (Nat → Int32) × (Nat → Int32) × (Nat → Int32)) l D cy yX4_riskAfter cX4_riskAfter 2 (Option.some FieldType.int) rm_X4_riskAfter [.ref (q 3), .int (nI d)] (wX cy q K C O L f) (fun v_ (_ : Nat × Nat × Nat × (Nat → Int32) × (Nat → Int32) × (Nat → Int32) × (Nat → Int32)) => v_ = some (.int (nI (rsk N R (vtF R d (N 17)))))) (fun u_ => wX cy q (va_up (va_up (va_up K 4 u_.1) 5 u_.2.1) 6 u_.2.2.1) (va_up (va_up (va_up (va_up C 9 u_.2.2.2.1) 10 u_.2.2.2.2.1) 11 u_.2.2.2.2.2.1) 14 u_.2.2.2.2.2.2) O L f) := by
  refine MS.mk2 (by decide) (Nat.le_of_ble_eq_true rfl) [(0, .ref (q 3)), (1, .int (nI d))] rfl ?_
  intro p e s m args below meth c A ls Q hQ S hr hlk hnm hK hA I hl
  have hW0 := hW
  obtain ⟨hB, hPt, hBo, hH, hM, hQu⟩ := hW0
  have hB0 := hB
  obtain ⟨b0, b6, b17, b24, b30⟩ := hB0
  have hrm0 := hrm
  obtain ⟨k7, k8, hMe, hQe⟩ := hrm0
  have hrg0 := hrg
  obtain ⟨hC5, hG, hG3, hG2⟩ := hrg0
  refine lv_aload_n S.1 S.2.1 dX4_riskAfter_0 rfl (lv_at hl 0 rfl) ?_
  refine lv_iload_n S.1 S.2.1 dX4_riskAfter_1 rfl (lv_at hl 1 rfl) ?_
  refine cV (np := 1) (ci := 4) (q0 := 3) (As := [.int (nI d)]) (rest := []) S (x_fillVersions l D cy q K C O L f N R d hW hrm hC5) hK hA I wm_X4_46 wi_X4_fillVersions ws_X4_X4_fillVersions wn_X4 wk_X4_fillVersions ⟨rfl, hd_X4_fillVersions⟩ rfl ⟨by decide, by decide⟩ rfl rfl hl.1 rfl (Nat.le_of_ble_eq_true rfl) dX4_riskAfter_2 ⟨by decide, by decide⟩ (fun v_ u_ H locs h_ I => ?_)
  obtain ⟨rfl, hf14_2⟩ := h_
  generalize u_ = f14_2 at hf14_2 I
  have hf14_2 : ∀ p, p < 8 → f14_2 p = vtF R d (N 17) p := hf14_2
  have I : IX D A s.heap (wX cy q K (va_up C 14 f14_2) O L f) H locs := I
  refine W.eq (g2 := F0 m 5 ls []) rfl ?_
  refine lv_aload_n S.1 S.2.1 dX4_riskAfter_5 rfl (lv_at hl 0 rfl) ?_
  refine rg (ci := 4) (q0 := 3) (v := .ref (q 2)) 1 S hK I cl_X4 rfl wf_X4_31 (by decide) rfl rfl rfl dX4_riskAfter_6 ?_
  refine lv_aload_n S.1 S.2.1 dX4_riskAfter_9 rfl (lv_at hl 0 rfl) ?_
  refine rg (ci := 4) (q0 := 3) (v := .ref (q 14)) 4 S hK I cl_X4 rfl wf_X4_23 (by decide) rfl rfl rfl dX4_riskAfter_10 ?_
  refine lv_aload_n S.1 S.2.1 dX4_riskAfter_13 rfl (lv_at hl 0 rfl) ?_
  refine rg (ci := 4) (q0 := 3) (v := .ref (q 1)) 0 S hK I cl_X4 rfl wf_X4_27 (by decide) rfl rfl rfl dX4_riskAfter_14 ?_
  refine rg (ci := 5) (q0 := 1) (v := .int (nI (K 3))) 7 S hK I cl_X5 rfl wf_X4_50 (by decide) rfl rfl rfl dX4_riskAfter_17 ?_
  refine cV (np := 2) (ci := 9) (q0 := 2) (As := [.ref (q 14), .int (nI (K 3))]) (rest := []) S (x_run l D cy q K (va_up C 14 f14_2) O L f N R hW (RelN_14 hrel) 14 (K 3) (by decide) hG) hK hA I wm_X4_55 wi_X9_run ws_X9_X9_run wn_X9 wk_X9_run ⟨rfl, hd_X9_run⟩ rfl ⟨by decide, by decide⟩ rfl rfl hl.1 rfl (Nat.le_of_ble_eq_true rfl) dX4_riskAfter_20 ⟨by decide, by decide⟩ (fun v_ u_ H locs h_ I => ?_)
  obtain ⟨rfl, hu4_20, hu5_20, hu5l_20, hu6_20, hur_20⟩ := h_
  obtain ⟨u4_20, u5_20, u6_20, u9_20, u10_20, u11_20⟩ := u_
  have hu4_20 : u4_20 = msk (stB R f14_2) (N 6) := hu4_20
  have hu5_20 : ∀ z, z < 8 → (u5_20).testBit z = (decide (z < N 0) && tkN (eS N R f14_2) z) := hu5_20
  have hu5l_20 : u5_20 < 256 := hu5l_20
  have hur_20 : RowC N R f14_2 (eS N R f14_2) u9_20 u10_20 u11_20 := hur_20
  have I : IX D A s.heap (wX cy q (va_up (va_up (va_up K 4 u4_20) 5 u5_20) 6 u6_20) (va_up (va_up (va_up (va_up C 9 u9_20) 10 u10_20) 11 u11_20) 14 f14_2) O L f) H locs := I
  refine W.eq (g2 := F0 m 23 ls [.int (nI (rsk N R f14_2))]) rfl ?_
  exact ru_i hQ S hr hlk (u := (u4_20, u5_20, u6_20, u9_20, u10_20, u11_20, f14_2)) I (congrArg (fun z => some (Value.int z)) (by rw [rsk_cg hH (fun p hp => hf14_2 p (by omega))])) dX4_riskAfter_23
set_option maxHeartbeats 4000000 in
set_option maxRecDepth 100000 in
theorem x_needIsMet (l : Launch) (D : va_G) (cy : Nat → ClassId) (q : Nat → Nat) (K : Nat → Nat) (C : Nat → Nat → Int32) (O : Nat → Nat → Option Nat) (L : List Nat) (f : Nat → va_E) (N : Nat → Nat) (R : Nat → Nat → Int32) (a j : Nat) (hW : WFm N R) (hj : j < N 17) (hrm : RelM K O L f N R) (hC5 : ∀ p, p < 8 → C 5 p = R 1 p) (ha : a ∈ L) (hf : f a = mcell R j) : MS (α := Unit) l D cy yX4_needIsMet cX4_needIsMet 3 (Option.some FieldType.boolean) rm_X4_needIsMet [.ref (q 3), .ref a] (wX cy q K C O L f) (fun v_ (_ : Unit) => v_ = some (.int (bI (decide (R 21 j < 0) || decide (R 19 (mn R j) ≤ R 1 (mp R (mn R j))))))) (fun _ => wX cy q K C O L f) := by
  refine MS.mk2 (by decide) (Nat.le_of_ble_eq_true rfl) [(0, .ref (q 3)), (1, .ref a)] rfl ?_
  intro p e s m args below meth c A ls Q hQ S hr hlk hnm hK hA I hl
  have hW0 := hW
  obtain ⟨hB, hPt, hBo, hH, hM, hQu⟩ := hW0
  have hB0 := hB
  obtain ⟨b0, b6, b17, b24, b30⟩ := hB0
  have hrm0 := hrm
  obtain ⟨k7, k8, hMe, hQe⟩ := hrm0
  refine lv_aload_n S.1 S.2.1 dX4_needIsMet_0 rfl (lv_at hl 0 rfl) ?_
  refine lv_aload_n S.1 S.2.1 dX4_needIsMet_1 rfl (lv_at hl 1 rfl) ?_
  refine rgP (ci := 3) (T := TX3) (fs := [.int (R 18 j), .int (R 19 j), .int (R 20 j), .int (R 21 j), .int (R 22 j), .int (R 23 j)]) 3 S hK I cl_X3 rfl wf_X4_72 (by decide) rfl ha hf rfl dX4_needIsMet_2 ?_
  refine cV (np := 1) (ci := 4) (q0 := 3) (As := [.int (R 21 j)]) (rest := []) S (x_mendAt l D cy q K C O L f (R 21 j) (by omega)) hK hA I wm_X4_75 wi_X4_mendAt ws_X4_X4_mendAt wn_X4 wk_X4_mendAt ⟨rfl, hd_X4_mendAt⟩ rfl ⟨by decide, by decide⟩ rfl rfl hl.1 rfl (Nat.le_of_ble_eq_true rfl) dX4_needIsMet_5 ⟨by decide, by decide⟩ (fun v_ u_ H locs h_ I => ?_)
  obtain rfl := h_
  have I : IX D A s.heap (wX cy q K C O L f) H locs := I
  refine W.eq (g2 := F0 m 8 ls (va_rf (if isP (K 7) (R 21 j) = true then O 12 (R 21 j).toNatClampNeg else none) :: [])) rfl ?_
  by_cases hnd : R 21 j = -1
  · skip
    have hlt := need_m1 hnd
    refine tV (y := .null) (mat_none (nx_no1 hlt)) ?_
    refine lv_astore_nN (lv' := [(2, .null), (0, .ref (q 3)), (1, .ref a)]) S.1 S.2.1 dX4_needIsMet_8 rfl hl (by decide) rfl (fun ls hl => ?_)
    refine lv_aload_nN S.1 S.2.1 dX4_needIsMet_9 rfl (lv_at hl 0 rfl) ?_
    refine lv_ifnullN (tgt := 32) S.1 S.2.1 dX4_needIsMet_10 (by decide) ?_
    refine lv_iconst (v := nI 1) S.1 S.2.1 dX4_needIsMet_32 (by decide) ?_
    refine lv_goto (tgt := 37) S.1 S.2.1 dX4_needIsMet_33 (by decide) ?_
    exact ru_z hQ S hr hlk (by decide) (u := ()) I (congrArg (fun z => some (Value.int z)) (bI_1 (by simp [hlt]))) dX4_needIsMet_37
  · skip
    have hmn := need_1 (hM j hj).2.2.2.2.1 hnd (by omega)
    have hmn2 := hmn.1.2
    have hnl := hmn.2
    obtain ⟨b, ho12, hb, hfb⟩ := hMe (mn R j) (by omega)
    have hmp := (hM (mn R j) (by omega)).2.1
    refine tV (y := .ref b) (mat_some hmn.1.1 (by omega) (by omega) ho12) ?_
    refine lv_astore_n (lv' := [(2, .ref b), (0, .ref (q 3)), (1, .ref a)]) S.1 S.2.1 dX4_needIsMet_8 rfl hl (by decide) rfl (fun ls hl => ?_)
    refine lv_aload_n S.1 S.2.1 dX4_needIsMet_9 rfl (lv_at hl 0 rfl) ?_
    refine lv_ifnull S.1 S.2.1 dX4_needIsMet_10 ?_
    refine lv_aload_n S.1 S.2.1 dX4_needIsMet_13 rfl (lv_at hl 1 rfl) ?_
    refine rg (ci := 4) (q0 := 3) (v := .ref (q 1)) 0 S hK I cl_X4 rfl wf_X4_27 (by decide) rfl rfl rfl dX4_needIsMet_14 ?_
    refine rg (ci := 5) (q0 := 1) (v := .ref (q 5)) 0 S hK I cl_X5 rfl wf_X4_79 (by decide) rfl rfl rfl dX4_needIsMet_17 ?_
    refine lv_aload_n S.1 S.2.1 dX4_needIsMet_20 rfl (lv_at hl 0 rfl) ?_
    refine rgP (ci := 3) (T := TX3) (fs := [.int (R 18 (mn R j)), .int (R 19 (mn R j)), .int (R 20 (mn R j)), .int (R 21 (mn R j)), .int (R 22 (mn R j)), .int (R 23 (mn R j))]) 0 S hK I cl_X3 rfl wf_X4_82 (by decide) rfl hb hfb rfl dX4_needIsMet_21 ?_
    refine tI (y := nI (mp R (mn R j))) ((hM (mn R j) (by omega)).1) ?_
    refine ri (q0 := 5) (n := 8) (f := C 5) (mp R (mn R j)) S hK I rfl rfl (by omega) (by decide) dX4_needIsMet_24 ?_
    refine lv_aload_n S.1 S.2.1 dX4_needIsMet_25 rfl (lv_at hl 0 rfl) ?_
    refine rgP (ci := 3) (T := TX3) (fs := [.int (R 18 (mn R j)), .int (R 19 (mn R j)), .int (R 20 (mn R j)), .int (R 21 (mn R j)), .int (R 22 (mn R j)), .int (R 23 (mn R j))]) 1 S hK I cl_X3 rfl wf_X4_85 (by decide) rfl hb hfb rfl dX4_needIsMet_26 ?_
    refine lv_icmp_lt (tgt := 36) S.1 S.2.1 dX4_needIsMet_29 (by decide) (fun c_29 => ?_) (fun c_29 => ?_)
    · skip
      refine lv_iconst (v := nI 0) S.1 S.2.1 dX4_needIsMet_36 (by decide) ?_
      exact ru_z hQ S hr hlk (by decide) (u := ()) I (congrArg (fun z => some (Value.int z)) (bI_0 (by rw [decide_eq_false hnl, Bool.false_or, ← hC5 _ (by omega), decide_eq_false (fa_of_lt c_29).2.1]))) dX4_needIsMet_37
    · skip
      refine lv_iconst (v := nI 1) S.1 S.2.1 dX4_needIsMet_32 (by decide) ?_
      refine lv_goto (tgt := 37) S.1 S.2.1 dX4_needIsMet_33 (by decide) ?_
      exact ru_z hQ S hr hlk (by decide) (u := ()) I (congrArg (fun z => some (Value.int z)) (bI_1 (by rw [decide_eq_false hnl, Bool.false_or, ← hC5 _ (by omega), decide_eq_true (fa_of_nlt c_29)]))) dX4_needIsMet_37
