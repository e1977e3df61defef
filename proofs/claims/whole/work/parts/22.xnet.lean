section XSP
variable {α : Type} {p : Program} {l : Launch} {e : Env} {R : Room} {s : State} {m : MethodId} {args : Array Value} {below : List Frame} {meth : Method} {c : Code} {H : Heap} {locs : List Loc} {cells slots mc ms : Nat} {Q : State → Prop}
variable {cc : ByteArray} {nL pc : Nat} {ls : Array Slot} {rest st : List Value} {D : va_G} {cy : Nat → ClassId} {A : Nat → Prop} {Ts : List Cond} {own : String} {ws : va_W}
variable {q : Nat → Nat} {K : Nat → Nat} {C : Nat → Nat → Int32} {O : Nat → Nat → Option Nat} {L : List Nat} {f : Nat → va_E}
/-- a reference of an array of references -/
theorem rq {q0 a n t0 : Nat} {g : Nat → Option Nat} {i : Int32} {Cn : String} (k : Nat) (S : CallFix p m c cc nL s args Ts own) (hK : KX D cy s) (I : IX D A s.heap ws H locs) (ha : ws[q0]? = some (a, .inl (cy t0, n, .inr (.inr (.inr (.inr g)))))) (ht : (tysX cy)[t0]? = some (cy t0, .object Cn)) (hi : i = nI k) (hk : k < n) (hn : n < 2 ^ 31) (hdg : decode cc pc = .ok (.aaload, 1))
    (kk : W p l e R s m args below meth c H locs cells slots Q (F0 m (pc + 1) ls (va_rf (g k) :: rest))) : W p l e R s m args below meth c H locs cells slots Q (F0 m pc ls (.int i :: .ref a :: rest)) := by
  subst hi
  refine va_aldq S.1 S.2.1 hK.1 I.1 q0 t0 ha ht (vp_in_nI hk hn) hdg ?_
  rw [nI_clamp (Nat.lt_trans hk hn)]
  exact kk
theorem wXv {vi : Nat} (hv : vi = 5 ∨ vi = 14) : (wX cy q K C O L f)[vi]? = some (q vi, .inl (cy 0, 8, .inl (C vi))) := by
  rcases hv with rfl | rfl <;> rfl
theorem hat_some {x : Int32} {j a : Nat} (hx : x = nI j) (hj : j < K 1) (hb : K 1 ≤ 12) (ho : O 8 j = some a) : va_rf (if isP (K 1) x = true then O 8 x.toNatClampNeg else none) = .ref a := by
  rw [hx, if_pos (isP_nI hj (by omega)), nI_clamp (by omega), ho]
  rfl
theorem hat_none {x : Int32} (h : isP (K 1) x = false) : va_rf (if isP (K 1) x = true then O 8 x.toNatClampNeg else none) = .null := by
  rw [h, if_neg Bool.false_ne_true]
  rfl
/-- hole instanceof Used, Dormant, Chained -/
theorem cIN {a idx k tk : Nat} {nm : String} {pa lo hi to tp aw : Int32} {x : Cond} (S : CallFix p m c cc nL s args (x :: uT) own) (hK : KX D cy s) (I : IX D A s.heap (wX cy q K C O L f) H locs) (hw : Cond.classLink own idx nm ∈ uT) (hk : k ≤ 4) (ha : a ∈ L) (hf : f a = hcell k pa lo hi to tp aw) (hn : (tk = 3 ∧ nm = RX10) ∨ (tk = 4 ∧ nm = RX1) ∨ (tk = 1 ∧ nm = RX0)) (hdg : decode cc pc = .ok (.instanceof idx, 3))
    (kk : W p l e R s m args below meth c H locs cells slots Q (F0 m (pc + 3) ls (.int (bI (decide (k = tk))) :: rest))) : W p l e R s m args below meth c H locs cells slots Q (F0 m pc ls (.ref a :: rest)) := by
  obtain ⟨k0, h0⟩ := va_pl_get (X := wF cy q K C O) (f := f) ha
  rw [hf] at h0
  have hl := S.2.2.2.2 _ (List.mem_cons_of_mem _ hw)
  rcases hk5 hk with rfl | rfl | rfl | rfl | rfl <;> rcases hn with ⟨rfl, rfl⟩ | ⟨rfl, rfl⟩ | ⟨rfl, rfl⟩
  · exact va_instNo (C := RX2) S.1 S.2.1 S.2.2.2.1 hl (hK.2.2.1 (RX2, RX10) (by decide)) (va_recv (ci := 2) hK.1 I.1 rfl h0) hdg kk
  · exact va_instNo (C := RX2) S.1 S.2.1 S.2.2.2.1 hl (hK.2.2.1 (RX2, RX1) (by decide)) (va_recv (ci := 2) hK.1 I.1 rfl h0) hdg kk
  · exact va_instNo (C := RX2) S.1 S.2.1 S.2.2.2.1 hl (hK.2.2.1 (RX2, RX0) (by decide)) (va_recv (ci := 2) hK.1 I.1 rfl h0) hdg kk
  · exact va_instNo (C := RX0) S.1 S.2.1 S.2.2.2.1 hl (hK.2.2.1 (RX0, RX10) (by decide)) (va_recv (ci := 0) hK.1 I.1 rfl h0) hdg kk
  · exact va_instNo (C := RX0) S.1 S.2.1 S.2.2.2.1 hl (hK.2.2.1 (RX0, RX1) (by decide)) (va_recv (ci := 0) hK.1 I.1 rfl h0) hdg kk
  · exact va_instS S.1 S.2.1 S.2.2.2.1 hl (hK.1.1 0 _ rfl).2 (va_recv (ci := 0) hK.1 I.1 rfl h0) hdg kk
  · exact va_instNo (C := RX8) S.1 S.2.1 S.2.2.2.1 hl (hK.2.2.1 (RX8, RX10) (by decide)) (va_recv (ci := 8) hK.1 I.1 rfl h0) hdg kk
  · exact va_instNo (C := RX8) S.1 S.2.1 S.2.2.2.1 hl (hK.2.2.1 (RX8, RX1) (by decide)) (va_recv (ci := 8) hK.1 I.1 rfl h0) hdg kk
  · exact va_instNo (C := RX8) S.1 S.2.1 S.2.2.2.1 hl (hK.2.2.1 (RX8, RX0) (by decide)) (va_recv (ci := 8) hK.1 I.1 rfl h0) hdg kk
  · exact va_instS S.1 S.2.1 S.2.2.2.1 hl (hK.1.1 10 _ rfl).2 (va_recv (ci := 10) hK.1 I.1 rfl h0) hdg kk
  · exact va_instNo (C := RX10) S.1 S.2.1 S.2.2.2.1 hl (hK.2.2.1 (RX10, RX1) (by decide)) (va_recv (ci := 10) hK.1 I.1 rfl h0) hdg kk
  · exact va_instNo (C := RX10) S.1 S.2.1 S.2.2.2.1 hl (hK.2.2.1 (RX10, RX0) (by decide)) (va_recv (ci := 10) hK.1 I.1 rfl h0) hdg kk
  · exact va_instNo (C := RX1) S.1 S.2.1 S.2.2.2.1 hl (hK.2.2.1 (RX1, RX10) (by decide)) (va_recv (ci := 1) hK.1 I.1 rfl h0) hdg kk
  · exact va_instS S.1 S.2.1 S.2.2.2.1 hl (hK.1.1 1 _ rfl).2 (va_recv (ci := 1) hK.1 I.1 rfl h0) hdg kk
  · exact va_instNo (C := RX1) S.1 S.2.1 S.2.2.2.1 hl (hK.2.2.1 (RX1, RX0) (by decide)) (va_recv (ci := 1) hK.1 I.1 rfl h0) hdg kk
end XSP
set_option maxHeartbeats 4000000 in
set_option maxRecDepth 100000 in
theorem x_hasPart (l : Launch) (D : va_G) (cy : Nat → ClassId) (q : Nat → Nat) (K : Nat → Nat) (C : Nat → Nat → Int32) (O : Nat → Nat → Option Nat) (L : List Nat) (f : Nat → va_E) (x : Int32) (hkb : K 0 < 1000000) : MS (α := Unit) l D cy yX5_hasPart cX5_hasPart 2 (Option.some FieldType.boolean) rm_X5_hasPart [.ref (q 1), .int x] (wX cy q K C O L f) (fun v_ (_ : Unit) => v_ = some (.int (bI (isP (K 0) x)))) (fun _ => wX cy q K C O L f) := by
  refine MS.mk2 (by decide) (Nat.le_of_ble_eq_true rfl) [(0, .ref (q 1)), (1, .int x)] rfl ?_
  intro p e s m args below meth c A ls Q hQ S hr hlk hnm hK hA I hl
  refine lv_iload_n S.1 S.2.1 dX5_hasPart_0 rfl (lv_at hl 1 rfl) ?_
  refine lv_if_lt (tgt := 16) S.1 S.2.1 dX5_hasPart_1 (by decide) (fun c_1 => ?_) (fun c_1 => ?_)
  · skip
    refine lv_iconst (v := nI 0) S.1 S.2.1 dX5_hasPart_16 (by decide) ?_
    exact ru_z hQ S hr hlk (by decide) (u := ()) I (congrArg (fun z => some (Value.int z)) (bI_0 (nx_no1 c_1))) dX5_hasPart_17
  · skip
    refine lv_iload_n S.1 S.2.1 dX5_hasPart_4 rfl (lv_at hl 1 rfl) ?_
    refine lv_aload_n S.1 S.2.1 dX5_hasPart_5 rfl (lv_at hl 0 rfl) ?_
    refine rg (ci := 5) (q0 := 1) (v := .int (nI (K 0))) 4 S hK I cl_X5 rfl wf_X5_27 (by decide) rfl rfl rfl dX5_hasPart_6 ?_
    refine lv_icmp_ge (tgt := 16) S.1 S.2.1 dX5_hasPart_9 (by decide) (fun c_9 => ?_) (fun c_9 => ?_)
    · skip
      refine lv_iconst (v := nI 0) S.1 S.2.1 dX5_hasPart_16 (by decide) ?_
      exact ru_z hQ S hr hlk (by decide) (u := ()) I (congrArg (fun z => some (Value.int z)) (bI_0 (nx_no2 c_9 (by omega)))) dX5_hasPart_17
    · skip
      refine lv_iconst (v := nI 1) S.1 S.2.1 dX5_hasPart_12 (by decide) ?_
      refine lv_goto (tgt := 17) S.1 S.2.1 dX5_hasPart_13 (by decide) ?_
      exact ru_z hQ S hr hlk (by decide) (u := ()) I (congrArg (fun z => some (Value.int z)) (bI_1 (nx_of c_1 c_9 (by omega)))) dX5_hasPart_17
set_option maxHeartbeats 4000000 in
set_option maxRecDepth 100000 in
theorem x_holeAt (l : Launch) (D : va_G) (cy : Nat → ClassId) (q : Nat → Nat) (K : Nat → Nat) (C : Nat → Nat → Int32) (O : Nat → Nat → Option Nat) (L : List Nat) (f : Nat → va_E) (x : Int32) (hkb : K 1 ≤ 12) : MS (α := Unit) l D cy yX5_holeAt cX5_holeAt 2 (Option.some (FieldType.object "MendDesk$Hole")) rm_X5_holeAt [.ref (q 1), .int x] (wX cy q K C O L f) (fun v_ (_ : Unit) => v_ = some (va_rf (if isP (K 1) x = true then O 8 x.toNatClampNeg else none))) (fun _ => wX cy q K C O L f) := by
  refine MS.mk2 (by decide) (Nat.le_of_ble_eq_true rfl) [(0, .ref (q 1)), (1, .int x)] rfl ?_
  intro p e s m args below meth c A ls Q hQ S hr hlk hnm hK hA I hl
  refine lv_iload_n S.1 S.2.1 dX5_holeAt_0 rfl (lv_at hl 1 rfl) ?_
  refine lv_if_lt (tgt := 21) S.1 S.2.1 dX5_holeAt_1 (by decide) (fun c_1 => ?_) (fun c_1 => ?_)
  · skip
    refine lv_null S.1 S.2.1 dX5_holeAt_21 ?_
    refine tV (y := va_rf (if isP (K 1) x = true then O 8 x.toNatClampNeg else none)) (by rw [if_neg (by rw [nx_no1 c_1]; exact Bool.false_ne_true)]; rfl) ?_
    exact ru_a hQ S hr hlk (u := ()) I rfl dX5_holeAt_22
  · skip
    refine lv_iload_n S.1 S.2.1 dX5_holeAt_4 rfl (lv_at hl 1 rfl) ?_
    refine lv_aload_n S.1 S.2.1 dX5_holeAt_5 rfl (lv_at hl 0 rfl) ?_
    refine rg (ci := 5) (q0 := 1) (v := .int (nI (K 1))) 5 S hK I cl_X5 rfl wf_X5_31 (by decide) rfl rfl rfl dX5_holeAt_6 ?_
    refine lv_icmp_ge (tgt := 21) S.1 S.2.1 dX5_holeAt_9 (by decide) (fun c_9 => ?_) (fun c_9 => ?_)
    · skip
      refine lv_null S.1 S.2.1 dX5_holeAt_21 ?_
      refine tV (y := va_rf (if isP (K 1) x = true then O 8 x.toNatClampNeg else none)) (by rw [if_neg (by rw [nx_no2 c_9 (by omega)]; exact Bool.false_ne_true)]; rfl) ?_
      exact ru_a hQ S hr hlk (u := ()) I rfl dX5_holeAt_22
    · skip
      have hx9 := nx_of c_1 c_9 (by omega)
      obtain ⟨j, h_j, rfl⟩ := isP_of hx9 (by omega)
      have e_j : (nI j).toNatClampNeg = j := nI_clamp (by omega)
      refine lv_aload_n S.1 S.2.1 dX5_holeAt_12 rfl (lv_at hl 0 rfl) ?_
      refine rg (ci := 5) (q0 := 1) (v := .ref (q 8)) 3 S hK I cl_X5 rfl wf_X5_23 (by decide) rfl rfl rfl dX5_holeAt_13 ?_
      refine lv_iload_n S.1 S.2.1 dX5_holeAt_16 rfl (lv_at hl 1 rfl) ?_
      refine rq (q0 := 8) (n := 12) (t0 := 2) (g := O 8) j S hK I rfl rfl rfl (by omega) (by decide) dX5_holeAt_17 ?_
      refine lv_goto (tgt := 22) S.1 S.2.1 dX5_holeAt_18 (by decide) ?_
      refine tV (y := va_rf (if isP (K 1) (nI j) = true then O 8 (nI j).toNatClampNeg else none)) (by rw [if_pos hx9, e_j]) ?_
      exact ru_a hQ S hr hlk (u := ()) I rfl dX5_holeAt_22
set_option maxHeartbeats 4000000 in
set_option maxRecDepth 100000 in
theorem x_standsNow (l : Launch) (D : va_G) (cy : Nat → ClassId) (q : Nat → Nat) (K : Nat → Nat) (C : Nat → Nat → Int32) (O : Nat → Nat → Option Nat) (L : List Nat) (f : Nat → va_E) (N : Nat → Nat) (R : Nat → Nat → Int32) (a h : Nat) (hW : WFm N R) (hh : h < N 6) (ha : a ∈ L) (hf : f a = hcell (kd R h) (R 8 h) (R 9 h) (R 10 h) (nI (ch R h)) (R 8 (ch R h)) (R 12 h)) (hG : ∀ p, p < 8 → (K 3).testBit p = decide (¬ R 4 p = 0)) : MS (α := Unit) l D cy yX5_standsNow cX5_standsNow 2 (Option.some FieldType.boolean) rm_X5_standsNow [.ref (q 1), .ref a] (wX cy q K C O L f) (fun v_ (_ : Unit) => v_ = some (.int (bI (stB R (C 5) h)))) (fun _ => wX cy q K C O L f) := by
  refine MS.mk2 (by decide) (Nat.le_of_ble_eq_true rfl) [(0, .ref (q 1)), (1, .ref a)] rfl ?_
  intro p e s m args below meth c A ls Q hQ S hr hlk hnm hK hA I hl
  obtain ⟨hB, hPt, hBo, hH, hM, hQu⟩ := hW
  obtain ⟨b0, b6, b17, b24, b30⟩ := hB
  have hwh := (hH h hh).2.1
  have hkd := (hH h hh).2.2.2.1
  refine lv_aload_n S.1 S.2.1 dX5_standsNow_0 rfl (lv_at hl 1 rfl) ?_
  refine lv_aload_n S.1 S.2.1 dX5_standsNow_1 rfl (lv_at hl 0 rfl) ?_
  refine rg (ci := 5) (q0 := 1) (v := .ref (q 5)) 0 S hK I cl_X5 rfl wf_X5_9 (by decide) rfl rfl rfl dX5_standsNow_2 ?_
  refine lv_aload_n S.1 S.2.1 dX5_standsNow_5 rfl (lv_at hl 1 rfl) ?_
  refine rgH 0 (by decide) S hK I wf_X5_41 ha hf rfl dX5_standsNow_6 ?_
  refine tI (y := nI (wh R h)) ((hH h hh).1) ?_
  refine ri (q0 := 5) (n := 8) (f := C 5) (wh R h) S hK I rfl rfl (by omega) (by decide) dX5_standsNow_9 ?_
  refine lv_aload_n S.1 S.2.1 dX5_standsNow_10 rfl (lv_at hl 0 rfl) ?_
  refine rg (ci := 5) (q0 := 1) (v := .int (nI (K 3))) 7 S hK I cl_X5 rfl wf_X5_44 (by decide) rfl rfl rfl dX5_standsNow_11 ?_
  refine lv_aload_n S.1 S.2.1 dX5_standsNow_14 rfl (lv_at hl 1 rfl) ?_
  refine rgH 0 (by decide) S hK I wf_X5_41 ha hf rfl dX5_standsNow_15 ?_
  refine tI (y := nI (wh R h)) ((hH h hh).1) ?_
  refine cN (np := 2) (As := [.int (nI (K 3)), .int (nI (wh R h))]) (rest := [.int (C 5 (wh R h)), .ref a]) S (x_isIn l D cy (wX cy q K C O L f) (K 3) (wh R h) (by omega)) hK hA I (by decide +kernel) wt_X11_isIn wn_X11 wk_X11_isIn hd_X11_isIn rfl ⟨by decide, by decide⟩ hl.1 rfl (Nat.le_of_ble_eq_true rfl) dX5_standsNow_18 ⟨by decide, by decide⟩ (fun v_ u_ H locs h_ I => ?_)
  obtain rfl := h_
  have I : IX D A s.heap (wX cy q K C O L f) H locs := I
  refine W.eq (g2 := F0 m 21 ls [.int (bI ((K 3).testBit (wh R h))), .int (C 5 (wh R h)), .ref a]) rfl ?_
  refine cST (rest := []) (gb := (K 3).testBit (wh R h)) S hK hA I wm_X5_51 hkd ha hf ⟨by decide, by decide⟩ ⟨by decide, by decide⟩ hl.1 (Nat.le_of_ble_eq_true rfl) dX5_standsNow_21 (fun H locs I => ?_)
  refine W.eq (g2 := F0 m 24 ls [.int (bI (hSt (kd R h) (R 9 h) (R 10 h) (R 12 h) (C 5 (wh R h)) ((K 3).testBit (wh R h))))]) rfl ?_
  refine tI (y := bI (stB R (C 5) h)) (congrArg bI (hSt_st (hG _ (by omega)))) ?_
  exact ru_z hQ S hr hlk (bI_01 _) (u := ()) I rfl dX5_standsNow_24
set_option maxHeartbeats 4000000 in
set_option maxRecDepth 100000 in
theorem x_leastOf (l : Launch) (D : va_G) (cy : Nat → ClassId) (w0 : va_W) (M : Nat) : MS (α := Unit) l D cy yX9_leastOf cX9_leastOf 2 (Option.some FieldType.int) rm_X9_leastOf [.int (nI M)] (w0) (fun v_ (_ : Unit) => v_ = some (.int (loI M))) (fun _ => w0) := by
  refine MS.mk2 (by decide) (Nat.le_of_ble_eq_true rfl) [(0, .int (nI M))] rfl ?_
  intro p e s m args below meth c A ls Q hQ S hr hlk hnm hK hA I hl
  refine lv_iconst (v := nI 0) S.1 S.2.1 dX9_leastOf_0 (by decide) ?_
  refine lv_istore_n (lv' := [(1, .int (nI 0)), (0, .int (nI M))]) S.1 S.2.1 dX9_leastOf_1 rfl hl (by decide) rfl (fun ls hl => ?_)
  have loop_2 : ∀ (k_ : Nat) (i : Nat), 8 - i < k_ → i ≤ 8 → (∀ j, j < i → M.testBit j = false) → ∀ (H : Heap) (locs : List Loc) (ls : Array Slot), IX D A s.heap (w0) H locs → lv_has ls 2 [(0, .int (nI M)), (1, .int (nI i))] → W p l e rm_X9_leastOf s m args below meth c H locs 0 0 Q (F0 m 2 ls []) := by
    intro k_
    induction k_ with
    | zero => intro i hm_; exact absurd hm_ (Nat.not_lt_zero _)
    | succ k_ ih_2 =>
      intro i hm_ hi hno H locs ls I hl
      refine lv_iload_n S.1 S.2.1 dX9_leastOf_2 rfl (lv_at hl 1 rfl) ?_
      refine lv_bipush (v := nI 8) S.1 S.2.1 dX9_leastOf_3 (by decide) ?_
      refine lv_icmp_ge (tgt := 24) S.1 S.2.1 dX9_leastOf_5 (by decide) (fun c_5 => ?_) (fun c_5 => ?_)
      · skip
        have c_5o := c_5
        have c_5 := nI_cgeT (by omega) (by omega) c_5
        refine lv_iconst (v := (-1)) S.1 S.2.1 dX9_leastOf_24 (by decide) ?_
        exact ru_i hQ S hr hlk (u := ()) I (congrArg (fun z => some (Value.int z)) (by rw [loI, fst_none (fun j hj => hno j (by omega)), if_neg (Nat.lt_irrefl 8)])) dX9_leastOf_25
      · skip
        have c_5o := c_5
        have c_5 := nI_cgeF (by omega) (by omega) c_5
        refine lv_iload_n S.1 S.2.1 dX9_leastOf_8 rfl (lv_at hl 0 rfl) ?_
        refine lv_iload_n S.1 S.2.1 dX9_leastOf_9 rfl (lv_at hl 1 rfl) ?_
        refine cN (np := 2) (As := [.int (nI M), .int (nI i)]) (rest := []) S (x_isIn l D cy (w0) M i (by omega)) hK hA I (by decide +kernel) wt_X11_isIn wn_X11 wk_X11_isIn hd_X11_isIn rfl ⟨by decide, by decide⟩ hl.1 rfl (Nat.le_of_ble_eq_true rfl) dX9_leastOf_10 ⟨by decide, by decide⟩ (fun v_ u_ H locs h_ I => ?_)
        obtain rfl := h_
        have I : IX D A s.heap (w0) H locs := I
        refine W.eq (g2 := F0 m 13 ls [.int (bI (M.testBit i))]) rfl ?_
        refine lv_if_eq (tgt := 18) S.1 S.2.1 dX9_leastOf_13 (by decide) (fun c_13 => ?_) (fun c_13 => ?_)
        · skip
          have c_13 := bI_f c_13
          refine lv_iinc (v := nI (i + 1)) (lv' := [(1, .int (nI (i + 1))), (0, .int (nI M))]) S.1 S.2.1 dX9_leastOf_18 hl (k := 1) rfl (nI_1 _) (by decide) rfl (fun ls hl => ?_)
          refine lv_goto (tgt := 2) S.1 S.2.1 dX9_leastOf_21 (by decide) ?_
          exact ih_2 (i + 1) (by omega) (by omega) (all_s hno c_13) _ _ _ I (lv_sub hl [1, 0] rfl)
        · skip
          have c_13 := bI_t c_13
          refine lv_iload_n S.1 S.2.1 dX9_leastOf_16 rfl (lv_at hl 1 rfl) ?_
          exact ru_i hQ S hr hlk (u := ()) I (congrArg (fun z => some (Value.int z)) (by rw [loI, fst_eq hno c_13 (by omega), if_pos (by omega)])) dX9_leastOf_17
  exact loop_2 _ 0 (Nat.lt_succ_self _) (Nat.zero_le _) (fun j hj => absurd hj (Nat.not_lt_zero j)) _ _ _ I (lv_sub hl [1, 0] rfl)
set_option maxHeartbeats 4000000 in
set_option maxRecDepth 100000 in
theorem x_isReached (l : Launch) (D : va_G) (cy : Nat → ClassId) (q : Nat → Nat) (K : Nat → Nat) (C : Nat → Nat → Int32) (O : Nat → Nat → Option Nat) (L : List Nat) (f : Nat → va_E) (pa : Nat) (hp : pa < 8) (hl7 : C 7 pa = nI (lk C pa)) (hlk7 : lk C pa < 256) : MS (α := Unit) l D cy yX9_isReached cX9_isReached 2 (Option.some FieldType.boolean) rm_X9_isReached [.ref (q 2), .int (nI pa)] (wX cy q K C O L f) (fun v_ (_ : Unit) => v_ = some (.int (bI ((K 2).testBit pa || decide (¬ lk C pa &&& K 5 = 0))))) (fun _ => wX cy q K C O L f) := by
  refine MS.mk2 (by decide) (Nat.le_of_ble_eq_true rfl) [(0, .ref (q 2)), (1, .int (nI pa))] rfl ?_
  intro p e s m args below meth c A ls Q hQ S hr hlk hnm hK hA I hl
  refine lv_aload_n S.1 S.2.1 dX9_isReached_0 rfl (lv_at hl 0 rfl) ?_
  refine rg (ci := 9) (q0 := 2) (v := .ref (q 1)) 0 S hK I cl_X9 rfl wf_X9_21 (by decide) rfl rfl rfl dX9_isReached_1 ?_
  refine rg (ci := 5) (q0 := 1) (v := .int (nI (K 2))) 6 S hK I cl_X5 rfl wf_X9_88 (by decide) rfl rfl rfl dX9_isReached_4 ?_
  refine lv_iload_n S.1 S.2.1 dX9_isReached_7 rfl (lv_at hl 1 rfl) ?_
  refine cN (np := 2) (As := [.int (nI (K 2)), .int (nI pa)]) (rest := []) S (x_isIn l D cy (wX cy q K C O L f) (K 2) pa (by omega)) hK hA I (by decide +kernel) wt_X11_isIn wn_X11 wk_X11_isIn hd_X11_isIn rfl ⟨by decide, by decide⟩ hl.1 rfl (Nat.le_of_ble_eq_true rfl) dX9_isReached_8 ⟨by decide, by decide⟩ (fun v_ u_ H locs h_ I => ?_)
  obtain rfl := h_
  have I : IX D A s.heap (wX cy q K C O L f) H locs := I
  refine W.eq (g2 := F0 m 11 ls [.int (bI ((K 2).testBit pa))]) rfl ?_
  refine lv_if_ne (tgt := 31) S.1 S.2.1 dX9_isReached_11 (by decide) (fun c_11 => ?_) (fun c_11 => ?_)
  · skip
    have c_11 := bI_t c_11
    refine lv_iconst (v := nI 1) S.1 S.2.1 dX9_isReached_31 (by decide) ?_
    refine lv_goto (tgt := 36) S.1 S.2.1 dX9_isReached_32 (by decide) ?_
    exact ru_z hQ S hr hlk (by decide) (u := ()) I (congrArg (fun z => some (Value.int z)) (bI_1 (by simp [c_11]))) dX9_isReached_36
  · skip
    have c_11 := bI_f c_11
    refine lv_aload_n S.1 S.2.1 dX9_isReached_14 rfl (lv_at hl 0 rfl) ?_
    refine rg (ci := 9) (q0 := 2) (v := .ref (q 1)) 0 S hK I cl_X9 rfl wf_X9_21 (by decide) rfl rfl rfl dX9_isReached_15 ?_
    refine rg (ci := 5) (q0 := 1) (v := .ref (q 7)) 2 S hK I cl_X5 rfl wf_X9_91 (by decide) rfl rfl rfl dX9_isReached_18 ?_
    refine lv_iload_n S.1 S.2.1 dX9_isReached_21 rfl (lv_at hl 1 rfl) ?_
    refine ri (q0 := 7) (n := 8) (f := C 7) pa S hK I rfl rfl (by omega) (by decide) dX9_isReached_22 ?_
    refine tI (y := nI (lk C pa)) hl7 ?_
    refine lv_aload_n S.1 S.2.1 dX9_isReached_23 rfl (lv_at hl 0 rfl) ?_
    refine rg (ci := 9) (q0 := 2) (v := .int (nI (K 5))) 5 S hK I cl_X9 rfl wf_X9_29 (by decide) rfl rfl rfl dX9_isReached_24 ?_
    refine lv_iand S.1 S.2.1 dX9_isReached_27 ?_
    refine tI (y := nI (lk C pa &&& K 5)) (fa_and _ _) ?_
    have hand : lk C pa &&& K 5 ≤ lk C pa := Nat.and_le_left
    refine lv_if_eq (tgt := 35) S.1 S.2.1 dX9_isReached_28 (by decide) (fun c_28 => ?_) (fun c_28 => ?_)
    · skip
      have c_28o := c_28
      have c_28 := nI_zeqT (by omega) c_28
      refine lv_iconst (v := nI 0) S.1 S.2.1 dX9_isReached_35 (by decide) ?_
      exact ru_z hQ S hr hlk (by decide) (u := ()) I (congrArg (fun z => some (Value.int z)) (bI_0 (by simp [c_11, c_28]))) dX9_isReached_36
    · skip
      have c_28o := c_28
      have c_28 := nI_zeqF (by omega) c_28
      refine lv_iconst (v := nI 1) S.1 S.2.1 dX9_isReached_31 (by decide) ?_
      refine lv_goto (tgt := 36) S.1 S.2.1 dX9_isReached_32 (by decide) ?_
      exact ru_z hQ S hr hlk (by decide) (u := ()) I (congrArg (fun z => some (Value.int z)) (bI_1 (by simp [c_11, c_28]))) dX9_isReached_36
set_option maxHeartbeats 4000000 in
set_option maxRecDepth 100000 in
theorem x_sumOfWorths (l : Launch) (D : va_G) (cy : Nat → ClassId) (q : Nat → Nat) (K : Nat → Nat) (C : Nat → Nat → Int32) (O : Nat → Nat → Option Nat) (L : List Nat) (f : Nat → va_E) (N : Nat → Nat) (R : Nat → Nat → Int32) (hW : WFm N R) (hrel : RelN K C O L f N R) : MS (α := Unit) l D cy yX9_sumOfWorths cX9_sumOfWorths 3 (Option.some FieldType.int) rm_X9_sumOfWorths [.ref (q 2)] (wX cy q K C O L f) (fun v_ (_ : Unit) => v_ = some (.int (nI (fb_sm (fun z => if (K 5).testBit z = true then (if (K 6).testBit z = true then 2 * wo R z else wo R z) else 0) (N 0))))) (fun _ => wX cy q K C O L f) := by
  refine MS.mk2 (by decide) (Nat.le_of_ble_eq_true rfl) [(0, .ref (q 2))] rfl ?_
  intro p e s m args below meth c A ls Q hQ S hr hlk hnm hK hA I hl
  have hW0 := hW
  obtain ⟨hB, hPt, hBo, hH, hM, hQu⟩ := hW0
  have hB0 := hB
  obtain ⟨b0, b6, b17, b24, b30⟩ := hB0
  have hrel0 := hrel
  obtain ⟨k0, k1, hC6, hK2, hC7, hHol⟩ := hrel0
  refine lv_iconst (v := nI 0) S.1 S.2.1 dX9_sumOfWorths_0 (by decide) ?_
  refine lv_istore_n (lv' := [(1, .int (nI 0)), (0, .ref (q 2))]) S.1 S.2.1 dX9_sumOfWorths_1 rfl hl (by decide) rfl (fun ls hl => ?_)
  refine lv_iconst (v := nI 0) S.1 S.2.1 dX9_sumOfWorths_2 (by decide) ?_
  refine lv_istore_n (lv' := [(2, .int (nI 0)), (1, .int (nI 0)), (0, .ref (q 2))]) S.1 S.2.1 dX9_sumOfWorths_3 rfl hl (by decide) rfl (fun ls hl => ?_)
  have loop_4 : ∀ (k_ : Nat) (pa : Nat) (su : Nat), N 0 - pa < k_ → pa ≤ N 0 → su = fb_sm (fun z => if (K 5).testBit z = true then (if (K 6).testBit z = true then 2 * wo R z else wo R z) else 0) pa → ∀ (H : Heap) (locs : List Loc) (ls : Array Slot), IX D A s.heap (wX cy q K C O L f) H locs → lv_has ls 3 [(0, .ref (q 2)), (1, .int (nI su)), (2, .int (nI pa))] → W p l e rm_X9_sumOfWorths s m args below meth c H locs 0 0 Q (F0 m 4 ls []) := by
    intro k_
    induction k_ with
    | zero => intro pa su hm_; exact absurd hm_ (Nat.not_lt_zero _)
    | succ k_ ih_4 =>
      intro pa su hm_ hpa hsu H locs ls I hl
      refine lv_iload_n S.1 S.2.1 dX9_sumOfWorths_4 rfl (lv_at hl 2 rfl) ?_
      refine lv_aload_n S.1 S.2.1 dX9_sumOfWorths_5 rfl (lv_at hl 0 rfl) ?_
      refine rg (ci := 9) (q0 := 2) (v := .ref (q 1)) 0 S hK I cl_X9 rfl wf_X9_21 (by decide) rfl rfl rfl dX9_sumOfWorths_6 ?_
      refine rg (ci := 5) (q0 := 1) (v := .int (nI (K 0))) 4 S hK I cl_X5 rfl wf_X9_41 (by decide) rfl rfl rfl dX9_sumOfWorths_9 ?_
      refine lv_icmp_ge (tgt := 69) S.1 S.2.1 dX9_sumOfWorths_12 (by decide) (fun c_12 => ?_) (fun c_12 => ?_)
      · skip
        have c_12o := c_12
        have c_12 := nI_cgeT (by omega) (by omega) c_12
        refine lv_iload_n S.1 S.2.1 dX9_sumOfWorths_69 rfl (lv_at hl 1 rfl) ?_
        exact ru_i hQ S hr hlk (u := ()) I (congrArg (fun z => some (Value.int z)) (by rw [hsu, show pa = N 0 by omega])) dX9_sumOfWorths_70
      · skip
        have c_12o := c_12
        have c_12 := nI_cgeF (by omega) (by omega) c_12
        refine lv_aload_n S.1 S.2.1 dX9_sumOfWorths_15 rfl (lv_at hl 0 rfl) ?_
        refine rg (ci := 9) (q0 := 2) (v := .int (nI (K 5))) 5 S hK I cl_X9 rfl wf_X9_29 (by decide) rfl rfl rfl dX9_sumOfWorths_16 ?_
        refine lv_iload_n S.1 S.2.1 dX9_sumOfWorths_19 rfl (lv_at hl 2 rfl) ?_
        refine cN (np := 2) (As := [.int (nI (K 5)), .int (nI pa)]) (rest := []) S (x_isIn l D cy (wX cy q K C O L f) (K 5) pa (by omega)) hK hA I (by decide +kernel) wt_X11_isIn wn_X11 wk_X11_isIn hd_X11_isIn rfl ⟨by decide, by decide⟩ hl.1 rfl (Nat.le_of_ble_eq_true rfl) dX9_sumOfWorths_20 ⟨by decide, by decide⟩ (fun v_ u_ H locs h_ I => ?_)
        obtain rfl := h_
        have I : IX D A s.heap (wX cy q K C O L f) H locs := I
        refine W.eq (g2 := F0 m 23 ls [.int (bI ((K 5).testBit pa))]) rfl ?_
        refine lv_if_eq (tgt := 63) S.1 S.2.1 dX9_sumOfWorths_23 (by decide) (fun c_23 => ?_) (fun c_23 => ?_)
        · skip
          have c_23 := bI_f c_23
          refine lv_iinc (v := nI (pa + 1)) (lv' := [(2, .int (nI (pa + 1))), (0, .ref (q 2)), (1, .int (nI su))]) S.1 S.2.1 dX9_sumOfWorths_63 hl (k := 2) rfl (nI_1 _) (by decide) rfl (fun ls hl => ?_)
          refine lv_goto (tgt := 4) S.1 S.2.1 dX9_sumOfWorths_66 (by decide) ?_
          exact ih_4 (pa + 1) su (by omega) (by omega) (by rw [fb_sm_succ, ← hsu]; simp [c_23]) _ _ _ I (lv_sub hl [1, 2, 0] rfl)
        · skip
          have c_23 := bI_t c_23
          refine lv_iload_n S.1 S.2.1 dX9_sumOfWorths_26 rfl (lv_at hl 1 rfl) ?_
          refine lv_aload_n S.1 S.2.1 dX9_sumOfWorths_27 rfl (lv_at hl 0 rfl) ?_
          refine rg (ci := 9) (q0 := 2) (v := .int (nI (K 6))) 6 S hK I cl_X9 rfl wf_X9_50 (by decide) rfl rfl rfl dX9_sumOfWorths_28 ?_
          refine lv_iload_n S.1 S.2.1 dX9_sumOfWorths_31 rfl (lv_at hl 2 rfl) ?_
          refine cN (np := 2) (As := [.int (nI (K 6)), .int (nI pa)]) (rest := [.int (nI su)]) S (x_isIn l D cy (wX cy q K C O L f) (K 6) pa (by omega)) hK hA I (by decide +kernel) wt_X11_isIn wn_X11 wk_X11_isIn hd_X11_isIn rfl ⟨by decide, by decide⟩ hl.1 rfl (Nat.le_of_ble_eq_true rfl) dX9_sumOfWorths_32 ⟨by decide, by decide⟩ (fun v_ u_ H locs h_ I => ?_)
          obtain rfl := h_
          have I : IX D A s.heap (wX cy q K C O L f) H locs := I
          refine W.eq (g2 := F0 m 35 ls [.int (bI ((K 6).testBit pa)), .int (nI su)]) rfl ?_
          refine lv_if_eq (tgt := 52) S.1 S.2.1 dX9_sumOfWorths_35 (by decide) (fun c_35 => ?_) (fun c_35 => ?_)
          · skip
            have c_35 := bI_f c_35
            refine lv_aload_n S.1 S.2.1 dX9_sumOfWorths_52 rfl (lv_at hl 0 rfl) ?_
            refine rg (ci := 9) (q0 := 2) (v := .ref (q 1)) 0 S hK I cl_X9 rfl wf_X9_21 (by decide) rfl rfl rfl dX9_sumOfWorths_53 ?_
            refine rg (ci := 5) (q0 := 1) (v := .ref (q 6)) 1 S hK I cl_X5 rfl wf_X9_53 (by decide) rfl rfl rfl dX9_sumOfWorths_56 ?_
            refine lv_iload_n S.1 S.2.1 dX9_sumOfWorths_59 rfl (lv_at hl 2 rfl) ?_
            refine ri (q0 := 6) (n := 8) (f := C 6) pa S hK I rfl rfl (by omega) (by decide) dX9_sumOfWorths_60 ?_
            refine tI (y := nI (wo R pa)) ((hC6 pa (by omega)).trans (hPt pa (by omega)).1.1) ?_
            refine lv_iadd S.1 S.2.1 dX9_sumOfWorths_61 ?_
            refine tI (y := nI (su + (wo R pa))) (nI_add _ _) ?_
            refine lv_istore_n (lv' := [(1, .int (nI (su + (wo R pa)))), (0, .ref (q 2)), (2, .int (nI pa))]) S.1 S.2.1 dX9_sumOfWorths_62 rfl hl (by decide) rfl (fun ls hl => ?_)
            refine lv_iinc (v := nI (pa + 1)) (lv' := [(2, .int (nI (pa + 1))), (1, .int (nI (su + (wo R pa)))), (0, .ref (q 2))]) S.1 S.2.1 dX9_sumOfWorths_63 hl (k := 2) rfl (nI_1 _) (by decide) rfl (fun ls hl => ?_)
            refine lv_goto (tgt := 4) S.1 S.2.1 dX9_sumOfWorths_66 (by decide) ?_
            exact ih_4 (pa + 1) (su + (wo R pa)) (by omega) (by omega) (by rw [fb_sm_succ, ← hsu]; simp [c_23, c_35]) _ _ _ I (lv_sub hl [2, 1, 0] rfl)
          · skip
            have c_35 := bI_t c_35
            refine lv_iconst (v := nI 2) S.1 S.2.1 dX9_sumOfWorths_38 (by decide) ?_
            refine lv_aload_n S.1 S.2.1 dX9_sumOfWorths_39 rfl (lv_at hl 0 rfl) ?_
            refine rg (ci := 9) (q0 := 2) (v := .ref (q 1)) 0 S hK I cl_X9 rfl wf_X9_21 (by decide) rfl rfl rfl dX9_sumOfWorths_40 ?_
            refine rg (ci := 5) (q0 := 1) (v := .ref (q 6)) 1 S hK I cl_X5 rfl wf_X9_53 (by decide) rfl rfl rfl dX9_sumOfWorths_43 ?_
            refine lv_iload_n S.1 S.2.1 dX9_sumOfWorths_46 rfl (lv_at hl 2 rfl) ?_
            refine ri (q0 := 6) (n := 8) (f := C 6) pa S hK I rfl rfl (by omega) (by decide) dX9_sumOfWorths_47 ?_
            refine tI (y := nI (wo R pa)) ((hC6 pa (by omega)).trans (hPt pa (by omega)).1.1) ?_
            refine lv_imul S.1 S.2.1 dX9_sumOfWorths_48 ?_
            refine tI (y := nI (2 * (wo R pa))) (pk_mul _ _) ?_
            refine lv_goto (tgt := 61) S.1 S.2.1 dX9_sumOfWorths_49 (by decide) ?_
            refine lv_iadd S.1 S.2.1 dX9_sumOfWorths_61 ?_
            refine tI (y := nI (su + (2 * (wo R pa)))) (nI_add _ _) ?_
            refine lv_istore_n (lv' := [(1, .int (nI (su + (2 * (wo R pa))))), (0, .ref (q 2)), (2, .int (nI pa))]) S.1 S.2.1 dX9_sumOfWorths_62 rfl hl (by decide) rfl (fun ls hl => ?_)
            refine lv_iinc (v := nI (pa + 1)) (lv' := [(2, .int (nI (pa + 1))), (1, .int (nI (su + (2 * (wo R pa))))), (0, .ref (q 2))]) S.1 S.2.1 dX9_sumOfWorths_63 hl (k := 2) rfl (nI_1 _) (by decide) rfl (fun ls hl => ?_)
            refine lv_goto (tgt := 4) S.1 S.2.1 dX9_sumOfWorths_66 (by decide) ?_
            exact ih_4 (pa + 1) (su + (2 * (wo R pa))) (by omega) (by omega) (by rw [fb_sm_succ, ← hsu]; simp [c_23, c_35]) _ _ _ I (lv_sub hl [2, 1, 0] rfl)
  exact loop_4 _ 0 0 (Nat.lt_succ_self _) (Nat.zero_le _) rfl _ _ _ I (lv_sub hl [2, 1, 0] rfl)
set_option maxHeartbeats 4000000 in
set_option maxRecDepth 100000 in
theorem x_findStanding (l : Launch) (D : va_G) (cy : Nat → ClassId) (q : Nat → Nat) (K : Nat → Nat) (C : Nat → Nat → Int32) (O : Nat → Nat → Option Nat) (L : List Nat) (f : Nat → va_E) (N : Nat → Nat) (R : Nat → Nat → Int32) (hW : WFm N R) (hrel : RelN K C O L f N R) (vi G : Nat) (hv : vi = 5 ∨ vi = 14) (hG : ∀ p, p < 8 → G.testBit p = decide (¬ R 4 p = 0)) : MS (α := Nat × Nat) l D cy yX9_findStanding cX9_findStanding 5 (Option.none : Option FieldType) rm_X9_findStanding [.ref (q 2), .ref (q vi), .int (nI G)] (wX cy q K C O L f) (fun v_ u_ => v_ = none ∧ u_.1 = msk (stB R (C vi)) (N 6) ∧ u_.2 = twF R (C vi) (N 6)) (fun u_ => wX cy q (va_up (va_up K 4 u_.1) 6 u_.2) C O L f) := by
  refine MS.mk2 (by decide) (Nat.le_of_ble_eq_true rfl) [(0, .ref (q 2)), (1, .ref (q vi)), (2, .int (nI G))] rfl ?_
  intro p e s m args below meth c A ls Q hQ S hr hlk hnm hK hA I hl
  have hW0 := hW
  obtain ⟨hB, hPt, hBo, hH, hM, hQu⟩ := hW0
  have hB0 := hB
  obtain ⟨b0, b6, b17, b24, b30⟩ := hB0
  have hrel0 := hrel
  obtain ⟨k0, k1, hC6, hK2, hC7, hHol⟩ := hrel0
  refine lv_aload_n S.1 S.2.1 dX9_findStanding_0 rfl (lv_at hl 0 rfl) ?_
  refine lv_iconst (v := nI 0) S.1 S.2.1 dX9_findStanding_1 (by decide) ?_
  refine rp (ci := 9) (q0 := 2) (v := .int (nI 0)) (ty := .int) 4 S hK I cl_X9 rfl wf_X9_56 (by decide) rfl tyX9_ok nmX9 rfl (by decide +kernel) rfl rfl (by exact Nat.le_of_ble_eq_true rfl) rfl dX9_findStanding_2 (fun H locs I => ?_)
  have I : IX D A s.heap (wX cy q (va_up K 4 0) C O L f) H locs := I
  refine lv_aload_n S.1 S.2.1 dX9_findStanding_5 rfl (lv_at hl 0 rfl) ?_
  refine lv_iconst (v := nI 0) S.1 S.2.1 dX9_findStanding_6 (by decide) ?_
  refine rp (ci := 9) (q0 := 2) (v := .int (nI 0)) (ty := .int) 6 S hK I cl_X9 rfl wf_X9_50 (by decide) rfl tyX9_ok nmX9 rfl (by decide +kernel) rfl rfl (by exact Nat.le_of_ble_eq_true rfl) rfl dX9_findStanding_7 (fun H locs I => ?_)
  have I : IX D A s.heap (wX cy q (va_up (va_up K 4 0) 6 0) C O L f) H locs := I
  refine lv_iconst (v := nI 0) S.1 S.2.1 dX9_findStanding_10 (by decide) ?_
  refine lv_istore_n (lv' := [(3, .int (nI 0)), (0, .ref (q 2)), (1, .ref (q vi)), (2, .int (nI G))]) S.1 S.2.1 dX9_findStanding_11 rfl hl (by decide) rfl (fun ls hl => ?_)
  have loop_12 : ∀ (k_ : Nat) (h : Nat) (s4 : Nat) (s6 : Nat), N 6 - h < k_ → h ≤ N 6 → s4 = msk (stB R (C vi)) h → s6 = twF R (C vi) h → ∀ (H : Heap) (locs : List Loc) (ls : Array Slot), IX D A s.heap (wX cy q (va_up (va_up K 4 s4) 6 s6) C O L f) H locs → lv_has ls 5 [(0, .ref (q 2)), (1, .ref (q vi)), (2, .int (nI G)), (3, .int (nI h))] → W p l e rm_X9_findStanding s m args below meth c H locs 0 0 Q (F0 m 12 ls []) := by
    intro k_
    induction k_ with
    | zero => intro h s4 s6 hm_; exact absurd hm_ (Nat.not_lt_zero _)
    | succ k_ ih_12 =>
      intro h s4 s6 hm_ hh hs4 hs6 H locs ls I hl
      refine lv_iload_n S.1 S.2.1 dX9_findStanding_12 rfl (lv_at hl 3 rfl) ?_
      refine lv_aload_n S.1 S.2.1 dX9_findStanding_13 rfl (lv_at hl 0 rfl) ?_
      refine rg (ci := 9) (q0 := 2) (v := .ref (q 1)) 0 S hK I cl_X9 rfl wf_X9_21 (by decide) rfl rfl rfl dX9_findStanding_14 ?_
      refine rg (ci := 5) (q0 := 1) (v := .int (nI (K 1))) 5 S hK I cl_X5 rfl wf_X9_59 (by decide) rfl rfl rfl dX9_findStanding_17 ?_
      refine lv_icmp_ge (tgt := 109) S.1 S.2.1 dX9_findStanding_20 (by decide) (fun c_20 => ?_) (fun c_20 => ?_)
      · skip
        have c_20o := c_20
        have c_20 := nI_cgeT (by omega) (by omega) c_20
        exact ru_v hQ S hr hlk (u := (s4, s6)) I (⟨rfl, by rw [hs4, show h = N 6 by omega], by rw [hs6, show h = N 6 by omega]⟩) dX9_findStanding_109
      · skip
        have c_20o := c_20
        have c_20 := nI_cgeF (by omega) (by omega) c_20
        refine lv_aload_n S.1 S.2.1 dX9_findStanding_23 rfl (lv_at hl 0 rfl) ?_
        refine rg (ci := 9) (q0 := 2) (v := .ref (q 1)) 0 S hK I cl_X9 rfl wf_X9_21 (by decide) rfl rfl rfl dX9_findStanding_24 ?_
        refine lv_iload_n S.1 S.2.1 dX9_findStanding_27 rfl (lv_at hl 3 rfl) ?_
        obtain ⟨a, ho8, ha, hf⟩ := hHol h (by omega)
        have hkd := (hH h (by omega)).2.2.2.1
        have hwh := (hH h (by omega)).2.1
        refine cV (np := 1) (ci := 5) (q0 := 1) (As := [.int (nI h)]) (rest := []) S (x_holeAt l D cy q (va_up (va_up K 4 s4) 6 s6) C O L f (nI h) (show K 1 ≤ 12 by omega)) hK hA I wm_X9_62 wi_X5_holeAt ws_X5_X5_holeAt wn_X5 wk_X5_holeAt ⟨rfl, hd_X5_holeAt⟩ rfl ⟨by decide, by decide⟩ rfl rfl hl.1 rfl (Nat.le_of_ble_eq_true rfl) dX9_findStanding_28 ⟨by decide, by decide⟩ (fun v_ u_ H locs h_ I => ?_)
        obtain rfl := h_
        have I : IX D A s.heap (wX cy q (va_up (va_up K 4 s4) 6 s6) C O L f) H locs := I
        refine W.eq (g2 := F0 m 31 ls (va_rf (if isP (K 1) (nI h) = true then O 8 (nI h).toNatClampNeg else none) :: [])) rfl ?_
        refine tV (y := .ref a) (hat_some (K := (va_up (va_up K 4 s4) 6 s6)) (O := O) rfl (show h < K 1 by omega) (show K 1 ≤ 12 by omega) ho8) ?_
        refine lv_astore (lv' := [(4, .ref a), (0, .ref (q 2)), (1, .ref (q vi)), (2, .int (nI G)), (3, .int (nI h))]) S.1 S.2.1 dX9_findStanding_31 hl (by decide) rfl (fun ls hl => ?_)
        refine lv_aload S.1 S.2.1 dX9_findStanding_33 (lv_at hl 0 rfl) ?_
        refine lv_ifnull S.1 S.2.1 dX9_findStanding_35 ?_
        refine lv_aload S.1 S.2.1 dX9_findStanding_38 (lv_at hl 0 rfl) ?_
        refine lv_aload_n S.1 S.2.1 dX9_findStanding_40 rfl (lv_at hl 2 rfl) ?_
        refine lv_aload S.1 S.2.1 dX9_findStanding_41 (lv_at hl 0 rfl) ?_
        refine rgH 0 (by decide) S hK I wf_X9_66 ha hf rfl dX9_findStanding_43 ?_
        refine tI (y := nI (wh R h)) ((hH h (by omega)).1) ?_
        refine ri (q0 := vi) (n := 8) (f := C vi) (wh R h) S hK I (wXv hv) rfl (by omega) (by decide) dX9_findStanding_46 ?_
        refine lv_iload_n S.1 S.2.1 dX9_findStanding_47 rfl (lv_at hl 3 rfl) ?_
        refine lv_aload S.1 S.2.1 dX9_findStanding_48 (lv_at hl 0 rfl) ?_
        refine rgH 0 (by decide) S hK I wf_X9_66 ha hf rfl dX9_findStanding_50 ?_
        refine tI (y := nI (wh R h)) ((hH h (by omega)).1) ?_
        refine cN (np := 2) (As := [.int (nI G), .int (nI (wh R h))]) (rest := [.int (C vi (wh R h)), .ref a]) S (x_isIn l D cy (wX cy q (va_up (va_up K 4 s4) 6 s6) C O L f) G (wh R h) (by omega)) hK hA I (by decide +kernel) wt_X11_isIn wn_X11 wk_X11_isIn hd_X11_isIn rfl ⟨by decide, by decide⟩ hl.1 rfl (Nat.le_of_ble_eq_true rfl) dX9_findStanding_53 ⟨by decide, by decide⟩ (fun v_ u_ H locs h_ I => ?_)
        obtain rfl := h_
        have I : IX D A s.heap (wX cy q (va_up (va_up K 4 s4) 6 s6) C O L f) H locs := I
        refine W.eq (g2 := F0 m 56 ls [.int (bI (G.testBit (wh R h))), .int (C vi (wh R h)), .ref a]) rfl ?_
        refine cST (rest := []) (gb := G.testBit (wh R h)) S hK hA I wm_X9_71 hkd ha hf ⟨by decide, by decide⟩ ⟨by decide, by decide⟩ hl.1 (Nat.le_of_ble_eq_true rfl) dX9_findStanding_56 (fun H locs I => ?_)
        refine W.eq (g2 := F0 m 59 ls [.int (bI (hSt (kd R h) (R 9 h) (R 10 h) (R 12 h) (C vi (wh R h)) (G.testBit (wh R h))))]) rfl ?_
        refine tI (y := bI (stB R (C vi) h)) (congrArg bI (hSt_st (hG _ (by omega)))) ?_
        refine lv_if_ne (tgt := 65) S.1 S.2.1 dX9_findStanding_59 (by decide) (fun c_59 => ?_) (fun c_59 => ?_)
        · skip
          have c_59 := bI_t c_59
          refine lv_aload_n S.1 S.2.1 dX9_findStanding_65 rfl (lv_at hl 1 rfl) ?_
          refine lv_dup S.1 S.2.1 dX9_findStanding_66 rfl ?_
          refine rg (ci := 9) (q0 := 2) (v := .int (nI s4)) 4 S hK I cl_X9 rfl wf_X9_56 (by decide) rfl rfl rfl dX9_findStanding_67 ?_
          refine lv_iload_n S.1 S.2.1 dX9_findStanding_70 rfl (lv_at hl 4 rfl) ?_
          refine cN (np := 1) (As := [.int (nI h)]) (rest := [.int (nI s4), .ref (q 2)]) S (x_bit l D cy (wX cy q (va_up (va_up K 4 s4) 6 s6) C O L f) h (by omega)) hK hA I (by decide +kernel) wt_X11_bit wn_X11 wk_X11_bit hd_X11_bit rfl ⟨by decide, by decide⟩ hl.1 rfl (Nat.le_of_ble_eq_true rfl) dX9_findStanding_71 ⟨by decide, by decide⟩ (fun v_ u_ H locs h_ I => ?_)
          obtain rfl := h_
          have I : IX D A s.heap (wX cy q (va_up (va_up K 4 s4) 6 s6) C O L f) H locs := I
          refine W.eq (g2 := F0 m 74 ls [.int (nI (2 ^ h)), .int (nI s4), .ref (q 2)]) rfl ?_
          refine lv_ior S.1 S.2.1 dX9_findStanding_74 ?_
          refine tI (y := nI (s4 ||| (2 ^ h))) (fa_or _ _) ?_
          refine rp (ci := 9) (q0 := 2) (v := .int (nI (s4 ||| (2 ^ h)))) (ty := .int) 4 S hK I cl_X9 rfl wf_X9_56 (by decide) rfl tyX9_ok nmX9 rfl (by decide +kernel) rfl rfl (by exact Nat.le_of_ble_eq_true rfl) rfl dX9_findStanding_75 (fun H locs I => ?_)
          have I : IX D A s.heap (wX cy q (va_up (va_up K 4 (s4 ||| (2 ^ h))) 6 s6) C O L f) H locs := I
          refine lv_aload S.1 S.2.1 dX9_findStanding_78 (lv_at hl 0 rfl) ?_
          refine cIN (k := kd R h) (tk := 3) S hK I wc_X9_78 hkd ha hf (Or.inl ⟨rfl, rfl⟩) dX9_findStanding_80 ?_
          refine lv_if_eq (tgt := 103) S.1 S.2.1 dX9_findStanding_83 (by decide) (fun c_83 => ?_) (fun c_83 => ?_)
          · skip
            have c_83 := bI_f c_83
            refine lv_iinc (v := nI (h + 1)) (lv' := [(3, .int (nI (h + 1))), (4, .ref a), (0, .ref (q 2)), (1, .ref (q vi)), (2, .int (nI G))]) S.1 S.2.1 dX9_findStanding_103 hl (k := 4) rfl (nI_1 _) (by decide) rfl (fun ls hl => ?_)
            refine lv_goto (tgt := 12) S.1 S.2.1 dX9_findStanding_106 (by decide) ?_
            exact ih_12 (h + 1) (s4 ||| (2 ^ h)) s6 (by omega) (by omega) (by rw [msk, ← hs4, c_59, if_pos rfl]) (by rw [twF, if_neg (fun z => of_decide_eq_false c_83 z.2), ← hs6]) _ _ _ I (lv_sub hl [2, 3, 4, 0] rfl)
          · skip
            have c_83 := bI_t c_83
            refine lv_aload_n S.1 S.2.1 dX9_findStanding_86 rfl (lv_at hl 1 rfl) ?_
            refine lv_dup S.1 S.2.1 dX9_findStanding_87 rfl ?_
            refine rg (ci := 9) (q0 := 2) (v := .int (nI s6)) 6 S hK I cl_X9 rfl wf_X9_50 (by decide) rfl rfl rfl dX9_findStanding_88 ?_
            refine lv_aload S.1 S.2.1 dX9_findStanding_91 (lv_at hl 0 rfl) ?_
            refine rgH 0 (by decide) S hK I wf_X9_66 ha hf rfl dX9_findStanding_93 ?_
            refine tI (y := nI (wh R h)) ((hH h (by omega)).1) ?_
            refine cN (np := 1) (As := [.int (nI (wh R h))]) (rest := [.int (nI s6), .ref (q 2)]) S (x_bit l D cy (wX cy q (va_up (va_up K 4 (s4 ||| (2 ^ h))) 6 s6) C O L f) (wh R h) (by omega)) hK hA I (by decide +kernel) wt_X11_bit wn_X11 wk_X11_bit hd_X11_bit rfl ⟨by decide, by decide⟩ hl.1 rfl (Nat.le_of_ble_eq_true rfl) dX9_findStanding_96 ⟨by decide, by decide⟩ (fun v_ u_ H locs h_ I => ?_)
            obtain rfl := h_
            have I : IX D A s.heap (wX cy q (va_up (va_up K 4 (s4 ||| (2 ^ h))) 6 s6) C O L f) H locs := I
            refine W.eq (g2 := F0 m 99 ls [.int (nI (2 ^ (wh R h))), .int (nI s6), .ref (q 2)]) rfl ?_
            refine lv_ior S.1 S.2.1 dX9_findStanding_99 ?_
            refine tI (y := nI (s6 ||| (2 ^ (wh R h)))) (fa_or _ _) ?_
            refine rp (ci := 9) (q0 := 2) (v := .int (nI (s6 ||| (2 ^ (wh R h))))) (ty := .int) 6 S hK I cl_X9 rfl wf_X9_50 (by decide) rfl tyX9_ok nmX9 rfl (by decide +kernel) rfl rfl (by exact Nat.le_of_ble_eq_true rfl) rfl dX9_findStanding_100 (fun H locs I => ?_)
            have I : IX D A s.heap (wX cy q (va_up (va_up K 4 (s4 ||| (2 ^ h))) 6 (s6 ||| (2 ^ (wh R h)))) C O L f) H locs := I
            refine lv_iinc (v := nI (h + 1)) (lv' := [(3, .int (nI (h + 1))), (4, .ref a), (0, .ref (q 2)), (1, .ref (q vi)), (2, .int (nI G))]) S.1 S.2.1 dX9_findStanding_103 hl (k := 4) rfl (nI_1 _) (by decide) rfl (fun ls hl => ?_)
            refine lv_goto (tgt := 12) S.1 S.2.1 dX9_findStanding_106 (by decide) ?_
            exact ih_12 (h + 1) (s4 ||| (2 ^ h)) (s6 ||| (2 ^ (wh R h))) (by omega) (by omega) (by rw [msk, ← hs4, c_59, if_pos rfl]) (by rw [twF, if_pos ⟨c_59, of_decide_eq_true c_83⟩, ← hs6]) _ _ _ I (lv_sub hl [2, 3, 4, 0] rfl)
        · skip
          have c_59 := bI_f c_59
          refine lv_goto (tgt := 103) S.1 S.2.1 dX9_findStanding_62 (by decide) ?_
          refine lv_iinc (v := nI (h + 1)) (lv' := [(3, .int (nI (h + 1))), (4, .ref a), (0, .ref (q 2)), (1, .ref (q vi)), (2, .int (nI G))]) S.1 S.2.1 dX9_findStanding_103 hl (k := 4) rfl (nI_1 _) (by decide) rfl (fun ls hl => ?_)
          refine lv_goto (tgt := 12) S.1 S.2.1 dX9_findStanding_106 (by decide) ?_
          exact ih_12 (h + 1) s4 s6 (by omega) (by omega) (by rw [msk, ← hs4, c_59, if_neg Bool.false_ne_true, Nat.or_zero]) (by rw [twF, if_neg (fun z => by rw [c_59] at z; exact Bool.false_ne_true z.1), ← hs6]) _ _ _ I (lv_sub hl [2, 3, 4, 0] rfl)
  exact loop_12 _ 0 0 0 (Nat.lt_succ_self _) (Nat.zero_le _) rfl rfl _ _ _ I (lv_sub hl [1, 2, 3, 0] rfl)
