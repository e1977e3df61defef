/-- the class's fixed cells -/
def wF (cy : Nat → ClassId) (q : Nat → Nat) (K : Nat → Nat) (C : Nat → Nat → Int32) (O : Nat → Nat → Option Nat) : va_W := [(q 0, .inr (11, [.ref (q 1), .ref (q 2), .ref (q 3), .ref (q 4)])), (q 1, .inr (5, [.ref (q 5), .ref (q 6), .ref (q 7), .ref (q 8), .int (nI (K 0)), .int (nI (K 1)), .int (nI (K 2)), .int (nI (K 3))])), (q 2, .inr (9, [.ref (q 1), .ref (q 9), .ref (q 10), .ref (q 11), .int (nI (K 4)), .int (nI (K 5)), .int (nI (K 6))])), (q 3, .inr (4, [.ref (q 1), .ref (q 2), .ref (q 12), .ref (q 13), .ref (q 14), .int (nI (K 7)), .int (nI (K 8))])), (q 4, .inr (6, [.ref (q 3), .ref (q 15), .ref (q 16), .ref (q 17), .ref (q 18), .ref (q 19), .ref (q 20), .int (nI (K 9)), .int (nI (K 10))])), (q 5, .inl (cy 0, 8, .inl (C 5))), (q 6, .inl (cy 0, 8, .inl (C 6))), (q 7, .inl (cy 0, 8, .inl (C 7))), (q 8, .inl (cy 2, 12, .inr (.inr (.inr (.inr (O 8)))))), (q 9, .inl (cy 0, 8, .inl (C 9))), (q 10, .inl (cy 0, 8, .inl (C 10))), (q 11, .inl (cy 0, 8, .inl (C 11))), (q 12, .inl (cy 3, 8, .inr (.inr (.inr (.inr (O 12)))))), (q 13, .inl (cy 4, 8, .inr (.inr (.inr (.inr (O 13)))))), (q 14, .inl (cy 0, 8, .inl (C 14))), (q 15, .inl (cy 0, 256, .inl (C 15))), (q 16, .inl (cy 1, 256, .inl (C 16))), (q 17, .inl (cy 5, 7, .inr (.inr (.inr (.inr (fun i => if i < 7 then some (q (21 + i)) else none)))))), (q 18, .inl (cy 0, 6, .inl (C 18))), (q 19, .inl (cy 0, 7, .inl (C 19))), (q 20, .inl (cy 0, 8, .inl (C 20))), (q 21, .inl (cy 0, 256, .inl (C 21))), (q 22, .inl (cy 0, 256, .inl (C 22))), (q 23, .inl (cy 0, 256, .inl (C 23))), (q 24, .inl (cy 0, 256, .inl (C 24))), (q 25, .inl (cy 0, 256, .inl (C 25))), (q 26, .inl (cy 0, 256, .inl (C 26))), (q 27, .inl (cy 0, 256, .inl (C 27)))]
/-- the class's world: the fixed cells, and the pool of its holes, mends and quarrels -/
def wX (cy : Nat → ClassId) (q : Nat → Nat) (K : Nat → Nat) (C : Nat → Nat → Int32) (O : Nat → Nat → Option Nat) (L : List Nat) (f : Nat → va_E) : va_W := wF cy q K C O ++ va_pl L f
theorem nx_of {x : Int32} {n : Nat} (h1 : ¬ x < 0) (h2 : ¬ nI n ≤ x) (hn : n < 1000000) : isP n x = true := by
  refine decide_eq_true ⟨?_, ?_⟩
  · rcases Int.lt_or_le x.toInt 0 with q | q
    · exact absurd ((fa_lt x 0).mpr q) h1
    · exact q
  · rcases Int.lt_or_le x.toInt n with q | q
    · exact q
    · exact absurd ((fa_le _ _).mpr (by rw [nI_toInt (by omega)]; exact q)) h2
theorem nx_no1 {x : Int32} {n : Nat} (h1 : x < 0) : isP n x = false := decide_eq_false (fun h => by
  have := (fa_lt x 0).mp h1
  have h9 : (0 : Int32).toInt = 0 := rfl
  omega)
theorem nx_no2 {x : Int32} {n : Nat} (h2 : nI n ≤ x) (hn : n < 1000000) : isP n x = false := decide_eq_false (fun h => by
  have := (fa_le _ _).mp h2
  rw [nI_toInt (by omega)] at this
  omega)
def wmF (M n : Nat) (b : Bool) : Nat := if b = true then M ||| 2 ^ n else M ^^^ (M &&& 2 ^ n)
theorem bt_nI {x i : Nat} (h : i < 32) : bt (nI x) i = x.testBit i := by
  show (BitVec.ofNat 32 x).getLsbD i = x.testBit i
  rw [BitVec.getLsbD_ofNat, decide_eq_true h, Bool.true_and]
theorem clr_I (M n : Nat) : nI M &&& (nI (2 ^ n) ^^^ (-1)) = nI (M ^^^ (M &&& 2 ^ n)) := by
  refine b_ext (fun i hi => ?_)
  rw [b_and, b_xor, b_m1 i hi, bt_nI hi, bt_nI hi, bt_nI hi, Nat.testBit_xor, Nat.testBit_and]
  cases M.testBit i <;> cases (2 ^ n).testBit i <;> rfl
theorem wmF_bit (M n : Nat) (b : Bool) (i : Nat) : (wmF M n b).testBit i = if i = n then b else M.testBit i := by
  unfold wmF
  cases b
  · rw [if_neg Bool.false_ne_true, Nat.testBit_xor, Nat.testBit_and, Nat.testBit_two_pow]
    by_cases e : i = n
    · rw [if_pos e, decide_eq_true (e.symm), Bool.and_true, Bool.xor_self]
    · rw [if_neg e, decide_eq_false (fun q => e q.symm), Bool.and_false, Bool.xor_false]
  · rw [if_pos rfl, Nat.testBit_or, Nat.testBit_two_pow]
    by_cases e : i = n
    · rw [if_pos e, decide_eq_true (e.symm), Bool.or_true]
    · rw [if_neg e, decide_eq_false (fun q => e q.symm), Bool.or_false]
theorem wmF_lt {M n k : Nat} {b : Bool} (hM : M < 2 ^ k) (hn : n < k) : wmF M n b < 2 ^ k := by
  unfold wmF
  split
  · exact Nat.or_lt_two_pow hM (Nat.pow_lt_pow_right (by decide) hn)
  · exact Nat.xor_lt_two_pow hM (Nat.and_lt_two_pow _ (Nat.pow_lt_pow_right (by decide) hn))
/-- a hole's cell, by its kind -/
def hcell (k : Nat) (pa lo hi to tp aw : Int32) : va_E := if k = 0 then .inr (2, [.int pa, .int lo, .int hi]) else if k = 1 then .inr (0, [.int pa, .int lo, .int hi, .int to, .int tp]) else if k = 2 then .inr (8, [.int pa, .int lo, .int hi]) else if k = 3 then .inr (10, [.int pa, .int lo, .int hi]) else .inr (1, [.int pa, .int lo, .int hi, .int aw])
section XROWS
variable {α : Type} {p : Program} {l : Launch} {e : Env} {R : Room} {s : State} {m : MethodId} {args : Array Value} {below : List Frame} {meth : Method} {c : Code} {H : Heap} {locs : List Loc} {cells slots mc ms : Nat} {Q : State → Prop}
variable {cc : ByteArray} {nL pc : Nat} {ls : Array Slot} {rest st : List Value} {D : va_G} {cy : Nat → ClassId} {A : Nat → Prop} {Ts : List Cond} {own : String} {ws : va_W} {post : Option Value → α → Prop} {w1 : α → va_W} {u : α}
variable {q : Nat → Nat} {K : Nat → Nat} {C : Nat → Nat → Int32} {O : Nat → Nat → Option Nat} {L : List Nat} {f : Nat → va_E}
theorem tV {x y : Value} (h : x = y) (k : W p l e R s m args below meth c H locs cells slots Q (F0 m pc ls (y :: rest))) : W p l e R s m args below meth c H locs cells slots Q (F0 m pc ls (x :: rest)) := by rw [h]; exact k
/-- a field of an object of the pool -/
theorem rgP {x : Cond} {Cn ref : String} {T : u_T} {N ci a idx : Nat} (k : Nat) {fs : List Value} {v : Value} (S : CallFix p m c cc nL s args (x :: uT) own) (hK : KX D cy s) (I : IX D A s.heap (wX cy q K C O L f) H locs) (hcl : ∀ w ∈ u_ws Cn T N, w ∈ uT) (hc : vwCl[ci]? = some (Cn, T, N)) (hw : Cond.fieldLink own idx ref (T k).2.1 (T k).2.2.1 ∈ uT) (hk : k < N) (hs : (T k).1 = ref)
    (ha : a ∈ L) (hf : f a = .inr (ci, fs)) (hv : fs[k]? = some v) (hdg : decode cc pc = .ok (.getfield idx, 3)) (kk : W p l e R s m args below meth c H locs cells slots Q (F0 m (pc + 3) ls (v :: rest))) : W p l e R s m args below meth c H locs cells slots Q (F0 m pc ls (.ref a :: rest)) := by
  obtain ⟨k0, h0⟩ := va_pl_get (X := wF cy q K C O) (f := f) ha
  rw [hf] at h0
  exact rg k S hK I hcl hc hw hk hs h0 hv hdg kk
/-- part, low, high of a hole of any kind -/
theorem rgH {x : Cond} {a idx : Nat} (j : Nat) (hj : j < 3) {k : Nat} {pa lo hi to tp aw v : Int32} (S : CallFix p m c cc nL s args (x :: uT) own) (hK : KX D cy s) (I : IX D A s.heap (wX cy q K C O L f) H locs) (hw : Cond.fieldLink own idx RX2 (TX2 j).2.1 (TX2 j).2.2.1 ∈ uT) (ha : a ∈ L) (hf : f a = hcell k pa lo hi to tp aw) (hv : [pa, lo, hi][j]? = some v) (hdg : decode cc pc = .ok (.getfield idx, 3))
    (kk : W p l e R s m args below meth c H locs cells slots Q (F0 m (pc + 3) ls (.int v :: rest))) : W p l e R s m args below meth c H locs cells slots Q (F0 m pc ls (.ref a :: rest)) := by
  have hv2 : [Value.int pa, .int lo, .int hi][j]? = some (.int v) := by
    rcases (show j = 0 ∨ j = 1 ∨ j = 2 by omega) with rfl | rfl | rfl <;> simp at hv <;> simp [hv]
  unfold hcell at hf
  by_cases h0 : k = 0
  · rw [if_pos h0] at hf
    exact rgP (ci := 2) j S hK I cl_X2 rfl hw hj (by rcases (show j = 0 ∨ j = 1 ∨ j = 2 by omega) with rfl | rfl | rfl <;> rfl) ha hf hv2 hdg kk
  rw [if_neg h0] at hf
  by_cases h1 : k = 1
  · rw [if_pos h1] at hf
    exact rgP (ci := 0) (T := TX0) j S hK I cl_X0 rfl (by rcases (show j = 0 ∨ j = 1 ∨ j = 2 by omega) with rfl | rfl | rfl <;> exact hw) (by omega) (by rcases (show j = 0 ∨ j = 1 ∨ j = 2 by omega) with rfl | rfl | rfl <;> rfl) ha hf (by rcases (show j = 0 ∨ j = 1 ∨ j = 2 by omega) with rfl | rfl | rfl <;> exact hv2) hdg kk
  rw [if_neg h1] at hf
  by_cases h2 : k = 2
  · rw [if_pos h2] at hf
    exact rgP (ci := 8) (T := TX8) j S hK I cl_X8 rfl (by rcases (show j = 0 ∨ j = 1 ∨ j = 2 by omega) with rfl | rfl | rfl <;> exact hw) (by omega) (by rcases (show j = 0 ∨ j = 1 ∨ j = 2 by omega) with rfl | rfl | rfl <;> rfl) ha hf hv2 hdg kk
  rw [if_neg h2] at hf
  by_cases h3 : k = 3
  · rw [if_pos h3] at hf
    exact rgP (ci := 10) (T := TX10) j S hK I cl_X10 rfl (by rcases (show j = 0 ∨ j = 1 ∨ j = 2 by omega) with rfl | rfl | rfl <;> exact hw) (by omega) (by rcases (show j = 0 ∨ j = 1 ∨ j = 2 by omega) with rfl | rfl | rfl <;> rfl) ha hf hv2 hdg kk
  rw [if_neg h3] at hf
  exact rgP (ci := 1) (T := TX1) j S hK I cl_X1 rfl (by rcases (show j = 0 ∨ j = 1 ∨ j = 2 by omega) with rfl | rfl | rfl <;> exact hw) (by omega) (by rcases (show j = 0 ∨ j = 1 ∨ j = 2 by omega) with rfl | rfl | rfl <;> rfl) ha hf (by rcases (show j = 0 ∨ j = 1 ∨ j = 2 by omega) with rfl | rfl | rfl <;> exact hv2) hdg kk
theorem gU {x : Cond} {own C owner : String} {idx : Nat} {z y : MethodName} {b : ByteArray} {n : Nat} {r : Option FieldType} (h1 : Cond.methodLink own idx z ∈ uT) (h2 : Cond.sameMethod z.cls owner z.name z.desc ∈ uT) (h3 : Cond.selects C z y ∈ uT) (h4 : Cond.instanceMethod y ∈ uT) (h6 : Cond.initialized y.cls ∈ uT) (h5 : Cond.code y b n r ∈ uT) : GoodIn (x :: uT) (va_wsU own idx C owner z y (wsu y b n r)) := by
  intro w hw
  have : w ∈ uT := by
    simp only [va_wsU, List.cons_append, List.nil_append, List.mem_cons] at hw
    rcases hw with rfl | rfl | rfl | rfl | rfl | rfl | hw <;> assumption
  exact uT_GI w this
theorem gO {x : Cond} {own C owner : String} {idx : Nat} {z y : MethodName} {b : ByteArray} {n : Nat} {r : Option FieldType} (h1 : Cond.methodLink own idx z ∈ uT) (h2 : Cond.sameMethod z.cls owner z.name z.desc ∈ uT) (h7 : Cond.instanceMethod ⟨owner, z.name, z.desc⟩ ∈ uT) (h3 : Cond.selects C z y ∈ uT) (h4 : Cond.instanceMethod y ∈ uT) (h6 : Cond.initialized y.cls ∈ uT) (h5 : Cond.code y b n r ∈ uT) : GoodIn (x :: uT) (va_wsO own idx C owner z y (wsu y b n r)) := by
  intro w hw
  have : w ∈ uT := by
    simp only [va_wsO, List.cons_append, List.nil_append, List.mem_cons] at hw
    rcases hw with rfl | rfl | rfl | rfl | rfl | rfl | rfl | hw <;> assumption
  exact uT_GI w this
/-- a call whose method is found by the object's class, the object in the pool -/
theorem cU {x : Cond} {z y : MethodName} {b : ByteArray} {n idx np ci a N : Nat} {r : Option FieldType} {rm : Room} {As : List Value} {Cn owner : String} {T : u_T} {fs : List Value} (S : CallFix p m c cc nL s args (x :: uT) own) (hM : MS l D cy y b n r rm (.ref a :: As) (wX cy q K C O L f) post w1) (hK : KX D cy s) (hA : ∀ q, s.heap.size ≤ q → A q) (I : IX D A s.heap (wX cy q K C O L f) H locs)
    (cu : va_CU R s args own Cn owner idx z y b n r (wsu y b n r) rm rm.cells rm.slots np) (hn : As.length = np)
    (hc : vwCl[ci]? = some (Cn, T, N)) (ha : a ∈ L) (hf : f a = .inr (ci, fs)) (hsize : ls.size = nL) (hst : st = As.reverse ++ .ref a :: rest) (hW : (rest.map fun v => v.category).sum ≤ 8) (hdg : decode cc pc = .ok (.invokevirtual idx, 3)) (hff : cells + rm.cells ≤ R.cells ∧ slots + rm.slots ≤ R.slots)
    (kk : ∀ (v : Option Value) (u : α) (H1 : Heap) (locs1 : List Loc), post v u → IX D A s.heap (w1 u) H1 locs1 → W p l e R s m args below meth c H1 locs1 (cells + rm.cells) (slots + rm.slots) Q (F0 m (pc + 3) ls (v.toList ++ rest))) : W p l e R s m args below meth c H locs cells slots Q (F0 m pc ls st) := by
  obtain ⟨k0, h0⟩ := va_pl_get (X := wF cy q K C O) (f := f) ha
  rw [hf] at h0
  exact va_callS (va_runU (As := As) (rest := rest) (b := a) S (hM H.size) cu ⟨FB, va_recv hK.1 I.1 hc h0, PX hK I _⟩ rfl hn hsize hst (lv_room hW) hdg hff) hA I kk
/-- the same, of the class that the link names -/
theorem cVP {x : Cond} {y : MethodName} {b : ByteArray} {n idx np ci a N : Nat} {r : Option FieldType} {rm : Room} {As : List Value} {T : u_T} {fs : List Value} (S : CallFix p m c cc nL s args (x :: uT) own) (hM : MS l D cy y b n r rm (.ref a :: As) (wX cy q K C O L f) post w1) (hK : KX D cy s) (hA : ∀ q, s.heap.size ≤ q → A q) (I : IX D A s.heap (wX cy q K C O L f) H locs)
    (h1 : Cond.methodLink own idx y ∈ uT) (h2 : Cond.instanceMethod y ∈ uT) (h3 : Cond.selects y.cls y y ∈ uT) (h4 : Cond.initialized y.cls ∈ uT) (h5 : Cond.code y b n r ∈ uT) (hd : y.cls = y.cls ∧ y.cls ≠ "java/lang/invoke/MethodHandle" ∧ y.cls ≠ "java/lang/invoke/VarHandle" ∧ (parseMethodDescriptor y.desc).map (fun d => d.parameters.length) = some np) (hn : As.length = np) (hR : rm.frames + 1 ≤ R.frames ∧ 8 + (n + 11) + rm.locals ≤ R.locals)
    (hc : vwCl[ci]? = some (y.cls, T, N)) (ha : a ∈ L) (hf : f a = .inr (ci, fs)) (hsize : ls.size = nL) (hst : st = As.reverse ++ .ref a :: rest) (hW : (rest.map fun v => v.category).sum ≤ 8) (hdg : decode cc pc = .ok (.invokevirtual idx, 3)) (hff : cells + rm.cells ≤ R.cells ∧ slots + rm.slots ≤ R.slots)
    (kk : ∀ (v : Option Value) (u : α) (H1 : Heap) (locs1 : List Loc), post v u → IX D A s.heap (w1 u) H1 locs1 → W p l e R s m args below meth c H1 locs1 (cells + rm.cells) (slots + rm.slots) Q (F0 m (pc + 3) ls (v.toList ++ rest))) : W p l e R s m args below meth c H locs cells slots Q (F0 m pc ls st) := by
  obtain ⟨k0, h0⟩ := va_pl_get (X := wF cy q K C O) (f := f) ha
  rw [hf] at h0
  exact cV S hM hK hA I h1 h2 h3 h4 h5 hd hn hR hc h0 hsize hst hW hdg hff kk
end XROWS
set_option maxHeartbeats 4000000 in
set_option maxRecDepth 100000 in
theorem x_isBetween (l : Launch) (D : va_G) (cy : Nat → ClassId) (w0 : va_W) (v a b : Int32) : MS (α := Unit) l D cy yX11_isBetween cX11_isBetween 3 (Option.some FieldType.boolean) rm_X11_isBetween [.int v, .int a, .int b] (w0) (fun v_ (_ : Unit) => v_ = some (.int (bI (inB v a b)))) (fun _ => w0) := by
  refine MS.mk2 (by decide) (Nat.le_of_ble_eq_true rfl) [(0, .int v), (1, .int a), (2, .int b)] rfl ?_
  intro p e s m args below meth c A ls Q hQ S hr hlk hnm hK hA I hl
  refine lv_iload_n S.1 S.2.1 dX11_isBetween_0 rfl (lv_at hl 1 rfl) ?_
  refine lv_iload_n S.1 S.2.1 dX11_isBetween_1 rfl (lv_at hl 0 rfl) ?_
  refine lv_icmp_gt (tgt := 14) S.1 S.2.1 dX11_isBetween_2 (by decide) (fun c_2 => ?_) (fun c_2 => ?_)
  · skip
    refine lv_iconst (v := nI 0) S.1 S.2.1 dX11_isBetween_14 (by decide) ?_
    exact ru_z hQ S hr hlk (by decide) (u := ()) I (congrArg (fun z => some (Value.int z)) (bI_0 (inB_a c_2))) dX11_isBetween_15
  · skip
    refine lv_iload_n S.1 S.2.1 dX11_isBetween_5 rfl (lv_at hl 0 rfl) ?_
    refine lv_iload_n S.1 S.2.1 dX11_isBetween_6 rfl (lv_at hl 2 rfl) ?_
    refine lv_icmp_gt (tgt := 14) S.1 S.2.1 dX11_isBetween_7 (by decide) (fun c_7 => ?_) (fun c_7 => ?_)
    · skip
      refine lv_iconst (v := nI 0) S.1 S.2.1 dX11_isBetween_14 (by decide) ?_
      exact ru_z hQ S hr hlk (by decide) (u := ()) I (congrArg (fun z => some (Value.int z)) (bI_0 (inB_b c_7))) dX11_isBetween_15
    · skip
      refine lv_iconst (v := nI 1) S.1 S.2.1 dX11_isBetween_10 (by decide) ?_
      refine lv_goto (tgt := 15) S.1 S.2.1 dX11_isBetween_11 (by decide) ?_
      exact ru_z hQ S hr hlk (by decide) (u := ()) I (congrArg (fun z => some (Value.int z)) (bI_1 (inB_1 c_2 c_7))) dX11_isBetween_15
set_option maxHeartbeats 4000000 in
set_option maxRecDepth 100000 in
theorem x_isVersion (l : Launch) (D : va_G) (cy : Nat → ClassId) (w0 : va_W) (v : Int32) : MS (α := Unit) l D cy yX11_isVersion cX11_isVersion 1 (Option.some FieldType.boolean) rm_X11_isVersion [.int v] (w0) (fun v_ (_ : Unit) => v_ = some (.int (bI (isV v)))) (fun _ => w0) := by
  refine MS.mk2 (by decide) (Nat.le_of_ble_eq_true rfl) [(0, .int v)] rfl ?_
  intro p e s m args below meth c A ls Q hQ S hr hlk hnm hK hA I hl
  refine lv_iload_n S.1 S.2.1 dX11_isVersion_0 rfl (lv_at hl 0 rfl) ?_
  refine lv_iconst (v := nI 1) S.1 S.2.1 dX11_isVersion_1 (by decide) ?_
  refine lv_bipush (v := nI 9) S.1 S.2.1 dX11_isVersion_2 (by decide) ?_
  refine cS (np := 3) (As := [.int v, .int (nI 1), .int (nI 9)]) (rest := []) S (x_isBetween l D cy (w0) v (nI 1) (nI 9)) hK hA I wm_X11_47 wt_X11_isBetween wn_X11 wk_X11_isBetween ⟨rfl, hd_X11_isBetween⟩ rfl ⟨by decide, by decide⟩ hl.1 rfl (Nat.le_of_ble_eq_true rfl) dX11_isVersion_4 ⟨by decide, by decide⟩ (fun v_ u_ H locs h_ I => ?_)
  obtain rfl := h_
  have I : IX D A s.heap (w0) H locs := I
  refine W.eq (g2 := F0 m 7 ls [.int (bI (inB v (nI 1) (nI 9)))]) rfl ?_
  exact ru_z hQ S hr hlk (bI_01 _) (u := ()) I rfl dX11_isVersion_7
set_option maxHeartbeats 4000000 in
set_option maxRecDepth 100000 in
theorem x_isSpan (l : Launch) (D : va_G) (cy : Nat → ClassId) (w0 : va_W) (a b : Int32) : MS (α := Unit) l D cy yX11_isSpan cX11_isSpan 2 (Option.some FieldType.boolean) rm_X11_isSpan [.int a, .int b] (w0) (fun v_ (_ : Unit) => v_ = some (.int (bI (isV a && (isV b && decide (a ≤ b)))))) (fun _ => w0) := by
  refine MS.mk2 (by decide) (Nat.le_of_ble_eq_true rfl) [(0, .int a), (1, .int b)] rfl ?_
  intro p e s m args below meth c A ls Q hQ S hr hlk hnm hK hA I hl
  refine lv_iload_n S.1 S.2.1 dX11_isSpan_0 rfl (lv_at hl 0 rfl) ?_
  refine cS (np := 1) (As := [.int a]) (rest := []) S (x_isVersion l D cy (w0) a) hK hA I wm_X11_43 wt_X11_isVersion wn_X11 wk_X11_isVersion ⟨rfl, hd_X11_isVersion⟩ rfl ⟨by decide, by decide⟩ hl.1 rfl (Nat.le_of_ble_eq_true rfl) dX11_isSpan_1 ⟨by decide, by decide⟩ (fun v_ u_ H locs h_ I => ?_)
  obtain rfl := h_
  have I : IX D A s.heap (w0) H locs := I
  refine W.eq (g2 := F0 m 4 ls [.int (bI (isV a))]) rfl ?_
  refine lv_if_eq (tgt := 23) S.1 S.2.1 dX11_isSpan_4 (by decide) (fun c_4 => ?_) (fun c_4 => ?_)
  · skip
    have c_4 := bI_f c_4
    refine lv_iconst (v := nI 0) S.1 S.2.1 dX11_isSpan_23 (by decide) ?_
    exact ru_z hQ S hr hlk (by decide) (u := ()) I (congrArg (fun z => some (Value.int z)) (bI_0 (by simp [c_4]))) dX11_isSpan_24
  · skip
    have c_4 := bI_t c_4
    refine lv_iload_n S.1 S.2.1 dX11_isSpan_7 rfl (lv_at hl 1 rfl) ?_
    refine cS (np := 1) (As := [.int b]) (rest := []) S (x_isVersion l D cy (w0) b) hK hA I wm_X11_43 wt_X11_isVersion wn_X11 wk_X11_isVersion ⟨rfl, hd_X11_isVersion⟩ rfl ⟨by decide, by decide⟩ hl.1 rfl (Nat.le_of_ble_eq_true rfl) dX11_isSpan_8 ⟨by decide, by decide⟩ (fun v_ u_ H locs h_ I => ?_)
    obtain rfl := h_
    have I : IX D A s.heap (w0) H locs := I
    refine W.eq (g2 := F0 m 11 ls [.int (bI (isV b))]) rfl ?_
    refine lv_if_eq (tgt := 23) S.1 S.2.1 dX11_isSpan_11 (by decide) (fun c_11 => ?_) (fun c_11 => ?_)
    · skip
      have c_11 := bI_f c_11
      refine lv_iconst (v := nI 0) S.1 S.2.1 dX11_isSpan_23 (by decide) ?_
      exact ru_z hQ S hr hlk (by decide) (u := ()) I (congrArg (fun z => some (Value.int z)) (bI_0 (by simp [c_4, c_11]))) dX11_isSpan_24
    · skip
      have c_11 := bI_t c_11
      refine lv_iload_n S.1 S.2.1 dX11_isSpan_14 rfl (lv_at hl 0 rfl) ?_
      refine lv_iload_n S.1 S.2.1 dX11_isSpan_15 rfl (lv_at hl 1 rfl) ?_
      refine lv_icmp_gt (tgt := 23) S.1 S.2.1 dX11_isSpan_16 (by decide) (fun c_16 => ?_) (fun c_16 => ?_)
      · skip
        refine lv_iconst (v := nI 0) S.1 S.2.1 dX11_isSpan_23 (by decide) ?_
        exact ru_z hQ S hr hlk (by decide) (u := ()) I (congrArg (fun z => some (Value.int z)) (bI_0 (by simp [c_4, c_11, (show ¬ a ≤ b from (fa_of_lt c_16).2.1)]))) dX11_isSpan_24
      · skip
        refine lv_iconst (v := nI 1) S.1 S.2.1 dX11_isSpan_19 (by decide) ?_
        refine lv_goto (tgt := 24) S.1 S.2.1 dX11_isSpan_20 (by decide) ?_
        exact ru_z hQ S hr hlk (by decide) (u := ()) I (congrArg (fun z => some (Value.int z)) (bI_1 (by simp [c_4, c_11, fa_of_nlt c_16]))) dX11_isSpan_24
set_option maxHeartbeats 4000000 in
set_option maxRecDepth 100000 in
theorem x_asNumber (l : Launch) (D : va_G) (cy : Nat → ClassId) (w0 : va_W) (b : Bool) : MS (α := Unit) l D cy yX11_asNumber cX11_asNumber 1 (Option.some FieldType.int) rm_X11_asNumber [.int (bI b)] (w0) (fun v_ (_ : Unit) => v_ = some (.int (bI b))) (fun _ => w0) := by
  refine MS.mk2 (by decide) (Nat.le_of_ble_eq_true rfl) [(0, .int (bI b))] rfl ?_
  intro p e s m args below meth c A ls Q hQ S hr hlk hnm hK hA I hl
  refine lv_iload_n S.1 S.2.1 dX11_asNumber_0 rfl (lv_at hl 0 rfl) ?_
  refine lv_if_eq (tgt := 8) S.1 S.2.1 dX11_asNumber_1 (by decide) (fun c_1 => ?_) (fun c_1 => ?_)
  · skip
    have c_1 := bI_f c_1
    refine lv_iconst (v := nI 0) S.1 S.2.1 dX11_asNumber_8 (by decide) ?_
    exact ru_i hQ S hr hlk (u := ()) I (congrArg (fun z => some (Value.int z)) (bI_0 c_1)) dX11_asNumber_9
  · skip
    have c_1 := bI_t c_1
    refine lv_iconst (v := nI 1) S.1 S.2.1 dX11_asNumber_4 (by decide) ?_
    refine lv_goto (tgt := 9) S.1 S.2.1 dX11_asNumber_5 (by decide) ?_
    exact ru_i hQ S hr hlk (u := ()) I (congrArg (fun z => some (Value.int z)) (bI_1 c_1)) dX11_asNumber_9
set_option maxHeartbeats 4000000 in
set_option maxRecDepth 100000 in
theorem x_bit (l : Launch) (D : va_G) (cy : Nat → ClassId) (w0 : va_W) (n : Nat) (hn : n < 31) : MS (α := Unit) l D cy yX11_bit cX11_bit 1 (Option.some FieldType.int) rm_X11_bit [.int (nI n)] (w0) (fun v_ (_ : Unit) => v_ = some (.int (nI (2 ^ n)))) (fun _ => w0) := by
  refine MS.mk2 (by decide) (Nat.le_of_ble_eq_true rfl) [(0, .int (nI n))] rfl ?_
  intro p e s m args below meth c A ls Q hQ S hr hlk hnm hK hA I hl
  refine lv_iconst (v := nI 1) S.1 S.2.1 dX11_bit_0 (by decide) ?_
  refine lv_iload_n S.1 S.2.1 dX11_bit_1 rfl (lv_at hl 0 rfl) ?_
  refine lv_ishl S.1 S.2.1 dX11_bit_2 ?_
  refine tI (y := nI (2 ^ n)) (bitS (by omega)) ?_
  exact ru_i hQ S hr hlk (u := ()) I rfl dX11_bit_3
set_option maxHeartbeats 4000000 in
set_option maxRecDepth 100000 in
theorem x_isIn (l : Launch) (D : va_G) (cy : Nat → ClassId) (w0 : va_W) (M : Nat) (n : Nat) (hn : n < 31) : MS (α := Unit) l D cy yX11_isIn cX11_isIn 2 (Option.some FieldType.boolean) rm_X11_isIn [.int (nI M), .int (nI n)] (w0) (fun v_ (_ : Unit) => v_ = some (.int (bI (M.testBit n)))) (fun _ => w0) := by
  refine MS.mk2 (by decide) (Nat.le_of_ble_eq_true rfl) [(0, .int (nI M)), (1, .int (nI n))] rfl ?_
  intro p e s m args below meth c A ls Q hQ S hr hlk hnm hK hA I hl
  refine lv_iload_n S.1 S.2.1 dX11_isIn_0 rfl (lv_at hl 0 rfl) ?_
  refine lv_iconst (v := nI 1) S.1 S.2.1 dX11_isIn_1 (by decide) ?_
  refine lv_iload_n S.1 S.2.1 dX11_isIn_2 rfl (lv_at hl 1 rfl) ?_
  refine lv_ishl S.1 S.2.1 dX11_isIn_3 ?_
  refine tI (y := nI (2 ^ n)) (bitS (by omega)) ?_
  refine lv_iand S.1 S.2.1 dX11_isIn_4 ?_
  refine lv_if_eq (tgt := 12) S.1 S.2.1 dX11_isIn_5 (by decide) (fun c_5 => ?_) (fun c_5 => ?_)
  · skip
    refine lv_iconst (v := nI 0) S.1 S.2.1 dX11_isIn_12 (by decide) ?_
    exact ru_z hQ S hr hlk (by decide) (u := ()) I (congrArg (fun z => some (Value.int z)) (bI_0 ((fa_bit hn).mp c_5))) dX11_isIn_13
  · skip
    refine lv_iconst (v := nI 1) S.1 S.2.1 dX11_isIn_8 (by decide) ?_
    refine lv_goto (tgt := 13) S.1 S.2.1 dX11_isIn_9 (by decide) ?_
    exact ru_z hQ S hr hlk (by decide) (u := ()) I (congrArg (fun z => some (Value.int z)) (bI_1 (ts_nf (fun h => c_5 ((fa_bit hn).mpr h))))) dX11_isIn_13
set_option maxHeartbeats 4000000 in
set_option maxRecDepth 100000 in
theorem x_withMember (l : Launch) (D : va_G) (cy : Nat → ClassId) (w0 : va_W) (M : Nat) (n : Nat) (b : Bool) (hn : n < 31) : MS (α := Unit) l D cy yX11_withMember cX11_withMember 3 (Option.some FieldType.int) rm_X11_withMember [.int (nI M), .int (nI n), .int (bI b)] (w0) (fun v_ (_ : Unit) => v_ = some (.int (nI (wmF M n b)))) (fun _ => w0) := by
  refine MS.mk2 (by decide) (Nat.le_of_ble_eq_true rfl) [(0, .int (nI M)), (1, .int (nI n)), (2, .int (bI b))] rfl ?_
  intro p e s m args below meth c A ls Q hQ S hr hlk hnm hK hA I hl
  refine lv_iload_n S.1 S.2.1 dX11_withMember_0 rfl (lv_at hl 2 rfl) ?_
  refine lv_if_eq (tgt := 13) S.1 S.2.1 dX11_withMember_1 (by decide) (fun c_1 => ?_) (fun c_1 => ?_)
  · skip
    have c_1 := bI_f c_1
    refine lv_iload_n S.1 S.2.1 dX11_withMember_13 rfl (lv_at hl 0 rfl) ?_
    refine lv_iload_n S.1 S.2.1 dX11_withMember_14 rfl (lv_at hl 1 rfl) ?_
    refine cS (np := 1) (As := [.int (nI n)]) (rest := [.int (nI M)]) S (x_bit l D cy (w0) n (by omega)) hK hA I wm_X11_146 wt_X11_bit wn_X11 wk_X11_bit ⟨rfl, hd_X11_bit⟩ rfl ⟨by decide, by decide⟩ hl.1 rfl (Nat.le_of_ble_eq_true rfl) dX11_withMember_15 ⟨by decide, by decide⟩ (fun v_ u_ H locs h_ I => ?_)
    obtain rfl := h_
    have I : IX D A s.heap (w0) H locs := I
    refine W.eq (g2 := F0 m 18 ls [.int (nI (2 ^ n)), .int (nI M)]) rfl ?_
    refine lv_iconst (v := (-1)) S.1 S.2.1 dX11_withMember_18 (by decide) ?_
    refine lv_ixor S.1 S.2.1 dX11_withMember_19 ?_
    refine lv_iand S.1 S.2.1 dX11_withMember_20 ?_
    refine tI (y := nI (M ^^^ (M &&& 2 ^ n))) (clr_I M n) ?_
    exact ru_i hQ S hr hlk (u := ()) I (congrArg (fun z => some (Value.int z)) (by rw [wmF, c_1]; rfl)) dX11_withMember_21
  · skip
    have c_1 := bI_t c_1
    refine lv_iload_n S.1 S.2.1 dX11_withMember_4 rfl (lv_at hl 0 rfl) ?_
    refine lv_iload_n S.1 S.2.1 dX11_withMember_5 rfl (lv_at hl 1 rfl) ?_
    refine cS (np := 1) (As := [.int (nI n)]) (rest := [.int (nI M)]) S (x_bit l D cy (w0) n (by omega)) hK hA I wm_X11_146 wt_X11_bit wn_X11 wk_X11_bit ⟨rfl, hd_X11_bit⟩ rfl ⟨by decide, by decide⟩ hl.1 rfl (Nat.le_of_ble_eq_true rfl) dX11_withMember_6 ⟨by decide, by decide⟩ (fun v_ u_ H locs h_ I => ?_)
    obtain rfl := h_
    have I : IX D A s.heap (w0) H locs := I
    refine W.eq (g2 := F0 m 9 ls [.int (nI (2 ^ n)), .int (nI M)]) rfl ?_
    refine lv_ior S.1 S.2.1 dX11_withMember_9 ?_
    refine tI (y := nI (M ||| (2 ^ n))) (fa_or _ _) ?_
    refine lv_goto (tgt := 21) S.1 S.2.1 dX11_withMember_10 (by decide) ?_
    exact ru_i hQ S hr hlk (u := ()) I (congrArg (fun z => some (Value.int z)) (by rw [wmF, c_1]; rfl)) dX11_withMember_21
