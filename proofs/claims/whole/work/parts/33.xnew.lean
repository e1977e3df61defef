section XNW
variable {α : Type} {p : Program} {l : Launch} {e : Env} {R : Room} {s : State} {m : MethodId} {args : Array Value} {below : List Frame} {meth : Method} {c : Code} {H : Heap} {locs : List Loc} {cells slots mc ms : Nat} {Q : State → Prop}
variable {cc : ByteArray} {nL pc : Nat} {ls : Array Slot} {rest st : List Value} {D : va_G} {cy : Nat → ClassId} {A : Nat → Prop} {own : String} {post : Option Value → α → Prop} {w1 : α → va_W} {ws : va_W}
variable {q : Nat → Nat} {K : Nat → Nat} {C : Nat → Nat → Int32} {O : Nat → Nat → Option Nat} {L : List Nat} {f : Nat → va_E}
/-- Object's constructor -/
theorem oI {x : Cond} {a idx : Nat} (S : CallFix p m c cc nL s args (x :: uT) own) (hw : Cond.methodLink own idx objectInit ∈ uT) (hsize : ls.size = nL) (hR : 1 ≤ R.frames ∧ 20 ≤ R.locals) (hW : (rest.map fun v => v.category).sum ≤ 8) (hdg : decode cc pc = .ok (.invokespecial idx, 3))
    (kk : W p l e R s m args below meth c H locs cells slots Q (F0 m (pc + 3) ls rest)) : W p l e R s m args below meth c H locs cells slots Q (F0 m pc ls (.ref a :: rest)) :=
  W.objInit S.1 S.2.1 S.2.2.2.1 (S.2.2.2.2 _ (List.mem_cons_of_mem _ hw)) (S.2.2.2.2 _ (List.mem_cons_of_mem _ wi_objectInit)) (S.2.2.2.2 _ (List.mem_cons_of_mem _ wk_objectInit)) rfl (hsize.trans S.2.2.1.symm) rfl hdg hR.1 (by have h9 : 2 * (F0 m pc ls (.ref a :: rest)).monitorRoom + (rest.map fun v => v.category).sum ≤ 8 := lv_room hW; omega) kk
/-- a final field, in its constructor -/
theorem rpF {x : Cond} {Cn ref : String} {T : u_T} {N ci q0 a idx : Nat} (k : Nat) {fs : List Value} {v : Value} {ty : FieldType} (S : CallFix p m c cc nL s args (x :: uT) own) (hK : KX D cy s) (I : IX D A s.heap ws H locs) (hcl : ∀ w ∈ u_ws Cn T N, w ∈ uT) (hc : vwCl[ci]? = some (Cn, T, N)) (hw : Cond.fieldLink own idx ref (T k).2.1 (T k).2.2.1 ∈ uT) (hk : k < N) (hs : (T k).1 = ref) {ty0 : Nat → FieldType} (hty : ∀ k, k < N → parseFieldDescriptor (T k).2.2.1 = some (ty0 k)) (hnm : ∀ a, a < N → ∀ b, b < N → a ≠ b → (T a).2.1 ≠ (T b).2.1) (hfin : (T k).2.2.2 = true) (hin2 : meth.name = "<init>") (hdecl : (T k).1 = own) (hd : parseFieldDescriptor (T k).2.2.1 = some ty) (hn : narrow ty v = v) (hfit : fits ty v = true) (hl : k < fs.length)
    (he : ws[q0]? = some (a, .inr (ci, fs))) (hdg : decode cc pc = .ok (.putfield idx, 3)) (kk : ∀ (H1 : Heap) (locs1 : List Loc), IX D A s.heap (ws.set q0 (a, .inr (ci, fs.set k v))) H1 locs1 → W p l e R s m args below meth c H1 locs1 cells slots Q (F0 m (pc + 3) ls rest)) : W p l e R s m args below meth c H locs cells slots Q (F0 m pc ls (v :: .ref a :: rest)) :=
  va_putF (D := D) S.1 S.2.1 S.2.2.2.2 (fun w h => List.mem_cons_of_mem _ (hcl w h)) ty0 hty hnm S.2.2.2.1 hK.1 I.1 I.2.1 I.2.2 q0 he hc k hk (S.2.2.2.2 _ (List.mem_cons_of_mem _ hw)) (fun _ h9 => by rw [← hs]; exact h9) hfin hin2 hdecl hd hn hfit hl hdg (fun H1 locs1 a b d => kk H1 locs1 ⟨a, b, d⟩)
/-- a constructor, the callee gets the whole world -/
theorem cI {x : Cond} {y : MethodName} {b : ByteArray} {n idx np a : Nat} {rm : Room} {As : List Value} {w0 : va_W} (S : CallFix p m c cc nL s args (x :: uT) own) (hM : MS l D cy y b n none rm (.ref a :: As) w0 post w1) (hK : KX D cy s) (hA : ∀ q, s.heap.size ≤ q → A q) (I : IX D A s.heap w0 H locs)
    (h1 : Cond.methodLink own idx y ∈ uT) (h2 : Cond.instanceMethod y ∈ uT) (h4 : Cond.initialized y.cls ∈ uT) (h5 : Cond.code y b n none ∈ uT) (hy : y.name = "<init>") (hd : y.cls ≠ "java/lang/invoke/MethodHandle" ∧ y.cls ≠ "java/lang/invoke/VarHandle" ∧ (parseMethodDescriptor y.desc).map (fun d => d.parameters.length) = some np) (hn : As.length = np) (hR : rm.frames + 1 ≤ R.frames ∧ 8 + (n + 11) + rm.locals ≤ R.locals)
    (hsize : ls.size = nL) (hst : st = As.reverse ++ .ref a :: rest) (hW : (rest.map fun v => v.category).sum ≤ 8) (hdg : decode cc pc = .ok (.invokespecial idx, 3)) (hf : cells + rm.cells ≤ R.cells ∧ slots + rm.slots ≤ R.slots)
    (kk : ∀ (v : Option Value) (u : α) (H1 : Heap) (locs1 : List Loc), post v u → IX D A s.heap (w1 u) H1 locs1 → W p l e R s m args below meth c H1 locs1 (cells + rm.cells) (slots + rm.slots) Q (F0 m (pc + 3) ls (v.toList ++ rest))) : W p l e R s m args below meth c H locs cells slots Q (F0 m pc ls st) :=
  va_callS (va_runI (As := As) (rest := rest) (b := a) S (hM H.size) (cwI np S.2.2.2.2 (gC h5) rfl rfl rfl (S.2.2.2.2 _ (List.mem_cons_of_mem _ h4)) (S.2.2.2.2 _ (List.mem_cons_of_mem _ h1)) (S.2.2.2.2 _ (List.mem_cons_of_mem _ h2)) hy hd hR) ⟨FB, PX hK I _⟩ rfl hn hsize hst (lv_room hW) hdg hf) hA I kk
theorem IX.left {w0 wr : va_W} (I : IX D A s.heap (w0 ++ wr) H locs) : IX D A s.heap w0 H locs := ⟨fun k q hk => I.1 k q (by rw [List.getElem?_append_left (List.getElem?_eq_some_iff.mp hk).1]; exact hk), ⟨fun i j p q hi hj => I.2.1.1 i j p q (by rw [List.getElem?_append_left (List.getElem?_eq_some_iff.mp hi).1]; exact hi) (by rw [List.getElem?_append_left (List.getElem?_eq_some_iff.mp hj).1]; exact hj), fun k q hk => I.2.1.2 k q (by rw [List.getElem?_append_left (List.getElem?_eq_some_iff.mp hk).1]; exact hk)⟩, I.2.2⟩
theorem IX.swap {w0 wr : va_W} (I : IX D A s.heap (w0 ++ wr) H locs) : IX D A s.heap (wr ++ w0) H locs := ⟨va_P.swap (a := []) I.1, va_D.swap (a := []) I.2.1, I.2.2⟩
/-- a constructor, with a rest of the world that it doesn't get -/
theorem cIF {x : Cond} {y : MethodName} {b : ByteArray} {n idx np a : Nat} {rm : Room} {As : List Value} {w0 wr : va_W} (S : CallFix p m c cc nL s args (x :: uT) own) (hM : MS l D cy y b n none rm (.ref a :: As) w0 post w1) (hK : KX D cy s) (hA : ∀ q, s.heap.size ≤ q → A q) (I : IX D A s.heap (w0 ++ wr) H locs)
    (h1 : Cond.methodLink own idx y ∈ uT) (h2 : Cond.instanceMethod y ∈ uT) (h4 : Cond.initialized y.cls ∈ uT) (h5 : Cond.code y b n none ∈ uT) (hy : y.name = "<init>") (hd : y.cls ≠ "java/lang/invoke/MethodHandle" ∧ y.cls ≠ "java/lang/invoke/VarHandle" ∧ (parseMethodDescriptor y.desc).map (fun d => d.parameters.length) = some np) (hn : As.length = np) (hR : rm.frames + 1 ≤ R.frames ∧ 8 + (n + 11) + rm.locals ≤ R.locals)
    (hsize : ls.size = nL) (hst : st = As.reverse ++ .ref a :: rest) (hW : (rest.map fun v => v.category).sum ≤ 8) (hdg : decode cc pc = .ok (.invokespecial idx, 3)) (hf : cells + rm.cells ≤ R.cells ∧ slots + rm.slots ≤ R.slots)
    (kk : ∀ (v : Option Value) (u : α) (H1 : Heap) (locs1 : List Loc), post v u → IX D A s.heap (w1 u ++ wr) H1 locs1 → W p l e R s m args below meth c H1 locs1 (cells + rm.cells) (slots + rm.slots) Q (F0 m (pc + 3) ls (v.toList ++ rest))) : W p l e R s m args below meth c H locs cells slots Q (F0 m pc ls st) :=
  va_callSF (va_runI (As := As) (rest := rest) (b := a) S (hM H.size) (cwI np S.2.2.2.2 (gC h5) rfl rfl rfl (S.2.2.2.2 _ (List.mem_cons_of_mem _ h4)) (S.2.2.2.2 _ (List.mem_cons_of_mem _ h1)) (S.2.2.2.2 _ (List.mem_cons_of_mem _ h2)) hy hd hR) ⟨FB, PX hK I.left _⟩ rfl hn hsize hst (lv_room hW) hdg hf) hA I kk
theorem wX_push {a : Nat} {e0 : va_E} (h : a ∉ L) : wX cy q K C O (L ++ [a]) (va_up f a e0) = wX cy q K C O L f ++ [(a, e0)] := by
  unfold wX
  rw [← va_pl_push h, List.append_assoc]
theorem pl_new {a : Nat} {e0 : va_E} (I : IX D A s.heap (wX cy q K C O L f ++ [(a, e0)]) H locs) : a ∉ L := by
  intro h
  obtain ⟨k, hk⟩ := va_pl_get (X := wF cy q K C O) (f := f) h
  have hlt := (List.getElem?_eq_some_iff.mp hk).1
  have h2 : (wX cy q K C O L f ++ [(a, e0)])[k]? = some (a, f a) := by rw [List.getElem?_append_left (show k < (wX cy q K C O L f).length from hlt)]; exact hk
  have h3 : (wX cy q K C O L f ++ [(a, e0)])[(wX cy q K C O L f).length]? = some (a, e0) := by rw [List.getElem?_append_right (Nat.le_refl _), Nat.sub_self]; rfl
  have h4 := I.2.1.1 _ _ _ _ h2 h3 rfl
  have h5 : k < (wX cy q K C O L f).length := hlt
  omega
/-- a new object, into the pool -/
theorem nwP {x : Cond} {Cn : String} {T : u_T} {N ci idx : Nat} {fs : List Value} (S : CallFix p m c cc nL s args (x :: uT) own) (hK : KX D cy s) (hA : ∀ q, s.heap.size ≤ q → A q) (I : IX D A s.heap (wX cy q K C O L f) H locs) (hcl : ∀ w ∈ u_ws Cn T N, w ∈ uT) {ty : Nat → FieldType} (hty : ∀ k, k < N → parseFieldDescriptor (T k).2.2.1 = some (ty k)) (hw : Cond.classLink own idx Cn ∈ uT) (hb : Cond.instantiable Cn N ∈ uT) (hi : Cond.initialized Cn ∈ uT) (hc : vwCl[ci]? = some (Cn, T, N)) (hfs : ∀ j, j < N → defaultValue (ty j) = vp_V fs j) (hR : cells + 1 ≤ R.cells ∧ slots + N ≤ R.slots) (hdg : decode cc pc = .ok (.new idx, 3))
    (kk : ∀ (a : Nat) (H1 : Heap), a ∉ L → IX D A s.heap (wX cy q K C O (L ++ [a]) (va_up f a (.inr (ci, fs)))) H1 locs → W p l e R s m args below meth c H1 locs (cells + 1) (slots + N) Q (F0 m (pc + 3) ls (.ref a :: rest))) : W p l e R s m args below meth c H locs cells slots Q (F0 m pc ls rest) := by
  refine va_new S.1 S.2.1 S.2.2.2.2 (fun w h => List.mem_cons_of_mem _ (hcl w h)) ty hty S.2.2.2.1 (S.2.2.2.2 _ (List.mem_cons_of_mem _ hw)) (S.2.2.2.2 _ (List.mem_cons_of_mem _ hb)) (S.2.2.2.2 _ (List.mem_cons_of_mem _ hi)) hK.1 I.1 I.2.1 I.2.2 hA hc hfs hR.1 hR.2 hdg (fun a H1 i1 i2 i3 => ?_)
  have I1 : IX D A s.heap (wX cy q K C O L f ++ [(a, .inr (ci, fs))]) H1 locs := ⟨i1, i2, i3⟩
  have hna := pl_new I1
  rw [← wX_push hna] at I1
  exact kk a H1 hna I1
/-- the constructor of an object of the pool -/
theorem cIP {x : Cond} {y : MethodName} {b : ByteArray} {n idx np a : Nat} {rm : Room} {As : List Value} {e0 e1 : va_E} (S : CallFix p m c cc nL s args (x :: uT) own) (hM : MS l D cy y b n none rm (.ref a :: As) [(a, e0)] (fun v (_ : Unit) => v = none) (fun _ => [(a, e1)])) (hK : KX D cy s) (hA : ∀ q, s.heap.size ≤ q → A q) (hna : a ∉ L) (I : IX D A s.heap (wX cy q K C O (L ++ [a]) (va_up f a e0)) H locs)
    (h1 : Cond.methodLink own idx y ∈ uT) (h2 : Cond.instanceMethod y ∈ uT) (h4 : Cond.initialized y.cls ∈ uT) (h5 : Cond.code y b n none ∈ uT) (hy : y.name = "<init>") (hd : y.cls ≠ "java/lang/invoke/MethodHandle" ∧ y.cls ≠ "java/lang/invoke/VarHandle" ∧ (parseMethodDescriptor y.desc).map (fun d => d.parameters.length) = some np) (hn : As.length = np) (hR : rm.frames + 1 ≤ R.frames ∧ 8 + (n + 11) + rm.locals ≤ R.locals)
    (hsize : ls.size = nL) (hst : st = As.reverse ++ .ref a :: rest) (hW : (rest.map fun v => v.category).sum ≤ 8) (hdg : decode cc pc = .ok (.invokespecial idx, 3)) (hf : cells + rm.cells ≤ R.cells ∧ slots + rm.slots ≤ R.slots)
    (kk : ∀ (H1 : Heap) (locs1 : List Loc), IX D A s.heap (wX cy q K C O (L ++ [a]) (va_up f a e1)) H1 locs1 → W p l e R s m args below meth c H1 locs1 (cells + rm.cells) (slots + rm.slots) Q (F0 m (pc + 3) ls rest)) : W p l e R s m args below meth c H locs cells slots Q (F0 m pc ls st) := by
  rw [wX_push hna] at I
  refine cIF S hM hK hA I.swap h1 h2 h4 h5 hy hd hn hR hsize hst hW hdg hf (fun v u H1 locs1 hv I1 => ?_)
  subst hv
  have I2 := IX.swap (w0 := [(a, e1)]) I1
  rw [← wX_push hna] at I2
  exact kk H1 locs1 I2
/-- a hole may lie in the row of holes -/
theorem anyH {a k : Nat} {pa lo hi to tp aw : Int32} (hK : KX D cy s) (I : IX D A s.heap (wX cy q K C O L f) H locs) (ha : a ∈ L) (hk : k ≤ 4) (hf : f a = hcell k pa lo hi to tp aw) : va_Any RX2 s H a := by
  obtain ⟨k0, h0⟩ := va_pl_get (X := wF cy q K C O) (f := f) ha
  rw [hf] at h0
  have sub : ∀ Cn, Cn ∈ ycL → ∀ comp c0 : ClassId, s.vm.findClass RX2 = some comp → s.vm.findClass Cn = some c0 → s.vm.assignable c0 comp = true := by
    intro Cn hC comp c0 h1 h2
    obtain ⟨c1, t1, f1, f2, f3⟩ := Cond.castable_spec (va_Nw.use (A := #[]) rfl (hK.2.2.2.1 Cn hC))
    cases h2.symm.trans f1
    cases h1.symm.trans f2
    exact f3
  rcases hk5 hk with rfl | rfl | rfl | rfl | rfl
  · exact va_rAny hK.1 I.1 (ci := 2) h0 rfl (fun comp c0 h1 h2 => by cases h1.symm.trans h2; cases h1.symm.trans (hK.1.1 2 _ rfl).2.1; exact va_assign (hK.1.1 2 _ rfl).2)
  · exact va_rAny hK.1 I.1 (ci := 0) h0 rfl (sub RX0 (by decide))
  · exact va_rAny hK.1 I.1 (ci := 8) h0 rfl (sub RX8 (by decide))
  · exact va_rAny hK.1 I.1 (ci := 10) h0 rfl (sub RX10 (by decide))
  · exact va_rAny hK.1 I.1 (ci := 1) h0 rfl (sub RX1 (by decide))
theorem anyS {a ci N : Nat} {Cn : String} {T : u_T} {fs : List Value} (hK : KX D cy s) (I : IX D A s.heap (wX cy q K C O L f) H locs) (ha : a ∈ L) (hc : vwCl[ci]? = some (Cn, T, N)) (hf : f a = .inr (ci, fs)) : va_Any Cn s H a := by
  obtain ⟨k0, h0⟩ := va_pl_get (X := wF cy q K C O) (f := f) ha
  rw [hf] at h0
  exact va_rAny hK.1 I.1 (ci := ci) h0 hc (fun comp c0 h1 h2 => by cases h1.symm.trans h2; cases h1.symm.trans (hK.1.1 ci _ hc).2.1; exact va_assign (hK.1.1 ci _ hc).2)
/-- into a row of references -/
theorem sq {q0 a b n t0 : Nat} {g : Nat → Option Nat} {i : Int32} {Cn : String} {Ts : List Cond} (k : Nat) (S : CallFix p m c cc nL s args Ts own) (hK : KX D cy s) (I : IX D A s.heap ws H locs) (ha : ws[q0]? = some (a, .inl (cy t0, n, .inr (.inr (.inr (.inr g)))))) (ht : (tysX cy)[t0]? = some (cy t0, .object Cn)) (hr : va_Any Cn s H b) (hi : i = nI k) (hk : k < n) (hn : n < 2 ^ 31) (hdg : decode cc pc = .ok (.aastore, 1))
    (kk : ∀ (H1 : Heap) (locs1 : List Loc), IX D A s.heap (ws.set q0 (a, .inl (cy t0, n, .inr (.inr (.inr (.inr (va_up g k (some b)))))))) H1 locs1 → W p l e R s m args below meth c H1 locs1 cells slots Q (F0 m (pc + 1) ls rest)) : W p l e R s m args below meth c H locs cells slots Q (F0 m pc ls (.ref b :: .int i :: .ref a :: rest)) := by
  subst hi
  refine va_astqM S.1 S.2.1 hK.1 I.1 I.2.1 I.2.2 q0 t0 ha ht hr (vp_in_nI hk hn) hdg (fun H1 locs1 a b d => ?_)
  rw [nI_clamp (Nat.lt_trans hk hn)] at a b
  exact kk H1 locs1 ⟨a, b, d⟩
end XNW
theorem hcell_n1 {k : Nat} {pa lo hi to tp aw to2 tp2 : Int32} (h : ¬ k = 1) : hcell k pa lo hi to tp aw = hcell k pa lo hi to2 tp2 aw := by
  unfold hcell
  rw [if_neg h, if_neg h]
section REL5
variable {K K2 : Nat → Nat} {C : Nat → Nat → Int32} {O O2 : Nat → Nat → Option Nat} {L : List Nat} {f : Nat → va_E} {N : Nat → Nat} {R : Nat → Nat → Int32}
theorem RelC_push {a : Nat} {e0 : va_E} (h : RelC K C O L f N R) (ha : a ∉ L) : RelC K C O (L ++ [a]) (va_up f a e0) N R := by
  obtain ⟨h1, h2, h3, h4, h5⟩ := h
  have hf : ∀ b, b ∈ L → b ∈ L ++ [a] ∧ va_up f a e0 b = f b := fun b hb => ⟨List.mem_append_left _ hb, va_upN (fun q => ha (q ▸ hb))⟩
  refine ⟨⟨h1.1, h1.2.1, h1.2.2.1, h1.2.2.2.1, h1.2.2.2.2.1, fun z hz => ?_⟩, h2, ⟨h3.1, h3.2.1, fun z hz => ?_, fun z hz => ?_⟩, h4, h5⟩
  · obtain ⟨b, hb1, hb2, hb3⟩ := h1.2.2.2.2.2 z hz
    exact ⟨b, hb1, (hf b hb2).1, (hf b hb2).2.trans hb3⟩
  · obtain ⟨b, hb1, hb2, hb3⟩ := h3.2.2.1 z hz
    exact ⟨b, hb1, (hf b hb2).1, (hf b hb2).2.trans hb3⟩
  · obtain ⟨b, hb1, hb2, hb3⟩ := h3.2.2.2 z hz
    exact ⟨b, hb1, (hf b hb2).1, (hf b hb2).2.trans hb3⟩
theorem fresh_8 {a : Nat} (h : RelC K C O L f N R) (ha : a ∉ L) : ∀ z, z < N 6 → O 8 z ≠ some a := by
  intro z hz q
  obtain ⟨b, hb1, hb2, hb3⟩ := h.1.2.2.2.2.2 z hz
  rw [hb1] at q
  cases q
  exact ha hb2
/-- the reference's rows behind a hole more -/
def adR (N : Nat → Nat) (R : Nat → Nat → Int32) (k x a b t : Int32) : Nat → Nat → Int32 := va_up (va_up (va_up (va_up (va_up (va_up R 7 (upd (R 7) (N 6) k)) 8 (upd (R 8) (N 6) x)) 9 (upd (R 9) (N 6) a)) 10 (upd (R 10) (N 6) b)) 11 (upd (R 11) (N 6) t)) 12 (upd (R 12) (N 6) (nI 0))
theorem hole_rel {k x lo hi t : Int32} {a : Nat} (h : RelC K C O L f N R) (hH : WHo N R) (ha : a ∈ L) (hfr : ∀ z, z < N 6 → O 8 z ≠ some a) (hf : f a = hcell k.toNatClampNeg x lo hi (nI t.toNatClampNeg) (upd (R 8) (N 6) x t.toNatClampNeg) (nI 0)) (e1 : K2 1 = N 6 + 1) (o8 : O2 8 = va_up (O 8) (N 6) (some a)) (e0 : K2 0 = K 0 := by rfl) (e2 : K2 2 = K 2 := by rfl) (e3 : K2 3 = K 3 := by rfl) (e7 : K2 7 = K 7 := by rfl) (e8 : K2 8 = K 8 := by rfl) (e9 : K2 9 = K 9 := by rfl) (e10 : K2 10 = K 10 := by rfl) (o12 : O2 12 = O 12 := by rfl) (o13 : O2 13 = O 13 := by rfl) : RelC K2 C O2 L f (va_up N 6 (N 6 + 1)) (adR N R k x lo hi t) := by
  obtain ⟨h1, h2, h3, h4, h5⟩ := h
  have hold : ∀ z, z < N 6 → z ≠ N 6 := fun z hz q => by omega
  refine ⟨⟨e0.trans h1.1, e1, h1.2.2.1, ?_, h1.2.2.2.2.1, ?_⟩, RelG_cg (R := adR N R k x lo hi t) (C := C) (K := K) h2 e2 e3 rfl, ?_, ?_, ?_⟩
  · rw [e2]; exact h1.2.2.2.1
  · intro z hz
    have hz2 : z < N 6 + 1 := hz
    rw [o8]
    by_cases e : z = N 6
    · subst e
      refine ⟨a, va_upS, ha, ?_⟩
      rw [hf]
      show _ = hcell (upd (R 7) (N 6) k (N 6)).toNatClampNeg (upd (R 8) (N 6) x (N 6)) (upd (R 9) (N 6) lo (N 6)) (upd (R 10) (N 6) hi (N 6)) (nI (upd (R 11) (N 6) t (N 6)).toNatClampNeg) (upd (R 8) (N 6) x (upd (R 11) (N 6) t (N 6)).toNatClampNeg) (upd (R 12) (N 6) (nI 0) (N 6))
      rw [pk_us, pk_us, pk_us, pk_us, pk_us, pk_us]
    · obtain ⟨b, hb1, hb2, hb3⟩ := h1.2.2.2.2.2 z (by omega)
      refine ⟨b, by rw [va_upN e]; exact hb1, hb2, ?_⟩
      rw [hb3]
      show _ = hcell (upd (R 7) (N 6) k z).toNatClampNeg (upd (R 8) (N 6) x z) (upd (R 9) (N 6) lo z) (upd (R 10) (N 6) hi z) (nI (upd (R 11) (N 6) t z).toNatClampNeg) (upd (R 8) (N 6) x (upd (R 11) (N 6) t z).toNatClampNeg) (upd (R 12) (N 6) (nI 0) z)
      rw [pk_un e, pk_un e, pk_un e, pk_un e, pk_un e, pk_un e]
      show hcell (kd R z) _ _ _ _ _ _ = hcell (kd R z) _ _ _ (nI (ch R z)) (upd (R 8) (N 6) x (ch R z)) _
      by_cases e1 : kd R z = 1
      · have := ((hH z (by omega)).2.2.2.2 e1).2
        rw [pk_un (show ch R z ≠ N 6 by omega)]
      · exact hcell_n1 e1
  · unfold RelM; rw [e7, e8, o12, o13]; exact h3
  · unfold RelP; rw [e9, e10]; exact h4
  · intro z w hz hw hzw
    have hz2 : z < N 6 + 1 := hz
    have hw2 : w < N 6 + 1 := hw
    rw [o8] at hzw
    by_cases ez : z = N 6
    · by_cases ew : w = N 6
      · omega
      · rw [ez, va_upS, va_upN ew] at hzw
        exact absurd hzw.symm (hfr w (by omega))
    · by_cases ew : w = N 6
      · rw [ew, va_upS, va_upN ez] at hzw
        exact absurd hzw (hfr z (by omega))
      · rw [va_upN ez, va_upN ew] at hzw
        exact h5 z w (by omega) (by omega) hzw
/-- a mend more -/
def amR (N : Nat → Nat) (R : Nat → Nat → Int32) (x v hn nd f la : Int32) : Nat → Nat → Int32 := va_up (va_up (va_up (va_up (va_up (va_up R 18 (upd (R 18) (N 17) x)) 19 (upd (R 19) (N 17) v)) 20 (upd (R 20) (N 17) hn)) 21 (upd (R 21) (N 17) nd)) 22 (upd (R 22) (N 17) f)) 23 (upd (R 23) (N 17) la)
def sp_am (N : Nat → Nat) (R : Nat → Nat → Int32) (x v hn nd f la : Int32) : Int32 × SR := if N 17 = 8 then (-3, N, R) else (nI (N 17), va_up N 17 (N 17 + 1), amR N R x v hn nd f la)
theorem mend_rel {x v hn nd fi la : Int32} {a : Nat} (h : RelC K C O L f N R) (ha : a ∈ L) (hf : f a = .inr (3, [.int x, .int v, .int hn, .int nd, .int fi, .int la])) (e7 : K2 7 = N 17 + 1) (o12 : O2 12 = va_up (O 12) (N 17) (some a)) (e0 : K2 0 = K 0 := by rfl) (e1 : K2 1 = K 1 := by rfl) (e2 : K2 2 = K 2 := by rfl) (e3 : K2 3 = K 3 := by rfl) (e8 : K2 8 = K 8 := by rfl) (e9 : K2 9 = K 9 := by rfl) (e10 : K2 10 = K 10 := by rfl) (o8 : O2 8 = O 8 := by rfl) (o13 : O2 13 = O 13 := by rfl) : RelC K2 C O2 L f (va_up N 17 (N 17 + 1)) (amR N R x v hn nd fi la) := by
  obtain ⟨h1, h2, h3, h4, h5⟩ := h
  refine ⟨?_, RelG_cg (R := amR N R x v hn nd fi la) (C := C) (K := K) h2 e2 e3 rfl, ⟨e7, e8.trans h3.2.1, ?_, ?_⟩, ?_, ?_⟩
  · refine ⟨e0.trans h1.1, e1.trans h1.2.1, h1.2.2.1, ?_, h1.2.2.2.2.1, ?_⟩
    · rw [e2]; exact h1.2.2.2.1
    · intro z hz; rw [o8]; exact h1.2.2.2.2.2 z hz
  · intro z hz
    have hz2 : z < N 17 + 1 := hz
    rw [o12]
    show ∃ b, _ ∧ _ ∧ f b = .inr (3, [.int (upd (R 18) (N 17) x z), .int (upd (R 19) (N 17) v z), .int (upd (R 20) (N 17) hn z), .int (upd (R 21) (N 17) nd z), .int (upd (R 22) (N 17) fi z), .int (upd (R 23) (N 17) la z)])
    by_cases e : z = N 17
    · subst e
      refine ⟨a, va_upS, ha, ?_⟩
      rw [hf, pk_us, pk_us, pk_us, pk_us, pk_us, pk_us]
    · obtain ⟨b, hb1, hb2, hb3⟩ := h3.2.2.1 z (by omega)
      refine ⟨b, by rw [va_upN e]; exact hb1, hb2, ?_⟩
      rw [hb3, pk_un e, pk_un e, pk_un e, pk_un e, pk_un e, pk_un e]
      rfl
  · rw [o13]; exact h3.2.2.2
  · unfold RelP; rw [e9, e10]; exact h4
  · rw [o8]; exact h5
/-- a quarrel more -/
def aqR (N : Nat → Nat) (R : Nat → Nat → Int32) (x v y w : Int32) : Nat → Nat → Int32 := va_up R 25 (upd (upd (upd (upd (R 25) (4 * N 24) x) (4 * N 24 + 1) v) (4 * N 24 + 2) y) (4 * N 24 + 3) w)
def sp_aq (N : Nat → Nat) (R : Nat → Nat → Int32) (x v y w : Int32) : Int32 × SR := if N 24 = 8 then (-3, N, R) else (nI (N 24 + 1), va_up N 24 (N 24 + 1), aqR N R x v y w)
theorem quarrel_rel {x v y w : Int32} {a : Nat} (h : RelC K C O L f N R) (ha : a ∈ L) (hf : f a = .inr (7, [.int x, .int v, .int y, .int w])) (e8 : K2 8 = N 24 + 1) (o13 : O2 13 = va_up (O 13) (N 24) (some a)) (e0 : K2 0 = K 0 := by rfl) (e1 : K2 1 = K 1 := by rfl) (e2 : K2 2 = K 2 := by rfl) (e3 : K2 3 = K 3 := by rfl) (e7 : K2 7 = K 7 := by rfl) (e9 : K2 9 = K 9 := by rfl) (e10 : K2 10 = K 10 := by rfl) (o8 : O2 8 = O 8 := by rfl) (o12 : O2 12 = O 12 := by rfl) : RelC K2 C O2 L f (va_up N 24 (N 24 + 1)) (aqR N R x v y w) := by
  obtain ⟨h1, h2, h3, h4, h5⟩ := h
  refine ⟨?_, RelG_cg (R := aqR N R x v y w) (C := C) (K := K) h2 e2 e3 rfl, ⟨e7.trans h3.1, e8, ?_, ?_⟩, ?_, ?_⟩
  · refine ⟨e0.trans h1.1, e1.trans h1.2.1, h1.2.2.1, ?_, h1.2.2.2.2.1, ?_⟩
    · rw [e2]; exact h1.2.2.2.1
    · intro z hz; rw [o8]; exact h1.2.2.2.2.2 z hz
  · rw [o12]; exact h3.2.2.1
  · intro z hz
    have hz2 : z < N 24 + 1 := hz
    rw [o13]
    have hr : ∀ i, aqR N R x v y w 25 i = upd (upd (upd (upd (R 25) (4 * N 24) x) (4 * N 24 + 1) v) (4 * N 24 + 2) y) (4 * N 24 + 3) w i := fun _ => rfl
    unfold qcell
    by_cases e : z = N 24
    · subst e
      refine ⟨a, va_upS, ha, ?_⟩
      rw [hf, hr, hr, hr, hr, pk_us, pk_un (show 4 * N 24 + 2 ≠ 4 * N 24 + 3 by omega), pk_us, pk_un (show 4 * N 24 + 1 ≠ 4 * N 24 + 3 by omega), pk_un (show 4 * N 24 + 1 ≠ 4 * N 24 + 2 by omega), pk_us, pk_un (show 4 * N 24 ≠ 4 * N 24 + 3 by omega), pk_un (show 4 * N 24 ≠ 4 * N 24 + 2 by omega), pk_un (show 4 * N 24 ≠ 4 * N 24 + 1 by omega), pk_us]
    · obtain ⟨b, hb1, hb2, hb3⟩ := h3.2.2.2 z (by omega)
      refine ⟨b, by rw [va_upN e]; exact hb1, hb2, ?_⟩
      have ho : ∀ i, i < 4 → aqR N R x v y w 25 (4 * z + i) = R 25 (4 * z + i) := fun i hi => by
        rw [hr, pk_un (by omega), pk_un (by omega), pk_un (by omega), pk_un (by omega)]
      have ho0 := ho 0 (by decide)
      rw [Nat.add_zero] at ho0
      rw [hb3, ho0, ho 1 (by decide), ho 2 (by decide), ho 3 (by decide)]
      rfl
  · unfold RelP; rw [e9, e10]; exact h4
  · rw [o8]; exact h5
end REL5
theorem nd_in {nd : Int32} {n : Nat} (hn : n < 1000) : inB nd (-1) (nI n - nI 1) = (decide (nd = -1) || isP n nd) := by
  have h : (nI n - nI 1).toInt = (n : Int) - 1 := by rw [pk_sub_toInt (by omega) (by omega)]; rfl
  have h0 : (-1 : Int32).toInt = -1 := rfl
  unfold inB isP
  rw [← Bool.decide_or]
  apply decide_eq_decide.mpr
  rw [fa_le, fa_le, h, h0, fa_eq, h0]
  omega
theorem fl_in {f la : Int32} : (inB f (nI 0) la = true ∧ la ≤ nI 5) ↔ (inB f (nI 0) (nI 5) = true ∧ inB la f (nI 5) = true) := by
  unfold inB
  rw [decide_eq_true_iff, decide_eq_true_iff, decide_eq_true_iff, fa_le, fa_le, fa_le, fa_le]
  omega
/-- the kinds that 'hole' makes -/
def isK (k : Int32) : Bool := decide (k = 0 ∨ k = 2 ∨ k = 3 ∨ k = 4)
theorem isK_in {k : Int32} : (inB k (nI 0) (nI 4) = true ∧ ¬ k = nI 1) ↔ isK k = true := by
  have h0 : (nI 0).toInt = 0 := rfl
  have h1 : (nI 1).toInt = 1 := rfl
  have h4 : (nI 4).toInt = 4 := rfl
  have g0 : (0 : Int32).toInt = 0 := rfl
  have g2 : (2 : Int32).toInt = 2 := rfl
  have g3 : (3 : Int32).toInt = 3 := rfl
  have g4 : (4 : Int32).toInt = 4 := rfl
  unfold inB isK
  rw [decide_eq_true_iff, decide_eq_true_iff, fa_le, fa_le, fa_eq, fa_eq, fa_eq, fa_eq, fa_eq, h0, h1, h4, g0, g2, g3, g4]
  omega
