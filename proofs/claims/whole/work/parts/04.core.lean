/-! THE CORE: the form of every contract here (MS), its entry, its ends, its calls. The whole world of a side goes into every call. -/
noncomputable abbrev wsu (y : MethodName) (b : ByteArray) (n : Nat) (r : Option FieldType) : List Cond := Cond.code y b n r :: uT
/-- the classes of the arrays, by number: int, boolean, Hole, Mend, Quarrel, int[] -/
abbrev tysX (cy : Nat → ClassId) : List (ClassId × FieldType) := [(cy 0, .int), (cy 1, .boolean), (cy 2, .object RX2), (cy 3, .object RX3), (cy 4, .object RX7), (cy 5, .array .int)]
def nestL : List (String × Nat × MethodName) := [(RX11, 11, yX5_init), (RX5, 37, yX11_withMember), (RX5, 47, yX11_isIn), (RX9, 46, yX11_isIn), (RX9, 75, yX11_bit), (RX0, 19, yX11_isIn), (RX4, 39, yX11_bit), (RX4, 88, yX11_isIn), (RX6, 103, yX11_isBetween), (RX6, 85, yX11_bit), (RX6, 74, yX11_isIn)]
def ncL : List (String × String) := [(RX0, RX1), (RX0, RX10), (RX1, RX0), (RX1, RX10), (RX2, RX0), (RX2, RX1), (RX2, RX10), (RX8, RX0), (RX8, RX1), (RX8, RX10), (RX10, RX0), (RX10, RX1)]
def ycL : List String := [RX8, RX10, RX1, RX0]
def aoL : List String := [RX2, RX3, RX7]
/-- the class of rows of int rows -/
def oA (U : State) : Prop := (Cond.arrayOver (.array .int)).before #[] U = true
theorem oA.moved {u U : State} (hvm : u.vm.Alike U.vm) (h : oA u) : oA U := by
  obtain ⟨comp, c, k, h1, h2, h3, h4, h5⟩ := arrayOverA_spec h
  obtain ⟨k2, hk2, he⟩ := hvm.2.2 _ _ h3
  have hi : (U.vm.classes.findIdx? fun (x : Class) => match x.kind with | .array component _ => component == comp | _ => false) = some c := by
    rw [hvm.findIdx?_eq _ (fun _ => rfl)]
    exact h2
  have f1 : U.vm.findClass (FieldType.array .int).toString = some comp := by rw [hvm.findClass]; exact h1
  have f2 : U.vm.findClass ("[" ++ (FieldType.array .int).toString) = some c := by rw [hvm.findClass]; exact h5
  have hkind : k2.kind = .array comp (.array .int) := by rw [he]; exact h4
  unfold oA Cond.before Cond.holds
  simp only [Cond.value]
  rw [f1, Option.bind_some]
  refine (congrArg (fun o : Option Nat => (o.bind (fun c => (U.vm.classes[c]?).map fun (k : Class) => match k.kind with | .array _ ty => decide (ty = FieldType.array .int) && decide (U.vm.findClass ("[" ++ (FieldType.array .int).toString) = some c) | _ => false) == some true)) hi).trans ?_
  simp [hk2, hkind, f2]
/-- what is said of the machine's tables, for every state of a run: classes, array classes, links among nest mates, casts, classes over classes -/
def KX (D : va_G) (cy : Nat → ClassId) (U : State) : Prop := va_K D vwCl (tysX cy) U ∧ (∀ w ∈ nestL, va_Nw (.methodLinkNest w.1 w.2.1 w.2.2 RX11) U) ∧ (∀ w ∈ ncL, va_Nc w.1 w.2 U) ∧ (∀ w ∈ ycL, va_Nw (.castable w RX2) U) ∧ (∀ w ∈ aoL, va_AO w U) ∧ oA U
theorem KX.warm {D : va_G} {cy : Nat → ClassId} {s U : State} (hW : s.WarmedH U.vm) (h : KX D cy s) : KX D cy U := ⟨va_K.moved hW.alike h.1, fun w hw => va_Nw.warmM hW (h.2.1 w hw), fun w hw => va_Nc.moved hW.alike (h.2.2.1 w hw), fun w hw => va_Nw.warmC hW (h.2.2.2.1 w hw), fun w hw => va_AO.moved hW.alike (h.2.2.2.2.1 w hw), oA.moved hW.alike h.2.2.2.2.2⟩
theorem KX.same {D : va_G} {cy : Nat → ClassId} {s U : State} (hv : s.vm = U.vm) (h : KX D cy s) : KX D cy U := ⟨va_K.moved (by rw [hv]; exact Vm.Alike.refl _) h.1, fun w hw => va_Nw.same rfl hv (h.2.1 w hw), fun w hw => va_Nc.moved (by rw [hv]; exact Vm.Alike.refl _) (h.2.2.1 w hw), fun w hw => va_Nw.same rfl hv (h.2.2.2.1 w hw), fun w hw => va_AO.moved (by rw [hv]; exact Vm.Alike.refl _) (h.2.2.2.2.1 w hw), oA.moved (by rw [hv]; exact Vm.Alike.refl _) h.2.2.2.2.2⟩
/-- the heap holds the world ws, its cells apart and in A, and nothing outside A has changed since H0 -/
abbrev IX (D : va_G) (A : Nat → Prop) (H0 : Heap) (ws : va_W) (H : Heap) (locs : List Loc) : Prop := va_P D vwCl ws H ∧ va_D A ws ∧ va_S A H0 H locs
def QS {α : Type} (D : va_G) (A : Nat → Prop) (post : Option Value → α → Prop) (w1 : α → va_W) : Array Value → State → Outcome → State → Prop := fun _ st oc t => (∃ (v : Option Value) (u : α), oc = .returned v ∧ post v u ∧ va_P D vwCl (w1 u) t.heap ∧ va_D A (w1 u)) ∧ va_F A st t
/-- A CONTRACT: from every state whose heap holds w0, y with the arguments av returns v, 'post v u', and the heap holds 'w1 u' -/
def MS {α : Type} (l : Launch) (D : va_G) (cy : Nat → ClassId) (y : MethodName) (b : ByteArray) (n : Nat) (r : Option FieldType) (rm : Room) (av : List Value) (w0 : va_W) (post : Option Value → α → Prop) (w1 : α → va_W) : Prop :=
  ∀ sz : Nat, Met l y (wsu y b n r) rm (va_Pc av (fun U => U.heap.size = sz ∧ va_P D vwCl w0 U.heap ∧ KX D cy U ∧ va_D (fun _ => True) w0)) (QS D (va_A w0 sz) post w1) rm.cells rm.slots (va_A w0 sz)
theorem MS.mk {α : Type} {l : Launch} {D : va_G} {cy : Nat → ClassId} {y : MethodName} {b : ByteArray} {n : Nat} {r : Option FieldType} {rm : Room} {av : List Value} {w0 : va_W} {post : Option Value → α → Prop} {w1 : α → va_W} (hy : plainName y.cls = true) (hlen : (lg_sl av).length ≤ n) (lv : List (Nat × Value)) (hlv : lv_args 0 av = lv)
    (body : ∀ (p : Program) (e : Env) (s : State) (m : MethodId) (below : List Frame) (meth : Method) (c : Code) (A : Nat → Prop) (ls : Array Slot), CallFix p m c b n s av.toArray (wsu y b n r) y.cls → meth.sig.returnType = r → meth.locks = false → meth.name = y.name → KX D cy s → (∀ q, s.heap.size ≤ q → A q) → IX D A s.heap w0 s.heap [] → lv_has ls n lv →
      W p l e rm s m av.toArray below meth c s.heap [] 0 0 (MQ below (QS D A post w1) av.toArray s rm.cells rm.slots A) (F0 m 0 ls [])) : MS l D cy y b n r rm av w0 post w1 := by
  intro sz
  refine Met.ofW (cc := b) (maxL := n) (ret := r) hy rfl ?_
  intro p e s m args below meth c s₁ B hml hv
  obtain ⟨rfl, hsz, hP, hK, hD0⟩ := hv
  subst hsz
  have hts := atoms_spec (ws := wsu y b n r) B.pre
  have hl := lv_entry av (n := n) hlen
  rw [hlv] at hl
  rw [lg_entry_eq]
  exact body p e s m below meth c (va_A w0 s.heap.size) _ ⟨B.exec, B.bytes, hml, findClass_of_methodNamed B.named, hts⟩ B.returns B.notSynchronized (name_of_methodNamed B.named B.method).1 hK (fun q h => Or.inr h) ⟨hP, hD0.self, va_S.rf⟩ hl
section ENDS
variable {α : Type} {p : Program} {l : Launch} {e : Env} {R : Room} {s : State} {m : MethodId} {args : Array Value} {below : List Frame} {meth : Method} {c : Code} {H : Heap} {locs : List Loc} {cells slots mc ms : Nat} {Q : State → Prop}
variable {cc : ByteArray} {nL pc : Nat} {ls : Array Slot} {rest st : List Value} {D : va_G} {cy : Nat → ClassId} {A : Nat → Prop} {Ts : List Cond} {own : String} {ws : va_W} {post : Option Value → α → Prop} {w1 : α → va_W} {u : α}
theorem rt_i {v : Int32} (S : CallFix p m c cc nL s args Ts own) (hr : meth.sig.returnType = some .int) (hlk : meth.locks = false) (I : IX D A s.heap (w1 u) H locs) (hp : post (some (.int v)) u) (hdg : decode cc pc = .ok (.ireturn, 1)) (hc : cells ≤ mc := by exact Nat.le_refl _) (hs : slots ≤ ms := by exact Nat.le_refl _) : W p l e R s m args below meth c H locs cells slots (MQ below (QS D A post w1) args s mc ms A) (F0 m pc ls [.int v]) :=
  W.widen hc hs (W.iret S.1 S.2.1 hr (fun t ht _ => ⟨⟨_, u, rfl, hp, by rw [ht]; exact I.1, I.2.1⟩, I.2.2.F ht⟩) I.2.2.2.2 hdg hlk)
theorem rt_z {v : Int32} (S : CallFix p m c cc nL s args Ts own) (hr : meth.sig.returnType = some .boolean) (hlk : meth.locks = false) (hz : v = 0 ∨ v = 1) (I : IX D A s.heap (w1 u) H locs) (hp : post (some (.int v)) u) (hdg : decode cc pc = .ok (.ireturn, 1)) (hc : cells ≤ mc := by exact Nat.le_refl _) (hs : slots ≤ ms := by exact Nat.le_refl _) : W p l e R s m args below meth c H locs cells slots (MQ below (QS D A post w1) args s mc ms A) (F0 m pc ls [.int v]) :=
  W.widen hc hs (W.zret S.1 S.2.1 hr (by rcases hz with rfl | rfl <;> rfl) (fun t ht _ => ⟨⟨_, u, rfl, hp, by rw [ht]; exact I.1, I.2.1⟩, I.2.2.F ht⟩) I.2.2.2.2 hdg hlk)
theorem rt_v (S : CallFix p m c cc nL s args Ts own) (hr : meth.sig.returnType = none) (hlk : meth.locks = false) (I : IX D A s.heap (w1 u) H locs) (hp : post none u) (hdg : decode cc pc = .ok (.return_, 1)) (hc : cells ≤ mc := by exact Nat.le_refl _) (hs : slots ≤ ms := by exact Nat.le_refl _) : W p l e R s m args below meth c H locs cells slots (MQ below (QS D A post w1) args s mc ms A) (F0 m pc ls []) :=
  W.widen hc hs (W.vret S.1 S.2.1 hr (fun t ht _ => ⟨⟨_, u, rfl, hp, by rw [ht]; exact I.1, I.2.1⟩, I.2.2.F ht⟩) I.2.2.2.2 hdg hlk)
theorem rt_a {v : Option Nat} {C : String} (S : CallFix p m c cc nL s args Ts own) (hr : meth.sig.returnType = some (.object C)) (hlk : meth.locks = false) (I : IX D A s.heap (w1 u) H locs) (hp : post (some (va_rf v)) u) (hdg : decode cc pc = .ok (.areturn, 1)) (hc : cells ≤ mc := by exact Nat.le_refl _) (hs : slots ≤ ms := by exact Nat.le_refl _) : W p l e R s m args below meth c H locs cells slots (MQ below (QS D A post w1) args s mc ms A) (F0 m pc ls [va_rf v]) :=
  W.widen hc hs (W.aret S.1 S.2.1 hr (Or.inl ⟨C, rfl⟩) (by cases v with | none => exact Or.inl rfl | some a => exact Or.inr ⟨a, rfl⟩) (fun t ht _ => ⟨⟨_, u, rfl, hp, by rw [ht]; exact I.1, I.2.1⟩, I.2.2.F ht⟩) I.2.2.2.2 hdg hlk)
/-- a call's run gives the world behind it -/
theorem va_callS {w0 : va_W} {a : Array Value} (hr : va_Run p l e R s m args below meth c H locs cells slots mc ms (F0 m pc ls st) rest (QS D (va_A w0 H.size) post w1 a) (va_A w0 H.size)) (hA : ∀ q, s.heap.size ≤ q → A q) (I : IX D A s.heap w0 H locs)
    (kk : ∀ (v : Option Value) (u : α) (H1 : Heap) (locs1 : List Loc), post v u → IX D A s.heap (w1 u) H1 locs1 → W p l e R s m args below meth c H1 locs1 (cells + mc) (slots + ms) Q (F0 m (pc + 3) ls (v.toList ++ rest))) : W p l e R s m args below meth c H locs cells slots Q (F0 m pc ls st) := by
  intro T hT X
  obtain ⟨v, st₀, t, T', L, h0, X', hL, e1, e2, ⟨⟨v', u, hv, hp, hP1, hD1⟩, hz, hk⟩, st1⟩ := hr T hT X
  cases hv
  rw [h0] at hz hk
  have hF : ∀ q, va_A w0 H.size q → A q := by
    intro q h
    rcases h with ⟨k, e, h⟩ | h
    · exact I.2.1.2 k (q, e) h
    · exact hA q (Nat.le_trans I.2.2.1 h)
  obtain ⟨t2, a1, b1⟩ := kk v u T'.heap (locs ++ L) hp ⟨by rw [e1]; exact hP1, hD1.weaken (fun k q _ h => hF q.1 h), ⟨Nat.le_trans I.2.2.1 (by rw [e1]; exact hz), fun q h1 h2 => by rw [e1, hk q (Nat.lt_of_lt_of_le h1 I.2.2.1) (fun z => h2 (hF q z))]; exact I.2.2.2.1 q h1 h2, fun q hq => by
      rcases List.mem_append.mp hq with h | h
      · exact I.2.2.2.2 q h
      · exact hF _ (hL q h)⟩⟩ T' rfl X'
  exact ⟨t2, st1 t2 a1, b1⟩
/-- the same, with a rest of the world that the callee doesn't get -/
theorem va_callSF {w0 wr : va_W} {a : Array Value} (hr : va_Run p l e R s m args below meth c H locs cells slots mc ms (F0 m pc ls st) rest (QS D (va_A w0 H.size) post w1 a) (va_A w0 H.size)) (hA : ∀ q, s.heap.size ≤ q → A q) (I : IX D A s.heap (w0 ++ wr) H locs)
    (kk : ∀ (v : Option Value) (u : α) (H1 : Heap) (locs1 : List Loc), post v u → IX D A s.heap (w1 u ++ wr) H1 locs1 → W p l e R s m args below meth c H1 locs1 (cells + mc) (slots + ms) Q (F0 m (pc + 3) ls (v.toList ++ rest))) : W p l e R s m args below meth c H locs cells slots Q (F0 m pc ls st) := by
  intro T hT X
  obtain ⟨v, st₀, t, T', L, h0, X', hL, e1, e2, ⟨⟨v', u, hv, hp, hP1, hD1⟩, hz, hk⟩, st1⟩ := hr T hT X
  cases hv
  rw [h0] at hz hk
  have hF : ∀ q, va_A w0 H.size q → A q := by
    intro q h
    rcases h with ⟨k, e, h⟩ | h
    · exact I.2.1.2 k (q, e) (by rw [List.getElem?_append_left (List.getElem?_eq_some_iff.mp h).1]; exact h)
    · exact hA q (Nat.le_trans I.2.2.1 h)
  have apart : ∀ (k : Nat) (q : Nat × va_E), wr[k]? = some q → q.1 < H.size ∧ ¬ va_A w0 H.size q.1 := by
    intro k q hq
    have h2 : (w0 ++ wr)[w0.length + k]? = some q := by rw [List.getElem?_append_right (Nat.le_add_right _ _), Nat.add_sub_cancel_left]; exact hq
    have hl := (I.1 _ q h2).lt
    refine ⟨hl, fun h => ?_⟩
    rcases h with ⟨k2, e, h⟩ | h
    · have hlt := (List.getElem?_eq_some_iff.mp h).1
      have hij := I.2.1.1 (w0.length + k) k2 q (q.1, e) h2 (by rw [List.getElem?_append_left hlt]; exact h) rfl
      omega
    · omega
  obtain ⟨t2, a1, b1⟩ := kk v u T'.heap (locs ++ L) hp ⟨va_P.app (by rw [e1]; exact hP1) (fun k q hq => by
      obtain ⟨g1, g2⟩ := apart k q hq
      have h2 : (w0 ++ wr)[w0.length + k]? = some q := by rw [List.getElem?_append_right (Nat.le_add_right _ _), Nat.add_sub_cancel_left]; exact hq
      exact (I.1 _ q h2).kept (by rw [e1]; exact hk q.1 g1 g2)), va_D.app (hD1.weaken (fun k q _ h => hF q.1 h)) ⟨fun i j p q hi hj hpq => by
        have hi2 : (w0 ++ wr)[w0.length + i]? = some p := by rw [List.getElem?_append_right (Nat.le_add_right _ _), Nat.add_sub_cancel_left]; exact hi
        have hj2 : (w0 ++ wr)[w0.length + j]? = some q := by rw [List.getElem?_append_right (Nat.le_add_right _ _), Nat.add_sub_cancel_left]; exact hj
        have := I.2.1.1 _ _ p q hi2 hj2 hpq
        omega, fun k q hq => I.2.1.2 (w0.length + k) q (by rw [List.getElem?_append_right (Nat.le_add_right _ _), Nat.add_sub_cancel_left]; exact hq)⟩ (fun i j x y hx hy hxy => (apart j y hy).2 (by rw [← hxy]; exact hD1.2 i x hx)), ⟨Nat.le_trans I.2.2.1 (by rw [e1]; exact hz), fun q h1 h2 => by rw [e1, hk q (Nat.lt_of_lt_of_le h1 I.2.2.1) (fun z => h2 (hF q z))]; exact I.2.2.2.1 q h1 h2, fun q hq => by
      rcases List.mem_append.mp hq with h | h
      · exact I.2.2.2.2 q h
      · exact hF _ (hL q h)⟩⟩ T' rfl X'
  exact ⟨t2, st1 t2 a1, b1⟩
theorem FB {av : List Value} {sz : Nat} {w0 : va_W} : FrameBlind (va_Pc av (fun U => U.heap.size = sz ∧ va_P D vwCl w0 U.heap ∧ KX D cy U ∧ va_D (fun _ => True) w0)) := fun a U g mk q => by
  obtain ⟨q0, q1, qP, qK, qD⟩ := q
  exact ⟨q0, q1, qP, KX.same (s := U) (U := U.calling g mk a) rfl qK, qD⟩
theorem PX {w0 : va_W} (hK : KX D cy s) (I : IX D A s.heap w0 H locs) (av : List Value) : ∀ U : State, U.heap = H → s.WarmedH U.vm → (va_Pc av (fun U => U.heap.size = H.size ∧ va_P D vwCl w0 U.heap ∧ KX D cy U ∧ va_D (fun _ => True) w0)) av.toArray U := fun U hU hW => ⟨rfl, by rw [hU], by rw [hU]; exact I.1, KX.warm hW hK, I.2.1.weaken (fun _ _ _ _ => trivial)⟩
theorem gV {x : Cond} {own C : String} {idx : Nat} {y : MethodName} {b : ByteArray} {n : Nat} {r : Option FieldType} (h1 : Cond.methodLink own idx y ∈ uT) (h2 : Cond.instanceMethod y ∈ uT) (h3 : Cond.selects C y y ∈ uT) (h4 : Cond.initialized C ∈ uT) (h5 : Cond.code y b n r ∈ uT) : GoodIn (x :: uT) (wsV own idx C y (wsu y b n r)) := by
  intro w hw
  have : w ∈ uT := by
    simp only [wsV, List.cons_append, List.nil_append, List.mem_cons] at hw
    rcases hw with rfl | rfl | rfl | rfl | rfl | hw <;> assumption
  exact uT_GI w this
theorem gS {x : Cond} {own : String} {idx : Nat} {y : MethodName} {b : ByteArray} {n : Nat} {r : Option FieldType} (h1 : Cond.methodLink own idx y ∈ uT) (h2 : Cond.static y ∈ uT) (h4 : Cond.initialized own ∈ uT) (h5 : Cond.code y b n r ∈ uT) : GoodIn (x :: uT) (wsS own idx y (wsu y b n r)) := by
  intro w hw
  have : w ∈ uT := by
    simp only [wsS, List.cons_append, List.nil_append, List.mem_cons] at hw
    rcases hw with rfl | rfl | rfl | rfl | hw <;> assumption
  exact uT_GI w this
theorem gC {x : Cond} {y : MethodName} {b : ByteArray} {n : Nat} {r : Option FieldType} (h5 : Cond.code y b n r ∈ uT) : GoodIn (x :: uT) (wsu y b n r) := by
  intro w hw
  have : w ∈ uT := by
    simp only [List.mem_cons] at hw
    rcases hw with rfl | hw <;> assumption
  exact uT_GI w this
/-- a method of an object of a known class, the callee gets the whole world -/
theorem cV {x : Cond} {y : MethodName} {b : ByteArray} {n idx np ci q0 a N : Nat} {r : Option FieldType} {rm : Room} {As : List Value} {w0 : va_W} {T : u_T} {fs : List Value} (S : CallFix p m c cc nL s args (x :: uT) own) (hM : MS l D cy y b n r rm (.ref a :: As) w0 post w1) (hK : KX D cy s) (hA : ∀ q, s.heap.size ≤ q → A q) (I : IX D A s.heap w0 H locs)
    (h1 : Cond.methodLink own idx y ∈ uT) (h2 : Cond.instanceMethod y ∈ uT) (h3 : Cond.selects y.cls y y ∈ uT) (h4 : Cond.initialized y.cls ∈ uT) (h5 : Cond.code y b n r ∈ uT) (hd : y.cls = y.cls ∧ y.cls ≠ "java/lang/invoke/MethodHandle" ∧ y.cls ≠ "java/lang/invoke/VarHandle" ∧ (parseMethodDescriptor y.desc).map (fun d => d.parameters.length) = some np) (hn : As.length = np) (hR : rm.frames + 1 ≤ R.frames ∧ 8 + (n + 11) + rm.locals ≤ R.locals)
    (hc : vwCl[ci]? = some (y.cls, T, N)) (he : w0[q0]? = some (a, .inr (ci, fs))) (hsize : ls.size = nL) (hst : st = As.reverse ++ .ref a :: rest) (hW : (rest.map fun v => v.category).sum ≤ 8) (hdg : decode cc pc = .ok (.invokevirtual idx, 3)) (hf : cells + rm.cells ≤ R.cells ∧ slots + rm.slots ≤ R.slots)
    (kk : ∀ (v : Option Value) (u : α) (H1 : Heap) (locs1 : List Loc), post v u → IX D A s.heap (w1 u) H1 locs1 → W p l e R s m args below meth c H1 locs1 (cells + rm.cells) (slots + rm.slots) Q (F0 m (pc + 3) ls (v.toList ++ rest))) : W p l e R s m args below meth c H locs cells slots Q (F0 m pc ls st) :=
  va_callS (va_runV (As := As) (rest := rest) (b := a) S (hM H.size) (cwV np S.2.2.2.2 (gV h1 h2 h3 h4 h5) rfl rfl rfl hd hR) ⟨FB, va_recv hK.1 I.1 hc he, PX hK I _⟩ rfl hn hsize hst (lv_room hW) hdg hf) hA I kk
theorem cVF {x : Cond} {y : MethodName} {b : ByteArray} {n idx np ci q0 a N : Nat} {r : Option FieldType} {rm : Room} {As : List Value} {w0 wr : va_W} {T : u_T} {fs : List Value} (S : CallFix p m c cc nL s args (x :: uT) own) (hM : MS l D cy y b n r rm (.ref a :: As) w0 post w1) (hK : KX D cy s) (hA : ∀ q, s.heap.size ≤ q → A q) (I : IX D A s.heap (w0 ++ wr) H locs)
    (h1 : Cond.methodLink own idx y ∈ uT) (h2 : Cond.instanceMethod y ∈ uT) (h3 : Cond.selects y.cls y y ∈ uT) (h4 : Cond.initialized y.cls ∈ uT) (h5 : Cond.code y b n r ∈ uT) (hd : y.cls = y.cls ∧ y.cls ≠ "java/lang/invoke/MethodHandle" ∧ y.cls ≠ "java/lang/invoke/VarHandle" ∧ (parseMethodDescriptor y.desc).map (fun d => d.parameters.length) = some np) (hn : As.length = np) (hR : rm.frames + 1 ≤ R.frames ∧ 8 + (n + 11) + rm.locals ≤ R.locals)
    (hc : vwCl[ci]? = some (y.cls, T, N)) (he : w0[q0]? = some (a, .inr (ci, fs))) (hsize : ls.size = nL) (hst : st = As.reverse ++ .ref a :: rest) (hW : (rest.map fun v => v.category).sum ≤ 8) (hdg : decode cc pc = .ok (.invokevirtual idx, 3)) (hf : cells + rm.cells ≤ R.cells ∧ slots + rm.slots ≤ R.slots)
    (kk : ∀ (v : Option Value) (u : α) (H1 : Heap) (locs1 : List Loc), post v u → IX D A s.heap (w1 u ++ wr) H1 locs1 → W p l e R s m args below meth c H1 locs1 (cells + rm.cells) (slots + rm.slots) Q (F0 m (pc + 3) ls (v.toList ++ rest))) : W p l e R s m args below meth c H locs cells slots Q (F0 m pc ls st) := by
  have hlt := (List.getElem?_eq_some_iff.mp he).1
  have J : IX D A s.heap w0 H locs := ⟨fun k q hk => I.1 k q (by rw [List.getElem?_append_left (List.getElem?_eq_some_iff.mp hk).1]; exact hk), ⟨fun i j p q hi hj => I.2.1.1 i j p q (by rw [List.getElem?_append_left (List.getElem?_eq_some_iff.mp hi).1]; exact hi) (by rw [List.getElem?_append_left (List.getElem?_eq_some_iff.mp hj).1]; exact hj), fun k q hk => I.2.1.2 k q (by rw [List.getElem?_append_left (List.getElem?_eq_some_iff.mp hk).1]; exact hk)⟩, I.2.2⟩
  exact va_callSF (va_runV (As := As) (rest := rest) (b := a) S (hM H.size) (cwV np S.2.2.2.2 (gV h1 h2 h3 h4 h5) rfl rfl rfl hd hR) ⟨FB, va_recv hK.1 J.1 hc he, PX hK J _⟩ rfl hn hsize hst (lv_room hW) hdg hf) hA I kk
/-- a static method of the own class -/
theorem cS {x : Cond} {y : MethodName} {b : ByteArray} {n idx np : Nat} {r : Option FieldType} {rm : Room} {As : List Value} {w0 : va_W} (S : CallFix p m c cc nL s args (x :: uT) own) (hM : MS l D cy y b n r rm As w0 post w1) (hK : KX D cy s) (hA : ∀ q, s.heap.size ≤ q → A q) (I : IX D A s.heap w0 H locs)
    (h1 : Cond.methodLink own idx y ∈ uT) (h2 : Cond.static y ∈ uT) (h4 : Cond.initialized own ∈ uT) (h5 : Cond.code y b n r ∈ uT) (hd : y.cls = own ∧ y.cls ≠ "java/lang/invoke/MethodHandle" ∧ y.cls ≠ "java/lang/invoke/VarHandle" ∧ (parseMethodDescriptor y.desc).map (fun d => d.parameters.length) = some np) (hn : As.length = np) (hR : rm.frames + 1 ≤ R.frames ∧ 8 + (n + 11) + rm.locals ≤ R.locals)
    (hsize : ls.size = nL) (hst : st = As.reverse ++ rest) (hW : (rest.map fun v => v.category).sum ≤ 8) (hdg : decode cc pc = .ok (.invokestatic idx, 3)) (hf : cells + rm.cells ≤ R.cells ∧ slots + rm.slots ≤ R.slots)
    (kk : ∀ (v : Option Value) (u : α) (H1 : Heap) (locs1 : List Loc), post v u → IX D A s.heap (w1 u) H1 locs1 → W p l e R s m args below meth c H1 locs1 (cells + rm.cells) (slots + rm.slots) Q (F0 m (pc + 3) ls (v.toList ++ rest))) : W p l e R s m args below meth c H locs cells slots Q (F0 m pc ls st) :=
  va_callS (va_runS (As := As) (rest := rest) S (hM H.size) (cwS np S.2.2.2.2 (gS h1 h2 h4 h5) rfl rfl rfl hd hR) ⟨FB, PX hK I _⟩ rfl hn hsize hst (lv_room hW) hdg hf) hA I kk
/-- a private static method of the nest's host, called by a nest mate -/
theorem cN {x : Cond} {y : MethodName} {b : ByteArray} {n idx np : Nat} {r : Option FieldType} {rm : Room} {As : List Value} {w0 : va_W} (S : CallFix p m c cc nL s args (x :: uT) own) (hM : MS l D cy y b n r rm As w0 post w1) (hK : KX D cy s) (hA : ∀ q, s.heap.size ≤ q → A q) (I : IX D A s.heap w0 H locs)
    (h1 : (own, idx, y) ∈ nestL) (h2 : Cond.static y ∈ uT) (h4 : Cond.initialized y.cls ∈ uT) (h5 : Cond.code y b n r ∈ uT) (hd : y.cls ≠ "java/lang/invoke/MethodHandle" ∧ y.cls ≠ "java/lang/invoke/VarHandle" ∧ (parseMethodDescriptor y.desc).map (fun d => d.parameters.length) = some np) (hn : As.length = np) (hR : rm.frames + 1 ≤ R.frames ∧ 8 + (n + 11) + rm.locals ≤ R.locals)
    (hsize : ls.size = nL) (hst : st = As.reverse ++ rest) (hW : (rest.map fun v => v.category).sum ≤ 8) (hdg : decode cc pc = .ok (.invokestatic idx, 3)) (hf : cells + rm.cells ≤ R.cells ∧ slots + rm.slots ≤ R.slots)
    (kk : ∀ (v : Option Value) (u : α) (H1 : Heap) (locs1 : List Loc), post v u → IX D A s.heap (w1 u) H1 locs1 → W p l e R s m args below meth c H1 locs1 (cells + rm.cells) (slots + rm.slots) Q (F0 m (pc + 3) ls (v.toList ++ rest))) : W p l e R s m args below meth c H locs cells slots Q (F0 m pc ls st) :=
  va_callS (va_runSN (host := RX11) (As := As) (rest := rest) S (hM H.size) ⟨va_cnB np S.2.2.2.2 (gC h5) rfl rfl rfl (hK.2.1 _ h1) (S.2.2.2.2 _ (List.mem_cons_of_mem _ h4)) hd hR, S.2.2.2.2 _ (List.mem_cons_of_mem _ h2), trivial⟩ ⟨FB, PX hK I _⟩ rfl hn hsize hst (lv_room hW) hdg hf) hA I kk
/-- a field of an object in the world -/
theorem rg {x : Cond} {C ref : String} {T : u_T} {N ci q0 a idx : Nat} (k : Nat) {fs : List Value} {v : Value} (S : CallFix p m c cc nL s args (x :: uT) own) (hK : KX D cy s) (I : IX D A s.heap ws H locs) (hcl : ∀ w ∈ u_ws C T N, w ∈ uT) (hc : vwCl[ci]? = some (C, T, N)) (hw : Cond.fieldLink own idx ref (T k).2.1 (T k).2.2.1 ∈ uT) (hk : k < N) (hs : (T k).1 = ref)
    (he : ws[q0]? = some (a, .inr (ci, fs))) (hv : fs[k]? = some v) (hdg : decode cc pc = .ok (.getfield idx, 3)) (kk : W p l e R s m args below meth c H locs cells slots Q (F0 m (pc + 3) ls (v :: rest))) : W p l e R s m args below meth c H locs cells slots Q (F0 m pc ls (.ref a :: rest)) :=
  va_get (D := D) S.1 S.2.1 S.2.2.2.2 (fun w h => List.mem_cons_of_mem _ (hcl w h)) S.2.2.2.1 hK.1 I.1 q0 he hc k hk (S.2.2.2.2 _ (List.mem_cons_of_mem _ hw)) (fun _ h9 => by rw [← hs]; exact h9) hv hdg kk
theorem rp {x : Cond} {C ref : String} {T : u_T} {N ci q0 a idx : Nat} (k : Nat) {fs : List Value} {v : Value} {ty : FieldType} (S : CallFix p m c cc nL s args (x :: uT) own) (hK : KX D cy s) (I : IX D A s.heap ws H locs) (hcl : ∀ w ∈ u_ws C T N, w ∈ uT) (hc : vwCl[ci]? = some (C, T, N)) (hw : Cond.fieldLink own idx ref (T k).2.1 (T k).2.2.1 ∈ uT) (hk : k < N) (hs : (T k).1 = ref) {ty0 : Nat → FieldType} (hty : ∀ k, k < N → parseFieldDescriptor (T k).2.2.1 = some (ty0 k)) (hnm : ∀ a, a < N → ∀ b, b < N → a ≠ b → (T a).2.1 ≠ (T b).2.1) (hfin : (T k).2.2.2 = false) (hd : parseFieldDescriptor (T k).2.2.1 = some ty) (hn : narrow ty v = v) (hfit : fits ty v = true) (hl : k < fs.length)
    (he : ws[q0]? = some (a, .inr (ci, fs))) (hdg : decode cc pc = .ok (.putfield idx, 3)) (kk : ∀ (H1 : Heap) (locs1 : List Loc), IX D A s.heap (ws.set q0 (a, .inr (ci, fs.set k v))) H1 locs1 → W p l e R s m args below meth c H1 locs1 cells slots Q (F0 m (pc + 3) ls rest)) : W p l e R s m args below meth c H locs cells slots Q (F0 m pc ls (v :: .ref a :: rest)) :=
  va_put (D := D) S.1 S.2.1 S.2.2.2.2 (fun w h => List.mem_cons_of_mem _ (hcl w h)) ty0 hty hnm S.2.2.2.1 hK.1 I.1 I.2.1 I.2.2 q0 he hc k hk (S.2.2.2.2 _ (List.mem_cons_of_mem _ hw)) (fun _ h9 => by rw [← hs]; exact h9) hfin hd hn hfit hl hdg (fun H1 locs1 a b d => kk H1 locs1 ⟨a, b, d⟩)
/-- an int of an array of the world, at a place that is a number -/
theorem ri {q0 a n : Nat} {f : Nat → Int32} {i : Int32} (k : Nat) (S : CallFix p m c cc nL s args Ts own) (hK : KX D cy s) (I : IX D A s.heap ws H locs) (ha : ws[q0]? = some (a, .inl (cy 0, n, .inl f))) (hi : i = nI k) (hk : k < n) (hn : n < 2 ^ 31) (hdg : decode cc pc = .ok (.iaload, 1))
    (kk : W p l e R s m args below meth c H locs cells slots Q (F0 m (pc + 1) ls (.int (f k) :: rest))) : W p l e R s m args below meth c H locs cells slots Q (F0 m pc ls (.int i :: .ref a :: rest)) := by
  subst hi
  refine va_iald S.1 S.2.1 hK.1 I.1 q0 0 ha rfl (vp_in_nI hk hn) hdg ?_
  rw [nI_clamp (Nat.lt_trans hk hn)]
  exact kk
theorem rz {q0 a n : Nat} {f : Nat → Int32} {i : Int32} (k : Nat) (S : CallFix p m c cc nL s args Ts own) (hK : KX D cy s) (I : IX D A s.heap ws H locs) (ha : ws[q0]? = some (a, .inl (cy 1, n, .inl f))) (hi : i = nI k) (hk : k < n) (hn : n < 2 ^ 31) (hdg : decode cc pc = .ok (.baload, 1))
    (kk : W p l e R s m args below meth c H locs cells slots Q (F0 m (pc + 1) ls (.int (f k) :: rest))) : W p l e R s m args below meth c H locs cells slots Q (F0 m pc ls (.int i :: .ref a :: rest)) := by
  subst hi
  refine va_zald S.1 S.2.1 hK.1 I.1 q0 1 ha rfl (vp_in_nI hk hn) hdg ?_
  rw [nI_clamp (Nat.lt_trans hk hn)]
  exact kk
theorem si {q0 a n : Nat} {f : Nat → Int32} {i v : Int32} (k : Nat) (S : CallFix p m c cc nL s args Ts own) (hK : KX D cy s) (I : IX D A s.heap ws H locs) (ha : ws[q0]? = some (a, .inl (cy 0, n, .inl f))) (hi : i = nI k) (hk : k < n) (hn : n < 2 ^ 31) (hdg : decode cc pc = .ok (.iastore, 1))
    (kk : ∀ (H1 : Heap) (locs1 : List Loc), IX D A s.heap (ws.set q0 (a, .inl (cy 0, n, .inl (upd f k v)))) H1 locs1 → W p l e R s m args below meth c H1 locs1 cells slots Q (F0 m (pc + 1) ls rest)) : W p l e R s m args below meth c H locs cells slots Q (F0 m pc ls (.int v :: .int i :: .ref a :: rest)) := by
  subst hi
  refine va_iast S.1 S.2.1 hK.1 I.1 I.2.1 I.2.2 q0 0 ha rfl (vp_in_nI hk hn) hdg (fun H1 locs1 a b d => ?_)
  rw [nI_clamp (Nat.lt_trans hk hn)] at a b
  exact kk H1 locs1 ⟨a, b, d⟩
theorem sz {q0 a n : Nat} {f : Nat → Int32} {i v : Int32} (k : Nat) (S : CallFix p m c cc nL s args Ts own) (hK : KX D cy s) (I : IX D A s.heap ws H locs) (ha : ws[q0]? = some (a, .inl (cy 1, n, .inl f))) (hi : i = nI k) (hk : k < n) (hn : n < 2 ^ 31) (hz : v = 0 ∨ v = 1) (hdg : decode cc pc = .ok (.bastore, 1))
    (kk : ∀ (H1 : Heap) (locs1 : List Loc), IX D A s.heap (ws.set q0 (a, .inl (cy 1, n, .inl (upd f k v)))) H1 locs1 → W p l e R s m args below meth c H1 locs1 cells slots Q (F0 m (pc + 1) ls rest)) : W p l e R s m args below meth c H locs cells slots Q (F0 m pc ls (.int v :: .int i :: .ref a :: rest)) := by
  subst hi
  refine va_zast S.1 S.2.1 hK.1 I.1 I.2.1 I.2.2 q0 1 ha rfl (vp_in_nI hk hn) hdg (fun H1 locs1 a b d => ?_)
  rw [nI_clamp (Nat.lt_trans hk hn), show vp_nar .boolean v = v by rcases hz with rfl | rfl <;> rfl] at a b
  exact kk H1 locs1 ⟨a, b, d⟩
end ENDS
