/-! new int[7][256]: the outer row and its rows -/
section GRD
/-- the outer row, i of its places filled -/
def grO (cA : ClassId) (h0 i : Nat) : Cell := arrV cA 7 (fun j => va_rf (if j < i then some (h0 + 1 + j) else none))
/-- an inner row -/
def grI (cB : ClassId) : Cell := arrV cB 256 (fun _ => .int 0)
def grS (s : State) (cA cB : ClassId) : Nat → State
  | 0 => s.pushCell (grO cA s.heap.size 0)
  | i + 1 => ((grS s cA cB i).pushCell (grI cB)).setCell s.heap.size (grO cA s.heap.size (i + 1))
theorem grO_0 (cA : ClassId) (h0 : Nat) : ({ cls := cA, slots := Array.replicate 7 .null } : Cell) = grO cA h0 0 := (arrV_new cA 7 .null).trans (congrArg (arrV cA 7) (funext fun j => by rw [if_neg (Nat.not_lt_zero j)]; rfl))
theorem grO_up (cA : ClassId) (h0 i : Nat) : (grO cA h0 i).setSlot i (.ref (h0 + 1 + i)) = grO cA h0 (i + 1) := by
  unfold grO
  rw [arrV_store]
  refine congrArg (arrV cA 7) (funext fun j => ?_)
  unfold updV
  by_cases e : j = i
  · subst e; rw [if_pos rfl, if_pos (Nat.lt_succ_self j)]; rfl
  · rw [if_neg e]
    show va_rf (if j < i then some (h0 + 1 + j) else none) = _
    by_cases h : j < i
    · rw [if_pos h, if_pos (by omega)]
    · rw [if_neg h, if_neg (by omega)]
theorem grS_is (s : State) (cA cB : ClassId) : ∀ i, (grS s cA cB i).heap.size = s.heap.size + 1 + i ∧ (grS s cA cB i).heap[s.heap.size]? = some (grO cA s.heap.size i) ∧ (grS s cA cB i).vm = s.vm ∧ (grS s cA cB i).slotsUsed = s.slotsUsed + 7 + i * 256 ∧ (∀ a, a < s.heap.size → (grS s cA cB i).heap[a]? = s.heap[a]?) ∧ ∀ j, j < i → (grS s cA cB i).heap[s.heap.size + 1 + j]? = some (grI cB)
  | 0 => by
    refine ⟨by simp [grS], by simp [grS], rfl, ?_, fun a ha => State.heap_pushCell_of_lt _ _ ha, fun j h => absurd h (Nat.not_lt_zero _)⟩
    simp [grS, grO, arrV_size]
  | i + 1 => by
    obtain ⟨a, b, d, u, w, z⟩ := grS_is s cA cB i
    have hlt : s.heap.size < (grS s cA cB i).heap.size := by omega
    have hb2 : ((grS s cA cB i).pushCell (grI cB)).heap[s.heap.size]? = some (grO cA s.heap.size i) := by rw [State.heap_pushCell_of_lt (h := hlt)]; exact b
    refine ⟨?_, State.heap_setCell_self hb2, by simp [grS, d], ?_, fun x hx => ?_, fun j hj => ?_⟩
    · simp [grS, State.setCell, a]; omega
    · simp [grS, u, grI, arrV_size]; omega
    · show (((grS s cA cB i).pushCell (grI cB)).setCell s.heap.size _).heap[x]? = _
      have hx2 : x < (grS s cA cB i).heap.size := by omega
      rw [State.heap_setCell_other (Nat.ne_of_gt hx), State.heap_pushCell_of_lt (h := hx2)]
      exact w x hx
    · show (((grS s cA cB i).pushCell (grI cB)).setCell s.heap.size _).heap[s.heap.size + 1 + j]? = _
      rw [State.heap_setCell_other (show s.heap.size ≠ s.heap.size + 1 + j by omega)]
      by_cases e : j = i
      · subst e
        rw [← a]
        exact State.heap_pushCell_size _ _
      · have hj2 : s.heap.size + 1 + j < (grS s cA cB i).heap.size := by omega
        rw [State.heap_pushCell_of_lt (h := hj2)]
        exact z j (by omega)
theorem grS_top (s : State) (f : JFrame) (cA cB : ClassId) : ∀ i, grS (s.setTop f) cA cB i = (grS s cA cB i).setTop f
  | 0 => rfl
  | i + 1 => by simp only [grS, grS_top s f cA cB i, State.heap_setTop, State.pushCell_setTop, State.setCell_setTop]
section GWP
variable {E : CtlPost} {e : Env} {d : Bool} {acts : List Action} {s : State}
theorem gr_in {cB cc : ClassId} {kB : Class} {m : Int32} (hk : s.vm.classes[cB]? = some kB) (hkind : kB.kind = .array cc .int) (hm : ¬ m < 0) (hM : m.toNatClampNeg = 256) (hl : ¬ 256 > e.platform.arrayLengthLimit) (hh : ¬ 256 * 4 > e.platform.maxHeapBytes) (h1 : s.heap.size < e.platform.maxCells) (h2 : s.slotsUsed + 256 ≤ e.platform.maxSlots) {Q : Addr → Pre} (hq : ∀ acts', Q s.heap.size d acts' (s.pushCell (grI cB))) : wp (multianewarray.make cB [m]) Q E e d acts s := by
  rw [multianewarray.make]
  simp only [wp_bind', W.ite, hm, if_false, wp_pure', W.theClass, hk, hkind, Option.some.injEq, exists_eq_left', hM]
  refine W.newArray_of hk hkind hl hh h1 h2 rfl (fun acts' => ?_)
  have h := hq acts'
  rw [grI, ← arrV_new] at h
  exact h
theorem gr_out {cA cB cc : ClassId} {kA kB : Class} {n m : Int32} (hk : s.vm.classes[cA]? = some kA) (hkind : kA.kind = .array cB (.array .int)) (hkB : s.vm.classes[cB]? = some kB) (hkindB : kB.kind = .array cc .int) (hn : ¬ n < 0) (hN : n.toNatClampNeg = 7) (hm : ¬ m < 0) (hM : m.toNatClampNeg = 256) (hl : ¬ 256 > e.platform.arrayLengthLimit) (hh : ¬ 256 * 4 > e.platform.maxHeapBytes) (hc : s.heap.size + 8 ≤ e.platform.maxCells) (hs : s.slotsUsed + 1799 ≤ e.platform.maxSlots) {Q : Addr → Pre} (hq : ∀ d' acts', Q s.heap.size d' acts' (grS s cA cB 7)) : wp (multianewarray.make cA [n, m]) Q E e d acts s := by
  have hfind : ([m].find? (· < 0)) = none := by simp [hm]
  rw [multianewarray.make]
  simp only [wp_bind', W.ite, hn, if_false, wp_pure', W.theClass, hk, hkind, Option.some.injEq, exists_eq_left', hN]
  refine W.newArray_of hk hkind (by omega) (by show ¬ 7 * 4 > _; omega) (by omega) (by omega) rfl (fun acts' => ?_)
  simp only [hfind]
  rw [grO_0 cA s.heap.size, ite_self, wp_bind', Std.Legacy.Range.forIn_eq_forIn_range']
  have hsz : ([:7] : Std.Legacy.Range).size = 7 := by simp [Std.Legacy.Range.size]
  rw [hsz]
  show wp (forIn (List.range' 0 7 1) PUnit.unit _) _ E e d acts' _
  refine wp_forIn_inv (fun rest s' => ∃ i, i ≤ 7 ∧ rest = List.range' i (7 - i) ∧ s' = grS s cA cB i) _ _ ⟨0, Nat.zero_le _, rfl, rfl⟩ ?_ ?_
  · rintro x rest s' d' acts'' Q' ⟨i, hi, hl9, rfl⟩ hnext
    have hlt : i < 7 := by
      rcases Nat.lt_or_ge i 7 with h | h
      · exact h
      · rw [show 7 - i = 0 from by omega] at hl9; simp at hl9
    obtain ⟨rfl, hrest⟩ : x = i ∧ rest = List.range' (i + 1) (7 - (i + 1)) := by
      rw [show 7 - i = (7 - (i + 1)) + 1 from by omega, List.range'_succ] at hl9
      exact ⟨(List.cons.inj hl9).1, (List.cons.inj hl9).2⟩
    obtain ⟨f1, f2, f3, f4, -, -⟩ := grS_is s cA cB x
    simp only [wp_bind']
    refine gr_in (by rw [f3]; exact hkB) hkindB hm hM hl hh (by rw [f1]; omega) (by rw [f4]; omega) (fun acts3 => ?_)
    have hlt0 : s.heap.size < (grS s cA cB x).heap.size := by rw [f1]; omega
    simp only [wp_bind', W.writeLoc, wp_pure']
    refine ⟨grO cA s.heap.size x, by rw [State.heap_pushCell_of_lt (h := hlt0)]; exact f2, (fun q => by cases q), by rw [grO, arrV_size]; exact hlt, ?_, hnext _ _ _ ⟨x + 1, hlt, hrest, ?_⟩⟩
    · show State.fitsSlot _ cA .none x _ = true
      simp [State.fitsSlot, State.slotType?, f3, hk, hkind, fits]
    · rw [f1, grO_up]; rfl
  · rintro s' d' acts'' ⟨i, hi, hl9, rfl⟩
    have hi7 : i = 7 := by
      rcases Nat.lt_or_ge i 7 with h | h
      · rw [show 7 - i = (7 - (i + 1)) + 1 from by omega, List.range'_succ] at hl9; cases hl9
      · omega
    subst hi7
    simp only [wp_pure']
    exact hq _ _
end GWP
variable {α : Type} {p : Program} {l : Launch} {e : Env} {R : Room} {s : State} {m : MethodId} {args : Array Value} {below : List Frame} {meth : Method} {c : Code} {H : Heap} {locs : List Loc} {cells slots mc ms : Nat} {Q : State → Prop}
variable {cc : ByteArray} {nL pc : Nat} {ls : Array Slot} {rest st : List Value} {D : va_G} {cy : Nat → ClassId} {A : Nat → Prop} {own : String} {post : Option Value → α → Prop} {w1 : α → va_W} {ws : va_W}
theorem grS_st {T : State} (X : Stand p l e R s m args below meth c T locs cells slots) (cA cB : ClassId) : ∀ i, Stand p l e R s m args below meth c (grS T cA cB i) locs (cells + 1 + i) (slots + 7 + i * 256)
  | 0 => by
    have h := X.pushed (grO cA T.heap.size 0)
    rw [grO, arrV_size] at h
    simpa [grS, grO] using h
  | i + 1 => by
    have Xi := grS_st X cA cB i
    obtain ⟨f1, f2, -, -, -, -⟩ := grS_is T cA cB i
    have hlt0 : T.heap.size < (grS T cA cB i).heap.size := by rw [f1]; omega
    have hcell : ((grS T cA cB i).pushCell (grI cB)).heap[T.heap.size]? = some (grO cA T.heap.size i) := by rw [State.heap_pushCell_of_lt (h := hlt0)]; exact f2
    have h := (Xi.pushed (grI cB)).stored hcell i (.ref (T.heap.size + 1 + i))
    have e1 : (grI cB).slots.size = 256 := by rw [grI, arrV_size]
    rw [e1, grO_up] at h
    have e3 : slots + 7 + (i + 1) * 256 = slots + 7 + i * 256 + 256 := by omega
    rw [e3]
    exact h.dropFresh (fun x hx => by rw [List.mem_singleton.mp hx]; exact X.heapGrown)
theorem rG0 {index : Nat} (hexec : p.tables.exec = Jvm.exec) (hb : c.code = cc) (hown : s.vm.findClass own = some m.cls) (hcl0 : (Cond.classLink own index "[[I").before args s = true) (hover : oA s) (harr : (Cond.arrayClass .int).before args s = true) {n k : Int32} (hn : ¬ n < 0) (hN : n.toNatClampNeg = 7) (hk : ¬ k < 0) (hM : k.toNatClampNeg = 256) (hcells : cells + 8 ≤ R.cells) (hslots : slots + 1799 ≤ R.slots) (hdg : decode cc pc = .ok (.multianewarray index 2, 4))
    (kk : ∀ (cA cB : ClassId) (H1 : Heap), s.vm.findClass "[[I" = some cA → s.vm.findClass "[I" = some cB → H1.size = H.size + 8 → H1[H.size]? = some (grO cA H.size 7) → (∀ a, a < H.size → H1[a]? = H[a]?) → (∀ j, j < 7 → H1[H.size + 1 + j]? = some (grI cB)) → W p l e R s m args below meth c H1 locs (cells + 8) (slots + 1799) Q (F0 m (pc + 4) ls (.ref H.size :: rest))) : W p l e R s m args below meth c H locs cells slots Q (F0 m pc ls (.int k :: .int n :: rest)) := by
  intro T hT X
  subst hT
  subst hb
  have hpl : e.platform.magicAccessors = ({} : Platform).magicAccessors := by rw [X.admits.platform]
  obtain ⟨cB, cA, kA, hcomp, -, hkA, hkindA, hnameA⟩ := arrayOverA_spec hover
  obtain ⟨cB2, kB, cc2, hcomp2, hkB, hkindB⟩ := Cond.arrayClass_spec harr
  have hcomp : s.vm.findClass "[I" = some cB := hcomp
  have hcomp2 : s.vm.findClass "[I" = some cB2 := hcomp2
  have hnameA : s.vm.findClass "[[I" = some cA := hnameA
  cases hcomp.symm.trans hcomp2
  obtain ⟨c0, hfc0, hcl⟩ := Cond.classLink_spec hown hcl0 e.platform hpl
  cases hnameA.symm.trans hfc0
  obtain ⟨hg₁, hwarm₁, hready₁⟩ := State.classEntry (e := e) X.warmed hcl
  generalize T.vm.noted (F0 m pc ls (.int k :: .int n :: rest)).method.cls index (.cls cA) = vm₁ at hg₁ hwarm₁ hready₁
  have hal : s.vm.Alike vm₁ := hwarm₁.alike
  obtain ⟨kA₁, hkA₁, heA⟩ := hal.2.2 _ _ hkA
  obtain ⟨kB₁, hkB₁, heB⟩ := hal.2.2 _ _ hkB
  have hkindA₁ : kA₁.kind = .array cB (.array .int) := by rw [heA]; exact hkindA
  have hkindB₁ : kB₁.kind = .array cc2 .int := by rw [heB]; exact hkindB
  have X₁ := X.noted hwarm₁
  obtain ⟨hr1, hr2⟩ := X.roomAbove hcells hslots
  have XF := grS_st X₁ cA cB 7
  obtain ⟨f1, f2, -, -, f5, f6⟩ := grS_is (T.setVm vm₁) cA cB 7
  obtain ⟨t, a1, b1⟩ := kk cA cB (grS (T.setVm vm₁) cA cB 7).heap hnameA hcomp (by rw [f1]; rfl) f2 f5 f6 (grS (T.setVm vm₁) cA cB 7) rfl (by
    have e1 : cells + 1 + 7 = cells + 8 := by omega
    have e2 : slots + 7 + 7 * 256 = slots + 1799 := by omega
    rw [e1, e2] at XF
    exact XF)
  refine ⟨t, ?_, b1⟩
  have hl2 : ¬ 256 > e.platform.arrayLengthLimit := by rw [Launch.admits_arrayLengthLimit X.admits]; omega
  have hh2 : ¬ 256 * 4 > e.platform.maxHeapBytes := by rw [Launch.admits_maxHeapBytes X.admits]; omega
  jvm_step X.here [hexec, hdg]
  simp only [multianewarray.sem, wp_bind', W.resolveClassAt_links (State.method?_setTop (F0 m pc ls (.int k :: .int n :: rest)) X.here.top) hg₁]
  rw [W.popN, if_neg (by decide)]
  refine ⟨F0 m pc ls (.int k :: .int n :: rest), State.topJava?_setTop' (s := T.setVm vm₁) _ X.here.top, [.int n, .int k], rest, rfl, rfl, ?_⟩
  simp only [List.mapM_cons, List.mapM_nil, wp_bind', wp_pure']
  refine gr_out (kA := kA₁) (kB := kB₁) hkA₁ hkindA₁ hkB₁ hkindB₁ hn hN hk hM hl2 hh2 (by show T.heap.size + 8 ≤ _; omega) (by show T.slotsUsed + 1799 ≤ _; omega) (fun d' acts' => ?_)
  have eS : ((T.setTop (F0 m pc ls (.int k :: .int n :: rest))).setVm vm₁).setTop { F0 m pc ls (.int k :: .int n :: rest) with stack := rest } = (T.setVm vm₁).setTop { F0 m pc ls (.int k :: .int n :: rest) with stack := rest } := by
    show ((T.setVm vm₁).setTop _).setTop _ = _
    rw [State.setTop_setTop]
  rw [eS, grS_top]
  simp only [wp_bind', W.mark, W.pushRef, State.topJava?_setTop' _ XF.here.top, Option.some.injEq, exists_eq_left', State.setTop_setTop, State.heap_setTop]
  intro acts
  simp [jvm, XF.here.top]
  exact a1
/-- the same cells in another order -/
theorem IX.pick {ws2 : va_W} (idx : List Nat) (h : idx.map (fun i => ws[i]?) = ws2.map some) (hn : idx.Nodup) (I : IX D A s.heap ws H locs) : IX D A s.heap ws2 H locs := by
  have hp : ∀ (k : Nat) (x : Nat × va_E), ws2[k]? = some x → ∃ i, idx[k]? = some i ∧ ws[i]? = some x := by
    intro k x hx
    have h1 : (ws2.map some)[k]? = some (some x) := by rw [List.getElem?_map, hx]; rfl
    rw [← h, List.getElem?_map] at h1
    cases hi : idx[k]? with
    | none => rw [hi] at h1; cases h1
    | some i => rw [hi] at h1; exact ⟨i, rfl, Option.some.inj h1⟩
  refine ⟨fun k x hx => ?_, ⟨fun i j x y hi hj hxy => ?_, fun k x hx => ?_⟩, I.2.2⟩
  · obtain ⟨i, -, h2⟩ := hp k x hx
    exact I.1 i x h2
  · obtain ⟨i1, a1, a2⟩ := hp i x hi
    obtain ⟨j1, b1, b2⟩ := hp j y hj
    have hij := I.2.1.1 i1 j1 x y a2 b2 hxy
    subst hij
    obtain ⟨li, ei⟩ := List.getElem?_eq_some_iff.mp a1
    obtain ⟨lj, ej⟩ := List.getElem?_eq_some_iff.mp b1
    exact (List.getElem?_inj li hn).mp (a1.trans b1.symm)
  · obtain ⟨i, -, h2⟩ := hp k x hx
    exact I.2.1.2 i x h2
theorem IX.more {x : List (Nat × va_E)} {H1 : Heap} (I : IX D A s.heap ws H locs) (hA : ∀ q, s.heap.size ≤ q → A q) (ho : ∀ a, a < H.size → H1[a]? = H[a]?) (hz : H.size ≤ H1.size) (hx : ∀ k q, x[k]? = some q → q.1 = H.size + k ∧ va_P D vwCl [q] H1) : IX D A s.heap (ws ++ x) H1 locs := by
  have hlt : ∀ (k : Nat) (q : Nat × va_E), ws[k]? = some q → q.1 < H.size := fun k q hk => (I.1 k q hk).lt
  refine ⟨fun k q hk => ?_, ⟨fun i j y z hi hj hyz => ?_, fun k q hk => ?_⟩, ⟨Nat.le_trans I.2.2.1 hz, fun a h1 h2 => (ho a (Nat.lt_of_lt_of_le h1 I.2.2.1)).trans (I.2.2.2.1 a h1 h2), I.2.2.2.2⟩⟩
  · by_cases hl : k < ws.length
    · rw [List.getElem?_append_left hl] at hk
      exact (va_P.kept I.1 (fun k9 q9 h9 => ho q9.1 (hlt k9 q9 h9))) k q hk
    · rw [List.getElem?_append_right (by omega)] at hk
      exact (hx _ _ hk).2 0 q rfl
  · by_cases h1 : i < ws.length <;> by_cases h2 : j < ws.length
    · rw [List.getElem?_append_left h1] at hi
      rw [List.getElem?_append_left h2] at hj
      exact I.2.1.1 i j y z hi hj hyz
    · rw [List.getElem?_append_left h1] at hi
      rw [List.getElem?_append_right (by omega)] at hj
      have := hlt _ _ hi
      have := (hx _ _ hj).1
      omega
    · rw [List.getElem?_append_right (by omega)] at hi
      rw [List.getElem?_append_left h2] at hj
      have := hlt _ _ hj
      have := (hx _ _ hi).1
      omega
    · rw [List.getElem?_append_right (by omega)] at hi hj
      have := (hx _ _ hi).1
      have := (hx _ _ hj).1
      omega
  · by_cases hl : k < ws.length
    · rw [List.getElem?_append_left hl] at hk
      exact I.2.1.2 k q hk
    · rw [List.getElem?_append_right (by omega)] at hk
      exact hA _ (by have := (hx _ _ hk).1; have := I.2.2.1; omega)
/-- the cell of a row of rows: its eight cells -/
def grW (cy : Nat → ClassId) (a : Nat) : va_W := [(a, .inl (cy 5, 7, .inr (.inr (.inr (.inr (fun i => if i < 7 then some (a + 1 + i) else none)))))), (a + 1, .inl (cy 0, 256, .inl (fun _ => 0))), (a + 2, .inl (cy 0, 256, .inl (fun _ => 0))), (a + 3, .inl (cy 0, 256, .inl (fun _ => 0))), (a + 4, .inl (cy 0, 256, .inl (fun _ => 0))), (a + 5, .inl (cy 0, 256, .inl (fun _ => 0))), (a + 6, .inl (cy 0, 256, .inl (fun _ => 0))), (a + 7, .inl (cy 0, 256, .inl (fun _ => 0)))]
theorem va_P1 {q : Nat × va_E} {cA : ClassId} {x : vp_A} {H : Heap} (he : q.2 = .inl (cA, x)) (h : H[q.1]? = some (vp_cell cA x)) : va_P D vwCl [q] H := by
  intro k y hk
  have hz : k < 1 := (List.getElem?_eq_some_iff.mp hk).1
  have h0 : k = 0 := by omega
  subst h0
  obtain ⟨a, b⟩ := q
  cases he
  cases hk
  exact h
theorem rG {x : Cond} {index : Nat} (S : CallFix p m c cc nL s args (x :: uT) own) (hK : KX D cy s) (hA : ∀ q, s.heap.size ≤ q → A q) (I : IX D A s.heap ws H locs) (hw : Cond.classLink own index "[[I" ∈ uT) (hR : cells + 8 ≤ R.cells ∧ slots + 1799 ≤ R.slots) (hdg : decode cc pc = .ok (.multianewarray index 2, 4))
    (kk : ∀ (a : Nat) (H1 : Heap), IX D A s.heap (ws ++ grW cy a) H1 locs → W p l e R s m args below meth c H1 locs (cells + 8) (slots + 1799) Q (F0 m (pc + 4) ls (.ref a :: rest))) : W p l e R s m args below meth c H locs cells slots Q (F0 m pc ls (.int (nI 256) :: .int (nI 7) :: rest)) := by
  refine rG0 S.1 S.2.1 S.2.2.2.1 (S.2.2.2.2 _ (List.mem_cons_of_mem _ hw)) hK.2.2.2.2.2 (S.2.2.2.2 _ (List.mem_cons_of_mem _ wa_int)) (by decide) (by decide) (by decide) (by decide) hR.1 hR.2 hdg (fun cA cB H1 hA1 hB1 z1 o1 k1 r1 => ?_)
  have eA : cA = cy 5 := Option.some.inj (hA1.symm.trans (hK.1.2 5 _ rfl).2)
  have eB : cB = cy 0 := Option.some.inj (hB1.symm.trans (hK.1.2 0 _ rfl).2)
  subst eA
  subst eB
  refine kk H.size H1 (I.more hA k1 (by omega) (fun k q hk => ?_))
  have hz : k < 8 := (List.getElem?_eq_some_iff.mp hk).1
  have rr : ∀ j, j < 7 → va_P D vwCl [(H.size + 1 + j, .inl (cy 0, 256, .inl (fun _ => 0)))] H1 := fun j hj => va_P1 rfl (r1 j hj)
  rcases k with _ | _ | _ | _ | _ | _ | _ | _ | k
  · cases hk; exact ⟨rfl, va_P1 rfl o1⟩
  · cases hk; exact ⟨rfl, rr 0 (by decide)⟩
  · cases hk; exact ⟨rfl, rr 1 (by decide)⟩
  · cases hk; exact ⟨rfl, rr 2 (by decide)⟩
  · cases hk; exact ⟨rfl, rr 3 (by decide)⟩
  · cases hk; exact ⟨rfl, rr 4 (by decide)⟩
  · cases hk; exact ⟨rfl, rr 5 (by decide)⟩
  · cases hk; exact ⟨rfl, rr 6 (by decide)⟩
  · omega
theorem nI_nn {n : Nat} (h : n < 2147483648) : ¬ nI n < 0 := fun q => by
  have h1 : nI n < nI 0 := q
  have h2 := (nI_ltI h (by decide)).mp h1
  omega
/-- a new row of ints, of truth values -/
theorem nwI {x : Cond} {n : Nat} (S : CallFix p m c cc nL s args (x :: uT) own) (hK : KX D cy s) (hA : ∀ q, s.heap.size ≤ q → A q) (I : IX D A s.heap ws H locs) (hn : n < 10000) (hR : cells + 1 ≤ R.cells ∧ slots + n ≤ R.slots) (hdg : decode cc pc = .ok (.newarray .int, 2))
    (kk : ∀ (a : Nat) (H1 : Heap), IX D A s.heap (ws ++ [(a, .inl (cy 0, n, .inl (fun _ => 0)))]) H1 locs → W p l e R s m args below meth c H1 locs (cells + 1) (slots + n) Q (F0 m (pc + 2) ls (.ref a :: rest))) : W p l e R s m args below meth c H locs cells slots Q (F0 m pc ls (.int (nI n) :: rest)) := by
  refine va_newa (atype := .int) S.1 S.2.1 (S.2.2.2.2 _ (List.mem_cons_of_mem _ wa_int)) (ty := .int) rfl hK.1 I.1 I.2.1 I.2.2 hA (a0 := (n, .inl (fun _ => 0))) (fun cA => rfl) (nI_nn (by omega)) (nI_clamp (by omega)) (by show n * 4 ≤ _; omega) hR.1 hR.2 hdg (fun a cA H1 hK1 i1 i2 i3 => ?_)
  have e1 : cA = cy 0 := Option.some.inj ((hK1.2 6 _ rfl).2.symm.trans (hK.1.2 0 _ rfl).2)
  subst e1
  exact kk a H1 ⟨i1, i2, i3⟩
theorem nwZ {x : Cond} {n : Nat} (S : CallFix p m c cc nL s args (x :: uT) own) (hK : KX D cy s) (hA : ∀ q, s.heap.size ≤ q → A q) (I : IX D A s.heap ws H locs) (hn : n < 10000) (hR : cells + 1 ≤ R.cells ∧ slots + n ≤ R.slots) (hdg : decode cc pc = .ok (.newarray .boolean, 2))
    (kk : ∀ (a : Nat) (H1 : Heap), IX D A s.heap (ws ++ [(a, .inl (cy 1, n, .inl (fun _ => 0)))]) H1 locs → W p l e R s m args below meth c H1 locs (cells + 1) (slots + n) Q (F0 m (pc + 2) ls (.ref a :: rest))) : W p l e R s m args below meth c H locs cells slots Q (F0 m pc ls (.int (nI n) :: rest)) := by
  refine va_newa (atype := .boolean) S.1 S.2.1 (S.2.2.2.2 _ (List.mem_cons_of_mem _ wa_boolean)) (ty := .boolean) rfl hK.1 I.1 I.2.1 I.2.2 hA (a0 := (n, .inl (fun _ => 0))) (fun cA => rfl) (nI_nn (by omega)) (nI_clamp (by omega)) (by show n * 1 ≤ _; omega) hR.1 hR.2 hdg (fun a cA H1 hK1 i1 i2 i3 => ?_)
  have e1 : cA = cy 1 := Option.some.inj ((hK1.2 6 _ rfl).2.symm.trans (hK.1.2 1 _ rfl).2)
  subst e1
  exact kk a H1 ⟨i1, i2, i3⟩
/-- a new row of references -/
theorem nwQ {x : Cond} {n index t0 : Nat} {Cn : String} (S : CallFix p m c cc nL s args (x :: uT) own) (hK : KX D cy s) (hA : ∀ q, s.heap.size ≤ q → A q) (I : IX D A s.heap ws H locs) (hw : Cond.classLink own index Cn ∈ uT) (hao : Cn ∈ aoL) (ht : (tysX cy)[t0]? = some (cy t0, .object Cn)) (hn : n < 10000) (hR : cells + 1 ≤ R.cells ∧ slots + n ≤ R.slots) (hdg : decode cc pc = .ok (.anewarray index, 3))
    (kk : ∀ (a : Nat) (H1 : Heap), IX D A s.heap (ws ++ [(a, .inl (cy t0, n, .inr (.inr (.inr (.inr (fun _ => none))))))]) H1 locs → W p l e R s m args below meth c H1 locs (cells + 1) (slots + n) Q (F0 m (pc + 3) ls (.ref a :: rest))) : W p l e R s m args below meth c H locs cells slots Q (F0 m pc ls (.int (nI n) :: rest)) := by
  refine va_newq S.1 S.2.1 S.2.2.2.1 (S.2.2.2.2 _ (List.mem_cons_of_mem _ hw)) (hK.2.2.2.2.1 _ hao) hK.1 I.1 I.2.1 I.2.2 hA (nI_nn (by omega)) (nI_clamp (by omega)) (by omega) hR.1 hR.2 hdg (fun a cA H1 hK1 i1 i2 i3 => ?_)
  obtain ⟨k1, c1, a1, a2, a3, a4⟩ := (hK1.2 6 _ rfl).2
  obtain ⟨k2, c2, b1, b2, b3, b4⟩ := (hK.1.2 t0 _ ht).2
  have e1 : cA = cy t0 := Option.some.inj (a4.symm.trans b4)
  subst e1
  exact kk a H1 ⟨i1, i2, i3⟩
/-- a new object -/
theorem nwO {x : Cond} {Cn : String} {T : u_T} {N ci idx : Nat} {fs : List Value} (S : CallFix p m c cc nL s args (x :: uT) own) (hK : KX D cy s) (hA : ∀ q, s.heap.size ≤ q → A q) (I : IX D A s.heap ws H locs) (hcl : ∀ w ∈ u_ws Cn T N, w ∈ uT) {ty : Nat → FieldType} (hty : ∀ k, k < N → parseFieldDescriptor (T k).2.2.1 = some (ty k)) (hw : Cond.classLink own idx Cn ∈ uT) (hb : Cond.instantiable Cn N ∈ uT) (hi : Cond.initialized Cn ∈ uT) (hc : vwCl[ci]? = some (Cn, T, N)) (hfs : ∀ j, j < N → defaultValue (ty j) = vp_V fs j) (hR : cells + 1 ≤ R.cells ∧ slots + N ≤ R.slots) (hdg : decode cc pc = .ok (.new idx, 3))
    (kk : ∀ (a : Nat) (H1 : Heap), IX D A s.heap (ws ++ [(a, .inr (ci, fs))]) H1 locs → W p l e R s m args below meth c H1 locs (cells + 1) (slots + N) Q (F0 m (pc + 3) ls (.ref a :: rest))) : W p l e R s m args below meth c H locs cells slots Q (F0 m pc ls rest) :=
  va_new S.1 S.2.1 S.2.2.2.2 (fun w h => List.mem_cons_of_mem _ (hcl w h)) ty hty S.2.2.2.1 (S.2.2.2.2 _ (List.mem_cons_of_mem _ hw)) (S.2.2.2.2 _ (List.mem_cons_of_mem _ hb)) (S.2.2.2.2 _ (List.mem_cons_of_mem _ hi)) hK.1 I.1 I.2.1 I.2.2 hA hc hfs hR.1 hR.2 hdg (fun a H1 i1 i2 i3 => kk a H1 ⟨i1, i2, i3⟩)
/-- a constructor that a nest mate alone may call, with a rest of the world -/
theorem cIN0 {x : Cond} {y : MethodName} {b : ByteArray} {n idx np a : Nat} {rm : Room} {As : List Value} {w0 wr : va_W} (S : CallFix p m c cc nL s args (x :: uT) own) (hM : MS l D cy y b n none rm (.ref a :: As) w0 post w1) (hK : KX D cy s) (hA : ∀ q, s.heap.size ≤ q → A q) (I : IX D A s.heap (w0 ++ wr) H locs)
    (h1 : (own, idx, y) ∈ nestL) (h2 : Cond.instanceMethod y ∈ uT) (h4 : Cond.initialized y.cls ∈ uT) (h5 : Cond.code y b n none ∈ uT) (hy : y.name = "<init>") (hd : y.cls ≠ "java/lang/invoke/MethodHandle" ∧ y.cls ≠ "java/lang/invoke/VarHandle" ∧ (parseMethodDescriptor y.desc).map (fun d => d.parameters.length) = some np) (hn : As.length = np) (hR : rm.frames + 1 ≤ R.frames ∧ 8 + (n + 11) + rm.locals ≤ R.locals)
    (hsize : ls.size = nL) (hst : st = As.reverse ++ .ref a :: rest) (hW : (rest.map fun v => v.category).sum ≤ 8) (hdg : decode cc pc = .ok (.invokespecial idx, 3)) (hf : cells + rm.cells ≤ R.cells ∧ slots + rm.slots ≤ R.slots)
    (kk : ∀ (v : Option Value) (u : α) (H1 : Heap) (locs1 : List Loc), post v u → IX D A s.heap (w1 u ++ wr) H1 locs1 → W p l e R s m args below meth c H1 locs1 (cells + rm.cells) (slots + rm.slots) Q (F0 m (pc + 3) ls (v.toList ++ rest))) : W p l e R s m args below meth c H locs cells slots Q (F0 m pc ls st) :=
  va_callSF (va_runIN (host := RX11) (As := As) (rest := rest) (b := a) S (hM H.size) ⟨va_cnB np S.2.2.2.2 (gC h5) rfl rfl rfl (hK.2.1 _ h1) (S.2.2.2.2 _ (List.mem_cons_of_mem _ h4)) hd hR, hy, S.2.2.2.2 _ (List.mem_cons_of_mem _ h2)⟩ ⟨FB, PX hK I.left _⟩ rfl hn hsize hst (lv_room hW) hdg hf) hA I kk
/-- a static method of another class, with a rest of the world -/
theorem cJF {x : Cond} {y : MethodName} {b : ByteArray} {n idx np : Nat} {r : Option FieldType} {rm : Room} {As : List Value} {w0 wr : va_W} (S : CallFix p m c cc nL s args (x :: uT) own) (hM : MS l D cy y b n r rm As w0 post w1) (hK : KX D cy s) (hA : ∀ q, s.heap.size ≤ q → A q) (I : IX D A s.heap (w0 ++ wr) H locs)
    (h1 : Cond.methodLink own idx y ∈ uT) (h2 : Cond.static y ∈ uT) (h4 : Cond.initialized y.cls ∈ uT) (h5 : Cond.code y b n r ∈ uT) (hd : y.cls ≠ "java/lang/invoke/MethodHandle" ∧ y.cls ≠ "java/lang/invoke/VarHandle" ∧ (parseMethodDescriptor y.desc).map (fun d => d.parameters.length) = some np) (hn : As.length = np) (hR : rm.frames + 1 ≤ R.frames ∧ 8 + (n + 11) + rm.locals ≤ R.locals)
    (hsize : ls.size = nL) (hst : st = As.reverse ++ rest) (hW : (rest.map fun v => v.category).sum ≤ 8) (hdg : decode cc pc = .ok (.invokestatic idx, 3)) (hf : cells + rm.cells ≤ R.cells ∧ slots + rm.slots ≤ R.slots)
    (kk : ∀ (v : Option Value) (u : α) (H1 : Heap) (locs1 : List Loc), post v u → IX D A s.heap (w1 u ++ wr) H1 locs1 → W p l e R s m args below meth c H1 locs1 (cells + rm.cells) (slots + rm.slots) Q (F0 m (pc + 3) ls (v.toList ++ rest))) : W p l e R s m args below meth c H locs cells slots Q (F0 m pc ls st) :=
  va_callSF (va_runS (As := As) (rest := rest) S (hM H.size) (va_cwS np S.2.2.2.2 (gJ h1 h2 h4 h5) rfl rfl rfl hd hR) ⟨FB, PX hK I.left _⟩ rfl hn hsize hst (lv_room hW) hdg hf) hA I kk
end GRD
