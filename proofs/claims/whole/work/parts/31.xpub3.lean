def NxC (N : Nat → Nat) (R : Nat → Nat → Int32) (be bg bh : Int32) : Prop := (be = -4 ∧ bg = nI 0 ∧ bh = nI 1) ∨ ∃ j, j < N 17 ∧ be = nI j ∧ bh = R 20 j ∧ 0 < bg.toInt ∧ bg.toInt ≤ 16000
theorem nx_skip {N : Nat → Nat} {R : Nat → Nat → Int32} {d k : Nat} {be bg : Int32} (hnx : (be, bg) = nxF N R d k) (h : ¬ (d.testBit k = false ∧ soB N R (d ||| 2 ^ k) = true ∧ ¬ nxV N R d k ≤ 0 ∧ ((nxF N R d k).1 = -4 ∨ ¬ nxV N R d k * R 20 (nxF N R d k).1.toNatClampNeg ≤ (nxF N R d k).2 * R 20 k))) : (be, bg) = nxF N R d (k + 1) := by
  rw [nxF, if_neg h]
  exact hnx
theorem mul9 {b : Int} (h1 : 1 ≤ b) (h2 : b ≤ 9) : b = 1 ∨ b = 2 ∨ b = 3 ∨ b = 4 ∨ b = 5 ∨ b = 6 ∨ b = 7 ∨ b = 8 ∨ b = 9 := by omega
theorem mul9b {g b : Int} (h1 : 1 ≤ b) (h2 : b ≤ 9) (h3 : -16000 ≤ g) (h4 : g ≤ 16000) : -144000 ≤ g * b ∧ g * b ≤ 144000 ∧ (0 < g → 0 < g * b) ∧ (g ≤ 0 → g * b ≤ 0) := by
  rcases mul9 h1 h2 with rfl | rfl | rfl | rfl | rfl | rfl | rfl | rfl | rfl <;> omega
theorem nxV_b {N : Nat → Nat} {R : Nat → Nat → Int32} (hP : WPt N R) (hB : Bd N) (d k : Nat) : -16000 ≤ (nxV N R d k).toInt ∧ (nxV N R d k).toInt ≤ 16000 := by
  have h1 := rsk_le (g := vtF R d (N 17)) hP hB
  have h2 := rsk_le (g := vtF R (d ||| 2 ^ k) (N 17)) hP hB
  unfold nxV
  rw [pk_sub_toInt (by omega) (by omega)]
  omega
theorem nx_yes {N : Nat → Nat} {R : Nat → Nat → Int32} {d k : Nat} {be bg bh : Int32} (hP : WPt N R) (hB : Bd N) (hM : WMe N R) (hk : k < N 17) (hnx : (be, bg) = nxF N R d k) (hc : NxC N R be bg bh) (c1 : d.testBit k = false) (c2 : soB N R (d ||| 2 ^ k) = true) (c3 : ¬ nxV N R d k * bh ≤ bg * R 20 k) : (nI k, nxV N R d k) = nxF N R d (k + 1) ∧ NxC N R (nI k) (nxV N R d k) (R 20 k) := by
  have hv := nxV_b hP hB d k
  have hpos : ¬ nxV N R d k ≤ 0 ∧ ((nxF N R d k).1 = -4 ∨ ¬ nxV N R d k * R 20 (nxF N R d k).1.toNatClampNeg ≤ (nxF N R d k).2 * R 20 k) := by
    rw [← hnx]
    rcases hc with ⟨h1, h2, h3⟩ | ⟨j, hj, h1, h2, h3, h4⟩
    · rw [h2, h3, nI_one, nI_zero, Int32.mul_one, Int32.zero_mul] at c3
      exact ⟨c3, Or.inl h1⟩
    · have b17 := hB.2.2.1
      have hmj := hM j hj
      have hmk := hM k hk
      refine ⟨fun q => c3 ?_, Or.inr (by show ¬ nxV N R d k * R 20 be.toNatClampNeg ≤ bg * R 20 k; rw [h1, nI_clamp (by omega), ← h2]; exact c3)⟩
      have q2 := (fa_le _ _).mp q
      have h9 : (0 : Int32).toInt = 0 := rfl
      rw [h9] at q2
      have hb : bh.toInt = (mh R j : Int) := by rw [h2, hmj.2.2.1]; exact nI_toInt (by have := hmj.2.2.2.1; omega)
      have hh : (R 20 k).toInt = (mh R k : Int) := by rw [hmk.2.2.1]; exact nI_toInt (by have := hmk.2.2.2.1; omega)
      have g1 := mul9b (g := (nxV N R d k).toInt) (b := bh.toInt) (by have := hmj.2.2.2.1; omega) (by have := hmj.2.2.2.1; omega) hv.1 hv.2
      have g2 := mul9b (g := bg.toInt) (b := (R 20 k).toInt) (by have := hmk.2.2.2.1; omega) (by have := hmk.2.2.2.1; omega) (by omega) h4
      rw [fa_le, fb_mulI (by omega) (by omega), fb_mulI (by omega) (by omega)]
      have := g1.2.2.2 q2
      have := g2.2.2.1 h3
      omega
  refine ⟨?_, Or.inr ⟨k, hk, rfl, rfl, ?_, hv.2⟩⟩
  · rw [nxF, if_pos ⟨c1, c2, hpos⟩]
  · rcases Int.lt_or_le 0 (nxV N R d k).toInt with q | q
    · exact q
    · exact absurd ((fa_le _ _).mpr q) hpos.1
theorem nx_no {N : Nat → Nat} {R : Nat → Nat → Int32} {d k : Nat} {be bg bh : Int32} (hnx : (be, bg) = nxF N R d k) (hc : NxC N R be bg bh) (c3 : nxV N R d k * bh ≤ bg * R 20 k) (b17 : N 17 ≤ 8) : (be, bg) = nxF N R d (k + 1) := by
  refine nx_skip hnx (fun h => ?_)
  rw [← hnx] at h
  rcases hc with ⟨h1, h2, h3⟩ | ⟨j, hj, h1, h2, h3, h4⟩
  · rw [h2, h3, nI_one, nI_zero, Int32.mul_one, Int32.zero_mul] at c3
    exact h.2.2.1 c3
  · rcases h.2.2.2 with q | q
    · have q2 : be = -4 := q
      rw [h1] at q2
      have := congrArg Int32.toInt q2
      rw [nI_toInt (by omega)] at this
      have h9 : (-4 : Int32).toInt = -4 := rfl
      omega
    · refine q ?_
      show nxV N R d k * R 20 be.toNatClampNeg ≤ bg * R 20 k
      rw [h1, nI_clamp (by omega), ← h2]
      exact c3
theorem mk_ar (a b c : Int32) : (a - b) + c = (c + a) - b := by
  rw [Int32.sub_eq_add_neg, Int32.sub_eq_add_neg, Int32.add_comm (a + -b) c, Int32.add_assoc]
theorem mk_a {N : Nat → Nat} {R : Nat → Nat → Int32} {j : Nat} (h : (decide (R 21 j < 0) || decide (R 19 (mn R j) ≤ R 1 (mp R (mn R j)))) = false) : mkN N R j = true := by
  rw [Bool.or_eq_false_iff] at h
  unfold mkN
  rw [h.1, decide_eq_true (of_decide_eq_false h.2), Bool.not_false, Bool.and_self, Bool.or_true]
theorem mk_b {N : Nat → Nat} {R : Nat → Nat → Int32} {j : Nat} (h : quF R (vtF R (2 ^ j) (N 17)) (N 24) = true) : mkN N R j = true := by
  unfold mkN
  rw [h, Bool.true_or]
theorem mk_c {N : Nat → Nat} {R : Nat → Nat → Int32} {j : Nat} (h : (decide (R 21 j < 0) || decide (R 19 (mn R j) ≤ R 1 (mp R (mn R j)))) = true) (h2 : quF R (vtF R (2 ^ j) (N 17)) (N 24) = false) : ¬ mkN N R j = true := by
  unfold mkN
  rw [h2, Bool.false_or]
  intro q
  rw [Bool.and_eq_true, Bool.not_eq_true'] at q
  rw [q.1, Bool.false_or] at h
  exact of_decide_eq_true q.2 (of_decide_eq_true h)
theorem make_rel {K K2 : Nat → Nat} {C C2 : Nat → Nat → Int32} {O : Nat → Nat → Option Nat} {L : List Nat} {f : Nat → va_E} {N : Nat → Nat} {R : Nat → Nat → Int32} {j : Nat} (h : RelC K C O L f N R) (hm : mp R j < 8) (e5 : C2 5 = upd (C 5) (mp R j) (if C 5 (mp R j) < R 19 j then R 19 j else C 5 (mp R j))) (e0 : K2 0 = K 0 := by rfl) (e1 : K2 1 = K 1 := by rfl) (e2 : K2 2 = K 2 := by rfl) (e3 : K2 3 = K 3 := by rfl) (e7 : K2 7 = K 7 := by rfl) (e8 : K2 8 = K 8 := by rfl) (e9 : K2 9 = K 9 := by rfl) (e10 : K2 10 = K 10 := by rfl) (c6 : C2 6 = C 6 := by rfl) (c7 : C2 7 = C 7 := by rfl) (c20 : C2 20 = C 20 := by rfl) : RelC K2 C2 O L f N (mkR R j) := by
  obtain ⟨h1, h2, h3, h4, h5⟩ := h
  refine ⟨RelN_cg (R := mkR R j) (C := C) (K := K) h1 e0 e1 e2 c6 c7, ⟨?_, ?_⟩, RelM_cg (R := mkR R j) (K := K) h3 e7 e8, ?_, h5⟩
  · intro p hp
    rw [e5, h2.1 _ hm]
    show upd (C 5) (mp R j) _ p = upd (R 1) (mp R j) (mkV R j) p
    by_cases e : p = mp R j
    · rw [e, pk_us, pk_us]
      unfold mkV
      by_cases q : R 1 (mp R j) < R 19 j
      · rw [if_pos q, if_neg (fa_of_lt q).2.1]
      · rw [if_neg q, if_pos (fa_of_nlt q)]
    · rw [pk_un e, pk_un e]; exact h2.1 p hp
  · rw [e2, e3]; exact h2.2
  · unfold RelP; rw [e9, e10, c20]; exact h4
theorem kd_ne {R : Nat → Nat → Int32} {j n : Nat} (h : R 7 j = nI (kd R j)) (h4 : kd R j ≤ 4) (hn : n < 1000) (hk : ¬ kd R j = n) : ¬ R 7 j = nI n := fun q => hk ((nI_eq (by omega) (by omega)).mp (h.symm.trans q))
theorem wk_b {x : Int32} (h : x = 0 ∨ x = 1) : x = bI (decide (¬ x = 0)) := by
  rcases h with rfl | rfl <;> rfl
theorem wake_rel {K : Nat → Nat} {C : Nat → Nat → Int32} {O : Nat → Nat → Option Nat} {L : List Nat} {f : Nat → va_E} {N : Nat → Nat} {R : Nat → Nat → Int32} {j a : Nat} {v : Int32} (h : RelC K C O L f N R) (hH : WHo N R) (hj : j < N 6) (hk : kd R j = 4) (ho : O 8 j = some a) (hsep : a ∈ L) : RelC K C O L (va_up f a (.inr (1, [.int (R 8 j), .int (R 9 j), .int (R 10 j), .int v]))) N (va_up R 12 (upd (R 12) j v)) := by
  obtain ⟨h1, h2, h3, h4, h5⟩ := h
  have hfa : f a = hcell 4 (R 8 j) (R 9 j) (R 10 j) (nI (ch R j)) (R 8 (ch R j)) (R 12 j) := by
    obtain ⟨b, hb1, hb2, hb3⟩ := h1.2.2.2.2.2 j hj
    rw [ho] at hb1
    cases hb1
    rw [hb3, hk]
  refine ⟨⟨h1.1, h1.2.1, h1.2.2.1, h1.2.2.2.1, h1.2.2.2.2.1, fun z hz => ?_⟩, h2, ⟨h3.1, h3.2.1, fun z hz => ?_, fun z hz => ?_⟩, h4, h5⟩
  · obtain ⟨b, hb1, hb2, hb3⟩ := h1.2.2.2.2.2 z hz
    refine ⟨b, hb1, hb2, ?_⟩
    by_cases e : z = j
    · subst e
      rw [ho] at hb1
      cases hb1
      rw [va_upS]
      show _ = hcell (kd R z) (R 8 z) (R 9 z) (R 10 z) (nI (ch R z)) (R 8 (ch R z)) (upd (R 12) z v z)
      rw [hk, pk_us]
      rfl
    · have hba : b ≠ a := fun q => e (h5 z j hz hj (by rw [hb1, ho, q]))
      rw [va_upN hba, hb3]
      show _ = hcell (kd R z) (R 8 z) (R 9 z) (R 10 z) (nI (ch R z)) (R 8 (ch R z)) (upd (R 12) j v z)
      rw [pk_un e]
  · obtain ⟨b, hb1, hb2, hb3⟩ := h3.2.2.1 z hz
    refine ⟨b, hb1, hb2, ?_⟩
    have hba : b ≠ a := fun q => by rw [q, hfa] at hb3; cases hb3
    rw [va_upN hba]; exact hb3
  · obtain ⟨b, hb1, hb2, hb3⟩ := h3.2.2.2 z hz
    refine ⟨b, hb1, hb2, ?_⟩
    have hba : b ≠ a := fun q => by rw [q, hfa] at hb3; cases hb3
    rw [va_upN hba]; exact hb3
section XP3
variable {α : Type} {p : Program} {l : Launch} {e : Env} {R : Room} {s : State} {m : MethodId} {args : Array Value} {below : List Frame} {meth : Method} {c : Code} {H : Heap} {locs : List Loc} {cells slots mc ms : Nat} {Q : State → Prop}
variable {cc : ByteArray} {nL pc : Nat} {ls : Array Slot} {rest st : List Value} {D : va_G} {cy : Nat → ClassId} {A : Nat → Prop} {own : String}
variable {q : Nat → Nat} {K : Nat → Nat} {C : Nat → Nat → Int32} {O : Nat → Nat → Option Nat} {L : List Nat} {f : Nat → va_E}
/-- a cast to the object's own class -/
theorem cCA {x : Cond} {a idx ci N : Nat} {nm : String} {T : u_T} {fs : List Value} (S : CallFix p m c cc nL s args (x :: uT) own) (hK : KX D cy s) (I : IX D A s.heap (wX cy q K C O L f) H locs) (hc : vwCl[ci]? = some (nm, T, N)) (hw : Cond.classLink own idx nm ∈ uT) (ha : a ∈ L) (hf : f a = .inr (ci, fs)) (hdg : decode cc pc = .ok (.checkcast idx, 3))
    (kk : W p l e R s m args below meth c H locs cells slots Q (F0 m (pc + 3) ls (.ref a :: rest))) : W p l e R s m args below meth c H locs cells slots Q (F0 m pc ls (.ref a :: rest)) := by
  obtain ⟨k0, h0⟩ := va_pl_get (X := wF cy q K C O) (f := f) ha
  rw [hf] at h0
  exact va_castS S.1 S.2.1 S.2.2.2.1 (S.2.2.2.2 _ (List.mem_cons_of_mem _ hw)) (hK.1.1 ci _ hc).2 (va_recv (ci := ci) hK.1 I.1 hc h0) hdg kk
/-- a field of an object of the pool is written -/
theorem spP {x : Cond} {Cn ref : String} {T : u_T} {N ci a idx : Nat} (k : Nat) {fs : List Value} {v : Value} {ty : FieldType} (S : CallFix p m c cc nL s args (x :: uT) own) (hK : KX D cy s) (I : IX D A s.heap (wX cy q K C O L f) H locs) (hcl : ∀ w ∈ u_ws Cn T N, w ∈ uT) (hc : vwCl[ci]? = some (Cn, T, N)) (hw : Cond.fieldLink own idx ref (T k).2.1 (T k).2.2.1 ∈ uT) (hk : k < N) (hs : (T k).1 = ref) {ty0 : Nat → FieldType} (hty : ∀ k, k < N → parseFieldDescriptor (T k).2.2.1 = some (ty0 k)) (hnm : ∀ a, a < N → ∀ b, b < N → a ≠ b → (T a).2.1 ≠ (T b).2.1) (hfin : (T k).2.2.2 = false) (hd : parseFieldDescriptor (T k).2.2.1 = some ty) (hn : narrow ty v = v) (hfit : fits ty v = true) (hl : k < fs.length)
    (ha : a ∈ L) (hf : f a = .inr (ci, fs)) (hdg : decode cc pc = .ok (.putfield idx, 3)) (kk : ∀ (H1 : Heap) (locs1 : List Loc), IX D A s.heap (wX cy q K C O L (va_up f a (.inr (ci, fs.set k v)))) H1 locs1 → W p l e R s m args below meth c H1 locs1 cells slots Q (F0 m (pc + 3) ls rest)) : W p l e R s m args below meth c H locs cells slots Q (F0 m pc ls (v :: .ref a :: rest)) := by
  obtain ⟨k0, h0⟩ := va_pl_get (X := wF cy q K C O) (f := f) ha
  have h1 := h0
  rw [hf] at h1
  refine rp k S hK I hcl hc hw hk hs hty hnm hfin hd hn hfit hl h1 hdg (fun H1 locs1 I1 => kk H1 locs1 ?_)
  have e9 := va_pl_set (e := .inr (ci, fs.set k v)) I.2.1 ha h0
  have I2 : IX D A s.heap ((wF cy q K C O ++ va_pl L f).set k0 (a, .inr (ci, fs.set k v))) H1 locs1 := I1
  rw [e9] at I2
  exact I2
/-- hole.kind() -/
theorem cKI {x : Cond} {a idx k : Nat} {pa lo hi to tp aw : Int32} (S : CallFix p m c cc nL s args (x :: uT) own) (hK : KX D cy s) (hA : ∀ q, s.heap.size ≤ q → A q) (I : IX D A s.heap (wX cy q K C O L f) H locs) (hw : Cond.methodLink own idx yX2_kind ∈ uT) (hk : k ≤ 4) (ha : a ∈ L) (hf : f a = hcell k pa lo hi to tp aw) (hR : 1 ≤ R.frames ∧ 20 ≤ R.locals) (hff : cells ≤ R.cells ∧ slots ≤ R.slots) (hsize : ls.size = nL) (hW : (rest.map fun v => v.category).sum ≤ 8) (hdg : decode cc pc = .ok (.invokevirtual idx, 3))
    (kk : ∀ (H1 : Heap) (locs1 : List Loc), IX D A s.heap (wX cy q K C O L f) H1 locs1 → W p l e R s m args below meth c H1 locs1 cells slots Q (F0 m (pc + 3) ls (.int (nI k) :: rest))) : W p l e R s m args below meth c H locs cells slots Q (F0 m pc ls (.ref a :: rest)) := by
  rcases hk5 hk with rfl | rfl | rfl | rfl | rfl
  · refine cVP (np := 0) (ci := 2) (As := []) (rest := rest) (fs := [.int pa, .int lo, .int hi]) S (x_kind2 l D cy (wX cy q K C O L f) a) hK hA I hw wi_X2_kind ws_X2_X2_kind wn_X2 wk_X2_kind ⟨rfl, hd_X2_kind⟩ rfl ⟨Nat.le_trans (by decide) hR.1, Nat.le_trans (by decide) hR.2⟩ rfl ha hf hsize rfl hW hdg hff (fun v_ u_ H1 locs1 h_ I1 => ?_)
    subst h_
    exact kk H1 locs1 I1
  · refine cU (np := 0) (ci := 0) (As := []) (rest := rest) (fs := [.int pa, .int lo, .int hi, .int to, .int tp]) S (x_kind0 l D cy (wX cy q K C O L f) a) hK hA I (va_cwO (C := RX0) (owner := RX2) (x := yX2_kind) 0 S.2.2.2.2 (gO hw wx_350 wi_X2_kind ws_X0_X2_kind wi_X0_kind wn_X0 wk_X0_kind) rfl rfl rfl (List.mem_cons_of_mem _ wk_X2_kind) hd_X2_kind ⟨Nat.le_trans (by decide) hR.1, Nat.le_trans (by decide) hR.2⟩) rfl rfl ha hf hsize rfl hW hdg hff (fun v_ u_ H1 locs1 h_ I1 => ?_)
    subst h_
    exact kk H1 locs1 I1
  · refine cU (np := 0) (ci := 8) (As := []) (rest := rest) (fs := [.int pa, .int lo, .int hi]) S (x_kind8 l D cy (wX cy q K C O L f) a) hK hA I (va_cwO (C := RX8) (owner := RX2) (x := yX2_kind) 0 S.2.2.2.2 (gO hw wx_350 wi_X2_kind ws_X8_X2_kind wi_X8_kind wn_X8 wk_X8_kind) rfl rfl rfl (List.mem_cons_of_mem _ wk_X2_kind) hd_X2_kind ⟨Nat.le_trans (by decide) hR.1, Nat.le_trans (by decide) hR.2⟩) rfl rfl ha hf hsize rfl hW hdg hff (fun v_ u_ H1 locs1 h_ I1 => ?_)
    subst h_
    exact kk H1 locs1 I1
  · refine cU (np := 0) (ci := 10) (As := []) (rest := rest) (fs := [.int pa, .int lo, .int hi]) S (x_kind10 l D cy (wX cy q K C O L f) a) hK hA I (va_cwO (C := RX10) (owner := RX2) (x := yX2_kind) 0 S.2.2.2.2 (gO hw wx_350 wi_X2_kind ws_X10_X2_kind wi_X10_kind wn_X10 wk_X10_kind) rfl rfl rfl (List.mem_cons_of_mem _ wk_X2_kind) hd_X2_kind ⟨Nat.le_trans (by decide) hR.1, Nat.le_trans (by decide) hR.2⟩) rfl rfl ha hf hsize rfl hW hdg hff (fun v_ u_ H1 locs1 h_ I1 => ?_)
    subst h_
    exact kk H1 locs1 I1
  · refine cU (np := 0) (ci := 1) (As := []) (rest := rest) (fs := [.int pa, .int lo, .int hi, .int aw]) S (x_kind1 l D cy (wX cy q K C O L f) a) hK hA I (va_cwO (C := RX1) (owner := RX2) (x := yX2_kind) 0 S.2.2.2.2 (gO hw wx_350 wi_X2_kind ws_X1_X2_kind wi_X1_kind wn_X1 wk_X1_kind) rfl rfl rfl (List.mem_cons_of_mem _ wk_X2_kind) hd_X2_kind ⟨Nat.le_trans (by decide) hR.1, Nat.le_trans (by decide) hR.2⟩) rfl rfl ha hf hsize rfl hW hdg hff (fun v_ u_ H1 locs1 h_ I1 => ?_)
    subst h_
    exact kk H1 locs1 I1
end XP3
set_option maxHeartbeats 4000000 in
set_option maxRecDepth 100000 in
theorem x_next (l : Launch) (D : va_G) (cy : Nat → ClassId) (q : Nat → Nat) (K : Nat → Nat) (C : Nat → Nat → Int32) (O : Nat → Nat → Option Nat) (L : List Nat) (f : Nat → va_E) (N : Nat → Nat) (R : Nat → Nat → Int32) (x : Int32) (hW : WFm N R) (hrc : RelC K C O L f N R) : MS (α := (Nat → Nat) × (Nat → Nat → Int32) × (Nat → Nat → Option Nat) × List Nat × (Nat → va_E)) l D cy yX11_next cX11_next 9 (Option.some FieldType.int) rm_X11_next [.ref (q 0), .int x] (wX cy q K C O L f) (fun v_ u_ => v_ = some (.int (sp_next N R x)) ∧ RelC u_.1 u_.2.1 u_.2.2.1 u_.2.2.2.1 u_.2.2.2.2 N R) (fun u_ => wX cy q u_.1 u_.2.1 u_.2.2.1 u_.2.2.2.1 u_.2.2.2.2) := by
  refine MS.mk2 (by decide) (Nat.le_of_ble_eq_true rfl) [(0, .ref (q 0)), (1, .int x)] rfl ?_
  intro p e s m args below meth c A ls Q hQ S hr hlk hnm hK hA I hl
  have hW0 := hW
  obtain ⟨hB, hPt, hBo, hH, hM, hQu⟩ := hW0
  have hB0 := hB
  obtain ⟨b0, b6, b17, b24, b30⟩ := hB0
  have hrc0 := hrc
  obtain ⟨hrel, hrg, hrm, hrp, hinj⟩ := hrc0
  have hrel0 := hrel
  obtain ⟨k0, k1, hC6, hK2, hC7, hHol⟩ := hrel0
  have hrm0 := hrm
  obtain ⟨k7, k8, hMe, hQe⟩ := hrm0
  have hrg0 := hrg
  obtain ⟨hC5, hG, hG3, hG2⟩ := hrg0
  have hp2 := pow_256 b17
  obtain ⟨k9, hC20, hK10, hC31⟩ := hrp
  have hgC : ∀ p, p < N 0 → C 5 p = R 1 p := fun p hp => hC5 p (by omega)
  refine lv_aload_n S.1 S.2.1 dX11_next_0 rfl (lv_at hl 0 rfl) ?_
  refine rg (ci := 11) (q0 := 0) (v := .ref (q 3)) 2 S hK I cl_X11 rfl wf_X11_30 (by decide) rfl rfl rfl dX11_next_1 ?_
  refine lv_iload_n S.1 S.2.1 dX11_next_4 rfl (lv_at hl 1 rfl) ?_
  refine cV (np := 1) (ci := 4) (q0 := 3) (As := [.int x]) (rest := []) S (x_isSet l D cy q K C O L f x (by omega)) hK hA I wm_X11_176 wi_X4_isSet ws_X4_X4_isSet wn_X4 wk_X4_isSet ⟨rfl, hd_X4_isSet⟩ rfl ⟨by decide, by decide⟩ rfl rfl hl.1 rfl (Nat.le_of_ble_eq_true rfl) dX11_next_5 ⟨by decide, by decide⟩ (fun v_ u_ H locs h_ I => ?_)
  obtain rfl := h_
  have I : IX D A s.heap (wX cy q K C O L f) H locs := I
  refine W.eq (g2 := F0 m 8 ls [.int (bI (isP (2 ^ (K 7)) x))]) rfl ?_
  refine lv_if_ne (tgt := 13) S.1 S.2.1 dX11_next_8 (by decide) (fun c_8 => ?_) (fun c_8 => ?_)
  · skip
    have c_8 := bI_t c_8
    rw [k7] at c_8
    obtain ⟨d, h_d, rfl⟩ := isP_of c_8 (Nat.lt_of_le_of_lt (pow_256 b17) (by decide))
    have e_d : (nI d).toNatClampNeg = d := nI_clamp (by omega)
    refine lv_aload_n S.1 S.2.1 dX11_next_13 rfl (lv_at hl 0 rfl) ?_
    refine rg (ci := 11) (q0 := 0) (v := .ref (q 3)) 2 S hK I cl_X11 rfl wf_X11_30 (by decide) rfl rfl rfl dX11_next_14 ?_
    refine lv_iload_n S.1 S.2.1 dX11_next_17 rfl (lv_at hl 1 rfl) ?_
    refine cV (np := 1) (ci := 4) (q0 := 3) (As := [.int (nI d)]) (rest := []) S (x_riskAfter l D cy q K C O L f N R d hW hrel hrm hrg) hK hA I wm_X11_179 wi_X4_riskAfter ws_X4_X4_riskAfter wn_X4 wk_X4_riskAfter ⟨rfl, hd_X4_riskAfter⟩ rfl ⟨by decide, by decide⟩ rfl rfl hl.1 rfl (Nat.le_of_ble_eq_true rfl) dX11_next_18 ⟨by decide, by decide⟩ (fun v_ u_ H locs h_ I => ?_)
    obtain rfl := h_
    obtain ⟨v4_18, v5_18, v6_18, v9_18, v10_18, v11_18, v14_18⟩ := u_
    have I : IX D A s.heap (wX cy q (va_up (va_up (va_up K 4 v4_18) 5 v5_18) 6 v6_18) (va_up (va_up (va_up (va_up C 9 v9_18) 10 v10_18) 11 v11_18) 14 v14_18) O L f) H locs := I
    refine W.eq (g2 := F0 m 21 ls [.int (nI (rsk N R (vtF R d (N 17))))]) rfl ?_
    refine lv_istore_n (lv' := [(2, .int (nI (rsk N R (vtF R d (N 17))))), (0, .ref (q 0)), (1, .int (nI d))]) S.1 S.2.1 dX11_next_21 rfl hl (by decide) rfl (fun ls hl => ?_)
    refine lv_bipush (v := (-4)) S.1 S.2.1 dX11_next_22 (by decide) ?_
    refine lv_istore_n (lv' := [(3, .int (-4)), (2, .int (nI (rsk N R (vtF R d (N 17))))), (0, .ref (q 0)), (1, .int (nI d))]) S.1 S.2.1 dX11_next_24 rfl hl (by decide) rfl (fun ls hl => ?_)
    refine lv_iconst (v := nI 0) S.1 S.2.1 dX11_next_25 (by decide) ?_
    refine lv_istore (lv' := [(4, .int (nI 0)), (3, .int (-4)), (2, .int (nI (rsk N R (vtF R d (N 17))))), (0, .ref (q 0)), (1, .int (nI d))]) S.1 S.2.1 dX11_next_26 hl (by decide) rfl (fun ls hl => ?_)
    refine lv_iconst (v := nI 1) S.1 S.2.1 dX11_next_28 (by decide) ?_
    refine lv_istore (lv' := [(5, .int (nI 1)), (4, .int (nI 0)), (3, .int (-4)), (2, .int (nI (rsk N R (vtF R d (N 17))))), (0, .ref (q 0)), (1, .int (nI d))]) S.1 S.2.1 dX11_next_29 hl (by decide) rfl (fun ls hl => ?_)
    refine lv_iconst (v := nI 0) S.1 S.2.1 dX11_next_31 (by decide) ?_
    refine lv_istore (lv' := [(6, .int (nI 0)), (5, .int (nI 1)), (4, .int (nI 0)), (3, .int (-4)), (2, .int (nI (rsk N R (vtF R d (N 17))))), (0, .ref (q 0)), (1, .int (nI d))]) S.1 S.2.1 dX11_next_32 hl (by decide) rfl (fun ls hl => ?_)
    have loop_34 : ∀ (k_ : Nat) (k2 : Nat) (be : Int32) (bg : Int32) (bh : Int32) (z4 : Nat) (z5 : Nat) (z6 : Nat) (z9 : Nat → Int32) (z10 : Nat → Int32) (z11 : Nat → Int32) (z14 : Nat → Int32), N 17 - k2 < k_ → k2 ≤ N 17 → (be, bg) = nxF N R d k2 → NxC N R be bg bh → ∀ (H : Heap) (locs : List Loc) (ls : Array Slot), IX D A s.heap (wX cy q (va_up (va_up (va_up K 4 z4) 5 z5) 6 z6) (va_up (va_up (va_up (va_up C 9 z9) 10 z10) 11 z11) 14 z14) O L f) H locs → lv_has ls 9 [(0, .ref (q 0)), (1, .int (nI d)), (2, .int (nI (rsk N R (vtF R d (N 17))))), (3, .int be), (4, .int bg), (5, .int bh), (6, .int (nI k2))] → W p l e rm_X11_next s m args below meth c H locs 0 0 Q (F0 m 34 ls []) := by
      intro k_
      induction k_ with
      | zero => intro k2 be bg bh z4 z5 z6 z9 z10 z11 z14 hm_; exact absurd hm_ (Nat.not_lt_zero _)
      | succ k_ ih_34 =>
        intro k2 be bg bh z4 z5 z6 z9 z10 z11 z14 hm_ hk2 hnx hcs H locs ls I hl
        refine lv_iload S.1 S.2.1 dX11_next_34 (lv_at hl 6 rfl) ?_
        refine lv_aload_n S.1 S.2.1 dX11_next_36 rfl (lv_at hl 0 rfl) ?_
        refine rg (ci := 11) (q0 := 0) (v := .ref (q 3)) 2 S hK I cl_X11 rfl wf_X11_30 (by decide) rfl rfl rfl dX11_next_37 ?_
        refine rg (ci := 4) (q0 := 3) (v := .int (nI (K 7))) 5 S hK I cl_X4 rfl wf_X11_186 (by decide) rfl rfl rfl dX11_next_40 ?_
        refine lv_icmp_ge (tgt := 145) S.1 S.2.1 dX11_next_43 (by decide) (fun c_43 => ?_) (fun c_43 => ?_)
        · skip
          have c_43o := c_43
          have c_43 := nI_cgeT (by omega) (by omega) c_43
          refine lv_iload_n S.1 S.2.1 dX11_next_145 rfl (lv_at hl 3 rfl) ?_
          exact ru_i hQ S hr hlk (u := ((va_up (va_up (va_up K 4 z4) 5 z5) 6 z6), (va_up (va_up (va_up (va_up C 9 z9) 10 z10) 11 z11) 14 z14), O, L, f)) I (⟨(congrArg (fun z => some (Value.int z)) (by rw [sp_next, if_pos c_8, e_d, show N 17 = k2 by omega, ← hnx])), hrc⟩) dX11_next_146
        · skip
          have c_43o := c_43
          have c_43 := nI_cgeF (by omega) (by omega) c_43
          refine lv_aload_n S.1 S.2.1 dX11_next_46 rfl (lv_at hl 0 rfl) ?_
          refine rg (ci := 11) (q0 := 0) (v := .ref (q 3)) 2 S hK I cl_X11 rfl wf_X11_30 (by decide) rfl rfl rfl dX11_next_47 ?_
          refine lv_iload S.1 S.2.1 dX11_next_50 (lv_at hl 6 rfl) ?_
          obtain ⟨a, ho12, ha, hf⟩ := hMe k2 (by omega)
          refine cV (np := 1) (ci := 4) (q0 := 3) (As := [.int (nI k2)]) (rest := []) S (x_mendAt l D cy q (va_up (va_up (va_up K 4 z4) 5 z5) 6 z6) (va_up (va_up (va_up (va_up C 9 z9) 10 z10) 11 z11) 14 z14) O L f (nI k2) (show K 7 ≤ 8 by omega)) hK hA I wm_X11_154 wi_X4_mendAt ws_X4_X4_mendAt wn_X4 wk_X4_mendAt ⟨rfl, hd_X4_mendAt⟩ rfl ⟨by decide, by decide⟩ rfl rfl hl.1 rfl (Nat.le_of_ble_eq_true rfl) dX11_next_52 ⟨by decide, by decide⟩ (fun v_ u_ H locs h_ I => ?_)
          obtain rfl := h_
          have I : IX D A s.heap (wX cy q (va_up (va_up (va_up K 4 z4) 5 z5) 6 z6) (va_up (va_up (va_up (va_up C 9 z9) 10 z10) 11 z11) 14 z14) O L f) H locs := I
          refine W.eq (g2 := F0 m 55 ls (va_rf (if isP (K 7) (nI k2) = true then O 12 (nI k2).toNatClampNeg else none) :: [])) rfl ?_
          refine tV (y := .ref a) (mat_some (K := (va_up (va_up (va_up K 4 z4) 5 z5) 6 z6)) (O := O) rfl (show k2 < K 7 by omega) (show K 7 ≤ 8 by omega) ho12) ?_
          refine lv_astore (lv' := [(7, .ref a), (0, .ref (q 0)), (1, .int (nI d)), (2, .int (nI (rsk N R (vtF R d (N 17))))), (3, .int be), (4, .int bg), (5, .int bh), (6, .int (nI k2))]) S.1 S.2.1 dX11_next_55 hl (by decide) rfl (fun ls hl => ?_)
          refine lv_aload S.1 S.2.1 dX11_next_57 (lv_at hl 0 rfl) ?_
          refine lv_ifnull S.1 S.2.1 dX11_next_59 ?_
          refine lv_iload_n S.1 S.2.1 dX11_next_62 rfl (lv_at hl 2 rfl) ?_
          refine lv_iload S.1 S.2.1 dX11_next_63 (lv_at hl 7 rfl) ?_
          refine cS (np := 2) (As := [.int (nI d), .int (nI k2)]) (rest := []) S (x_isIn l D cy (wX cy q (va_up (va_up (va_up K 4 z4) 5 z5) 6 z6) (va_up (va_up (va_up (va_up C 9 z9) 10 z10) 11 z11) 14 z14) O L f) d k2 (by omega)) hK hA I wm_X11_65 wt_X11_isIn wn_X11 wk_X11_isIn ⟨rfl, hd_X11_isIn⟩ rfl ⟨by decide, by decide⟩ hl.1 rfl (Nat.le_of_ble_eq_true rfl) dX11_next_65 ⟨by decide, by decide⟩ (fun v_ u_ H locs h_ I => ?_)
          obtain rfl := h_
          have I : IX D A s.heap (wX cy q (va_up (va_up (va_up K 4 z4) 5 z5) 6 z6) (va_up (va_up (va_up (va_up C 9 z9) 10 z10) 11 z11) 14 z14) O L f) H locs := I
          refine W.eq (g2 := F0 m 68 ls [.int (bI (d.testBit k2))]) rfl ?_
          refine lv_if_ne (tgt := 139) S.1 S.2.1 dX11_next_68 (by decide) (fun c_68 => ?_) (fun c_68 => ?_)
          · skip
            have c_68 := bI_t c_68
            refine lv_iinc (v := nI (k2 + 1)) (lv' := [(6, .int (nI (k2 + 1))), (7, .ref a), (0, .ref (q 0)), (1, .int (nI d)), (2, .int (nI (rsk N R (vtF R d (N 17))))), (3, .int be), (4, .int bg), (5, .int bh)]) S.1 S.2.1 dX11_next_139 hl (k := 7) rfl (nI_1 _) (by decide) rfl (fun ls hl => ?_)
            refine lv_goto (tgt := 34) S.1 S.2.1 dX11_next_142 (by decide) ?_
            exact ih_34 (k2 + 1) be bg bh z4 z5 z6 z9 z10 z11 z14 (by omega) (by omega) (nx_skip hnx (fun h => by rw [c_68] at h; exact Bool.false_ne_true h.1.symm)) hcs _ _ _ I (lv_sub hl [2, 3, 4, 5, 6, 7, 0] rfl)
          · skip
            have c_68 := bI_f c_68
            refine lv_aload_n S.1 S.2.1 dX11_next_71 rfl (lv_at hl 1 rfl) ?_
            refine rg (ci := 11) (q0 := 0) (v := .ref (q 3)) 2 S hK I cl_X11 rfl wf_X11_30 (by decide) rfl rfl rfl dX11_next_72 ?_
            refine lv_iload_n S.1 S.2.1 dX11_next_75 rfl (lv_at hl 2 rfl) ?_
            refine lv_iload S.1 S.2.1 dX11_next_76 (lv_at hl 7 rfl) ?_
            refine cS (np := 1) (As := [.int (nI k2)]) (rest := [.int (nI d), .ref (q 3)]) S (x_bit l D cy (wX cy q (va_up (va_up (va_up K 4 z4) 5 z5) 6 z6) (va_up (va_up (va_up (va_up C 9 z9) 10 z10) 11 z11) 14 z14) O L f) k2 (by omega)) hK hA I wm_X11_146 wt_X11_bit wn_X11 wk_X11_bit ⟨rfl, hd_X11_bit⟩ rfl ⟨by decide, by decide⟩ hl.1 rfl (Nat.le_of_ble_eq_true rfl) dX11_next_78 ⟨by decide, by decide⟩ (fun v_ u_ H locs h_ I => ?_)
            obtain rfl := h_
            have I : IX D A s.heap (wX cy q (va_up (va_up (va_up K 4 z4) 5 z5) 6 z6) (va_up (va_up (va_up (va_up C 9 z9) 10 z10) 11 z11) 14 z14) O L f) H locs := I
            refine W.eq (g2 := F0 m 81 ls [.int (nI (2 ^ k2)), .int (nI d), .ref (q 3)]) rfl ?_
            refine lv_ior S.1 S.2.1 dX11_next_81 ?_
            refine tI (y := nI (d ||| (2 ^ k2))) (fa_or _ _) ?_
            refine cV (np := 1) (ci := 4) (q0 := 3) (As := [.int (nI (d ||| (2 ^ k2)))]) (rest := []) S (x_isSound l D cy q (va_up (va_up (va_up K 4 z4) 5 z5) 6 z6) (va_up (va_up (va_up (va_up C 9 z9) 10 z10) 11 z11) 14 z14) O L f N R (d ||| (2 ^ k2)) hW hrm hC5) hK hA I wm_X11_182 wi_X4_isSound ws_X4_X4_isSound wn_X4 wk_X4_isSound ⟨rfl, hd_X4_isSound⟩ rfl ⟨by decide, by decide⟩ rfl rfl hl.1 rfl (Nat.le_of_ble_eq_true rfl) dX11_next_82 ⟨by decide, by decide⟩ (fun v_ u_ H locs h_ I => ?_)
            obtain rfl := h_
            generalize u_ = f14_82 at I
            have I : IX D A s.heap (wX cy q (va_up (va_up (va_up K 4 z4) 5 z5) 6 z6) (va_up (va_up (va_up (va_up C 9 z9) 10 z10) 11 z11) 14 f14_82) O L f) H locs := I
            refine W.eq (g2 := F0 m 85 ls [.int (bI (soB N R (d ||| (2 ^ k2))))]) rfl ?_
            refine lv_if_ne (tgt := 91) S.1 S.2.1 dX11_next_85 (by decide) (fun c_85 => ?_) (fun c_85 => ?_)
            · skip
              have c_85 := bI_t c_85
              refine lv_iload_n S.1 S.2.1 dX11_next_91 rfl (lv_at hl 3 rfl) ?_
              refine lv_aload_n S.1 S.2.1 dX11_next_92 rfl (lv_at hl 1 rfl) ?_
              refine rg (ci := 11) (q0 := 0) (v := .ref (q 3)) 2 S hK I cl_X11 rfl wf_X11_30 (by decide) rfl rfl rfl dX11_next_93 ?_
              refine lv_iload_n S.1 S.2.1 dX11_next_96 rfl (lv_at hl 2 rfl) ?_
              refine lv_iload S.1 S.2.1 dX11_next_97 (lv_at hl 7 rfl) ?_
              refine cS (np := 1) (As := [.int (nI k2)]) (rest := [.int (nI d), .ref (q 3), .int (nI (rsk N R (vtF R d (N 17))))]) S (x_bit l D cy (wX cy q (va_up (va_up (va_up K 4 z4) 5 z5) 6 z6) (va_up (va_up (va_up (va_up C 9 z9) 10 z10) 11 z11) 14 f14_82) O L f) k2 (by omega)) hK hA I wm_X11_146 wt_X11_bit wn_X11 wk_X11_bit ⟨rfl, hd_X11_bit⟩ rfl ⟨by decide, by decide⟩ hl.1 rfl (Nat.le_of_ble_eq_true rfl) dX11_next_99 ⟨by decide, by decide⟩ (fun v_ u_ H locs h_ I => ?_)
              obtain rfl := h_
              have I : IX D A s.heap (wX cy q (va_up (va_up (va_up K 4 z4) 5 z5) 6 z6) (va_up (va_up (va_up (va_up C 9 z9) 10 z10) 11 z11) 14 f14_82) O L f) H locs := I
              refine W.eq (g2 := F0 m 102 ls [.int (nI (2 ^ k2)), .int (nI d), .ref (q 3), .int (nI (rsk N R (vtF R d (N 17))))]) rfl ?_
              refine lv_ior S.1 S.2.1 dX11_next_102 ?_
              refine tI (y := nI (d ||| (2 ^ k2))) (fa_or _ _) ?_
              refine cV (np := 1) (ci := 4) (q0 := 3) (As := [.int (nI (d ||| (2 ^ k2)))]) (rest := [.int (nI (rsk N R (vtF R d (N 17))))]) S (x_riskAfter l D cy q (va_up (va_up (va_up K 4 z4) 5 z5) 6 z6) (va_up (va_up (va_up (va_up C 9 z9) 10 z10) 11 z11) 14 f14_82) O L f N R (d ||| (2 ^ k2)) hW hrel hrm hrg) hK hA I wm_X11_179 wi_X4_riskAfter ws_X4_X4_riskAfter wn_X4 wk_X4_riskAfter ⟨rfl, hd_X4_riskAfter⟩ rfl ⟨by decide, by decide⟩ rfl rfl hl.1 rfl (Nat.le_of_ble_eq_true rfl) dX11_next_103 ⟨by decide, by decide⟩ (fun v_ u_ H locs h_ I => ?_)
              obtain rfl := h_
              obtain ⟨v4_103, v5_103, v6_103, v9_103, v10_103, v11_103, v14_103⟩ := u_
              have I : IX D A s.heap (wX cy q (va_up (va_up (va_up K 4 v4_103) 5 v5_103) 6 v6_103) (va_up (va_up (va_up (va_up C 9 v9_103) 10 v10_103) 11 v11_103) 14 v14_103) O L f) H locs := I
              refine W.eq (g2 := F0 m 106 ls [.int (nI (rsk N R (vtF R (d ||| (2 ^ k2)) (N 17)))), .int (nI (rsk N R (vtF R d (N 17))))]) rfl ?_
              refine lv_isub S.1 S.2.1 dX11_next_106 ?_
              refine tI (y := nxV N R d k2) rfl ?_
              refine lv_istore (lv' := [(8, .int (nxV N R d k2)), (7, .ref a), (0, .ref (q 0)), (1, .int (nI d)), (2, .int (nI (rsk N R (vtF R d (N 17))))), (3, .int be), (4, .int bg), (5, .int bh), (6, .int (nI k2))]) S.1 S.2.1 dX11_next_107 hl (by decide) rfl (fun ls hl => ?_)
              refine lv_iload S.1 S.2.1 dX11_next_109 (lv_at hl 0 rfl) ?_
              refine lv_iload S.1 S.2.1 dX11_next_111 (lv_at hl 7 rfl) ?_
              refine lv_imul S.1 S.2.1 dX11_next_113 ?_
              refine lv_iload S.1 S.2.1 dX11_next_114 (lv_at hl 6 rfl) ?_
              refine lv_aload S.1 S.2.1 dX11_next_116 (lv_at hl 1 rfl) ?_
              refine rgP (ci := 3) (T := TX3) (fs := [.int (R 18 k2), .int (R 19 k2), .int (R 20 k2), .int (R 21 k2), .int (R 22 k2), .int (R 23 k2)]) 2 S hK I cl_X3 rfl wf_X11_189 (by decide) rfl ha hf rfl dX11_next_118 ?_
              refine lv_imul S.1 S.2.1 dX11_next_121 ?_
              refine lv_icmp_le (tgt := 139) S.1 S.2.1 dX11_next_122 (by decide) (fun c_122 => ?_) (fun c_122 => ?_)
              · skip
                refine lv_iinc (v := nI (k2 + 1)) (lv' := [(6, .int (nI (k2 + 1))), (8, .int (nxV N R d k2)), (7, .ref a), (0, .ref (q 0)), (1, .int (nI d)), (2, .int (nI (rsk N R (vtF R d (N 17))))), (3, .int be), (4, .int bg), (5, .int bh)]) S.1 S.2.1 dX11_next_139 hl (k := 8) rfl (nI_1 _) (by decide) rfl (fun ls hl => ?_)
                refine lv_goto (tgt := 34) S.1 S.2.1 dX11_next_142 (by decide) ?_
                exact ih_34 (k2 + 1) be bg bh v4_103 v5_103 v6_103 v9_103 v10_103 v11_103 v14_103 (by omega) (by omega) (nx_no hnx hcs c_122 b17) hcs _ _ _ I (lv_sub hl [3, 4, 5, 6, 7, 8, 0] rfl)
              · skip
                refine lv_iload S.1 S.2.1 dX11_next_125 (lv_at hl 8 rfl) ?_
                refine lv_istore_n (lv' := [(3, .int (nI k2)), (8, .int (nxV N R d k2)), (7, .ref a), (0, .ref (q 0)), (1, .int (nI d)), (2, .int (nI (rsk N R (vtF R d (N 17))))), (4, .int bg), (5, .int bh), (6, .int (nI k2))]) S.1 S.2.1 dX11_next_127 rfl hl (by decide) rfl (fun ls hl => ?_)
                refine lv_iload S.1 S.2.1 dX11_next_128 (lv_at hl 1 rfl) ?_
                refine lv_istore (lv' := [(4, .int (nxV N R d k2)), (3, .int (nI k2)), (8, .int (nxV N R d k2)), (7, .ref a), (0, .ref (q 0)), (1, .int (nI d)), (2, .int (nI (rsk N R (vtF R d (N 17))))), (5, .int bh), (6, .int (nI k2))]) S.1 S.2.1 dX11_next_130 hl (by decide) rfl (fun ls hl => ?_)
                refine lv_aload S.1 S.2.1 dX11_next_132 (lv_at hl 3 rfl) ?_
                refine rgP (ci := 3) (T := TX3) (fs := [.int (R 18 k2), .int (R 19 k2), .int (R 20 k2), .int (R 21 k2), .int (R 22 k2), .int (R 23 k2)]) 2 S hK I cl_X3 rfl wf_X11_189 (by decide) rfl ha hf rfl dX11_next_134 ?_
                refine lv_istore (lv' := [(5, .int (R 20 k2)), (4, .int (nxV N R d k2)), (3, .int (nI k2)), (8, .int (nxV N R d k2)), (7, .ref a), (0, .ref (q 0)), (1, .int (nI d)), (2, .int (nI (rsk N R (vtF R d (N 17))))), (6, .int (nI k2))]) S.1 S.2.1 dX11_next_137 hl (by decide) rfl (fun ls hl => ?_)
                refine lv_iinc (v := nI (k2 + 1)) (lv' := [(6, .int (nI (k2 + 1))), (5, .int (R 20 k2)), (4, .int (nxV N R d k2)), (3, .int (nI k2)), (8, .int (nxV N R d k2)), (7, .ref a), (0, .ref (q 0)), (1, .int (nI d)), (2, .int (nI (rsk N R (vtF R d (N 17)))))]) S.1 S.2.1 dX11_next_139 hl (k := 8) rfl (nI_1 _) (by decide) rfl (fun ls hl => ?_)
                refine lv_goto (tgt := 34) S.1 S.2.1 dX11_next_142 (by decide) ?_
                exact ih_34 (k2 + 1) (nI k2) (nxV N R d k2) (R 20 k2) v4_103 v5_103 v6_103 v9_103 v10_103 v11_103 v14_103 (by omega) (by omega) ((nx_yes hPt hB hM (by omega) hnx hcs c_68 c_85 c_122).1) ((nx_yes hPt hB hM (by omega) hnx hcs c_68 c_85 c_122).2) _ _ _ I (lv_sub hl [6, 7, 8, 3, 2, 1, 0] rfl)
            · skip
              have c_85 := bI_f c_85
              refine lv_goto (tgt := 139) S.1 S.2.1 dX11_next_88 (by decide) ?_
              refine lv_iinc (v := nI (k2 + 1)) (lv' := [(6, .int (nI (k2 + 1))), (7, .ref a), (0, .ref (q 0)), (1, .int (nI d)), (2, .int (nI (rsk N R (vtF R d (N 17))))), (3, .int be), (4, .int bg), (5, .int bh)]) S.1 S.2.1 dX11_next_139 hl (k := 7) rfl (nI_1 _) (by decide) rfl (fun ls hl => ?_)
              refine lv_goto (tgt := 34) S.1 S.2.1 dX11_next_142 (by decide) ?_
              exact ih_34 (k2 + 1) be bg bh z4 z5 z6 z9 z10 z11 f14_82 (by omega) (by omega) (nx_skip hnx (fun h => by rw [c_85] at h; exact Bool.false_ne_true h.2.1)) hcs _ _ _ I (lv_sub hl [2, 3, 4, 5, 6, 7, 0] rfl)
    exact loop_34 _ 0 (-4) (nI 0) (nI 1) v4_18 v5_18 v6_18 v9_18 v10_18 v11_18 v14_18 (Nat.lt_succ_self _) (Nat.zero_le _) rfl (Or.inl ⟨rfl, rfl, rfl⟩) _ _ _ I (lv_sub hl [5, 6, 4, 3, 2, 1, 0] rfl)
  · skip
    have c_8 := bI_f c_8
    rw [k7] at c_8
    refine lv_iconst (v := (-1)) S.1 S.2.1 dX11_next_11 (by decide) ?_
    exact ru_i hQ S hr hlk (u := (K, C, O, L, f)) I (⟨(congrArg (fun z => some (Value.int z)) (by simp [sp_next, c_8])), hrc⟩) dX11_next_12
set_option maxHeartbeats 4000000 in
set_option maxRecDepth 100000 in
theorem x_make (l : Launch) (D : va_G) (cy : Nat → ClassId) (q : Nat → Nat) (K : Nat → Nat) (C : Nat → Nat → Int32) (O : Nat → Nat → Option Nat) (L : List Nat) (f : Nat → va_E) (N : Nat → Nat) (R : Nat → Nat → Int32) (x : Int32) (hW : WFm N R) (hrc : RelC K C O L f N R) : MS (α := (Nat → Nat) × (Nat → Nat → Int32) × (Nat → Nat → Option Nat) × List Nat × (Nat → va_E)) l D cy yX11_make cX11_make 4 (Option.some FieldType.int) rm_X11_make [.ref (q 0), .int x] (wX cy q K C O L f) (fun v_ u_ => v_ = some (.int (sp_make N R x).1) ∧ RelC u_.1 u_.2.1 u_.2.2.1 u_.2.2.2.1 u_.2.2.2.2 (sp_make N R x).2.1 (sp_make N R x).2.2) (fun u_ => wX cy q u_.1 u_.2.1 u_.2.2.1 u_.2.2.2.1 u_.2.2.2.2) := by
  refine MS.mk2 (by decide) (Nat.le_of_ble_eq_true rfl) [(0, .ref (q 0)), (1, .int x)] rfl ?_
  intro p e s m args below meth c A ls Q hQ S hr hlk hnm hK hA I hl
  have hW0 := hW
  obtain ⟨hB, hPt, hBo, hH, hM, hQu⟩ := hW0
  have hB0 := hB
  obtain ⟨b0, b6, b17, b24, b30⟩ := hB0
  have hrc0 := hrc
  obtain ⟨hrel, hrg, hrm, hrp, hinj⟩ := hrc0
  have hrel0 := hrel
  obtain ⟨k0, k1, hC6, hK2, hC7, hHol⟩ := hrel0
  have hrm0 := hrm
  obtain ⟨k7, k8, hMe, hQe⟩ := hrm0
  have hrg0 := hrg
  obtain ⟨hC5, hG, hG3, hG2⟩ := hrg0
  have hp2 := pow_256 b17
  obtain ⟨k9, hC20, hK10, hC31⟩ := hrp
  have hgC : ∀ p, p < N 0 → C 5 p = R 1 p := fun p hp => hC5 p (by omega)
  refine lv_aload_n S.1 S.2.1 dX11_make_0 rfl (lv_at hl 0 rfl) ?_
  refine rg (ci := 11) (q0 := 0) (v := .ref (q 3)) 2 S hK I cl_X11 rfl wf_X11_30 (by decide) rfl rfl rfl dX11_make_1 ?_
  refine lv_iload_n S.1 S.2.1 dX11_make_4 rfl (lv_at hl 1 rfl) ?_
  refine cV (np := 1) (ci := 4) (q0 := 3) (As := [.int x]) (rest := []) S (x_mendAt l D cy q K C O L f x (by omega)) hK hA I wm_X11_154 wi_X4_mendAt ws_X4_X4_mendAt wn_X4 wk_X4_mendAt ⟨rfl, hd_X4_mendAt⟩ rfl ⟨by decide, by decide⟩ rfl rfl hl.1 rfl (Nat.le_of_ble_eq_true rfl) dX11_make_5 ⟨by decide, by decide⟩ (fun v_ u_ H locs h_ I => ?_)
  obtain rfl := h_
  have I : IX D A s.heap (wX cy q K C O L f) H locs := I
  refine W.eq (g2 := F0 m 8 ls (va_rf (if isP (K 7) x = true then O 12 (x).toNatClampNeg else none) :: [])) rfl ?_
  by_cases hP : isP (N 17) x = true
  · skip
    obtain ⟨j, h_j, rfl⟩ := isP_of hP (by omega)
    have e_j : (nI j).toNatClampNeg = j := nI_clamp (by omega)
    obtain ⟨a, ho12, ha, hf⟩ := hMe j h_j
    refine tV (y := .ref a) (mat_some rfl (by omega) (by omega) ho12) ?_
    refine lv_astore_n (lv' := [(2, .ref a), (0, .ref (q 0)), (1, .int (nI j))]) S.1 S.2.1 dX11_make_8 rfl hl (by decide) rfl (fun ls hl => ?_)
    refine lv_aload_n S.1 S.2.1 dX11_make_9 rfl (lv_at hl 0 rfl) ?_
    refine lv_ifnonnull (tgt := 15) S.1 S.2.1 dX11_make_10 (by decide) ?_
    refine lv_aload_n S.1 S.2.1 dX11_make_15 rfl (lv_at hl 1 rfl) ?_
    refine rg (ci := 11) (q0 := 0) (v := .ref (q 3)) 2 S hK I cl_X11 rfl wf_X11_30 (by decide) rfl rfl rfl dX11_make_16 ?_
    refine lv_aload_n S.1 S.2.1 dX11_make_19 rfl (lv_at hl 0 rfl) ?_
    refine cV (np := 1) (ci := 4) (q0 := 3) (As := [.ref a]) (rest := []) S (x_needIsMet l D cy q K C O L f N R a j hW h_j hrm hC5 ha hf) hK hA I wm_X11_215 wi_X4_needIsMet ws_X4_X4_needIsMet wn_X4 wk_X4_needIsMet ⟨rfl, hd_X4_needIsMet⟩ rfl ⟨by decide, by decide⟩ rfl rfl hl.1 rfl (Nat.le_of_ble_eq_true rfl) dX11_make_20 ⟨by decide, by decide⟩ (fun v_ u_ H locs h_ I => ?_)
    obtain rfl := h_
    have I : IX D A s.heap (wX cy q K C O L f) H locs := I
    refine W.eq (g2 := F0 m 23 ls [.int (bI (decide (R 21 j < 0) || decide (R 19 (mn R j) ≤ R 1 (mp R (mn R j)))))]) rfl ?_
    refine lv_if_eq (tgt := 40) S.1 S.2.1 dX11_make_23 (by decide) (fun c_23 => ?_) (fun c_23 => ?_)
    · skip
      have c_23 := bI_f c_23
      refine lv_bipush (v := (-2)) S.1 S.2.1 dX11_make_40 (by decide) ?_
      exact ru_i hQ S hr hlk (u := (K, C, O, L, f)) I (by rw [sp_make, if_pos hP, e_j, if_pos (mk_a c_23)]; exact ⟨rfl, hrc⟩) dX11_make_42
    · skip
      have c_23 := bI_t c_23
      refine lv_aload_n S.1 S.2.1 dX11_make_26 rfl (lv_at hl 1 rfl) ?_
      refine rg (ci := 11) (q0 := 0) (v := .ref (q 3)) 2 S hK I cl_X11 rfl wf_X11_30 (by decide) rfl rfl rfl dX11_make_27 ?_
      refine lv_iload_n S.1 S.2.1 dX11_make_30 rfl (lv_at hl 2 rfl) ?_
      refine cS (np := 1) (As := [.int (nI j)]) (rest := [.ref (q 3)]) S (x_bit l D cy (wX cy q K C O L f) j (by omega)) hK hA I wm_X11_146 wt_X11_bit wn_X11 wk_X11_bit ⟨rfl, hd_X11_bit⟩ rfl ⟨by decide, by decide⟩ hl.1 rfl (Nat.le_of_ble_eq_true rfl) dX11_make_31 ⟨by decide, by decide⟩ (fun v_ u_ H locs h_ I => ?_)
      obtain rfl := h_
      have I : IX D A s.heap (wX cy q K C O L f) H locs := I
      refine W.eq (g2 := F0 m 34 ls [.int (nI (2 ^ j)), .ref (q 3)]) rfl ?_
      refine cV (np := 1) (ci := 4) (q0 := 3) (As := [.int (nI (2 ^ j))]) (rest := []) S (x_quarrelHolds l D cy q K C O L f N R (2 ^ j) hW hrm hC5) hK hA I wm_X11_219 wi_X4_quarrelHolds ws_X4_X4_quarrelHolds wn_X4 wk_X4_quarrelHolds ⟨rfl, hd_X4_quarrelHolds⟩ rfl ⟨by decide, by decide⟩ rfl rfl hl.1 rfl (Nat.le_of_ble_eq_true rfl) dX11_make_34 ⟨by decide, by decide⟩ (fun v_ u_ H locs h_ I => ?_)
      obtain rfl := h_
      generalize u_ = f14_34 at I
      have I : IX D A s.heap (wX cy q K (va_up C 14 f14_34) O L f) H locs := I
      refine W.eq (g2 := F0 m 37 ls [.int (bI (quF R (vtF R (2 ^ j) (N 17)) (N 24)))]) rfl ?_
      refine lv_if_eq (tgt := 43) S.1 S.2.1 dX11_make_37 (by decide) (fun c_37 => ?_) (fun c_37 => ?_)
      · skip
        have c_37 := bI_f c_37
        refine lv_aload_n S.1 S.2.1 dX11_make_43 rfl (lv_at hl 1 rfl) ?_
        refine cV (np := 0) (ci := 11) (q0 := 0) (As := []) (rest := []) S (x_spreadNow l D cy q K (va_up C 14 f14_34) O L f N R hW hrc) hK hA I wm_X11_128 wi_X11_spreadNow ws_X11_X11_spreadNow wn_X11 wk_X11_spreadNow ⟨rfl, hd_X11_spreadNow⟩ rfl ⟨by decide, by decide⟩ rfl rfl hl.1 rfl (Nat.le_of_ble_eq_true rfl) dX11_make_44 ⟨by decide, by decide⟩ (fun v_ u_ H locs h_ I => ?_)
        obtain ⟨rfl, hu4_44, hu5_44, hu5l_44, hur_44⟩ := h_
        obtain ⟨u4_44, u5_44, u6_44, u9_44, u10_44, u11_44⟩ := u_
        have hu4_44 : u4_44 = msk (stB R (R 1)) (N 6) := hu4_44
        have hu5_44 : ∀ z, z < 8 → (u5_44).testBit z = (decide (z < N 0) && tkN (eS N R (R 1)) z) := hu5_44
        have hu5l_44 : u5_44 < 256 := hu5l_44
        have hur_44 : RowC N R (R 1) (eS N R (R 1)) u9_44 u10_44 u11_44 := hur_44
        have I : IX D A s.heap (wX cy q (va_up (va_up (va_up K 4 u4_44) 5 u5_44) 6 u6_44) (va_up (va_up (va_up (va_up C 9 u9_44) 10 u10_44) 11 u11_44) 14 f14_34) O L f) H locs := I
        refine W.eq (g2 := F0 m 47 ls [.int (nI (rsk N R (R 1)))]) rfl ?_
        refine lv_istore_n (lv' := [(3, .int (nI (rsk N R (R 1)))), (2, .ref a), (0, .ref (q 0)), (1, .int (nI j))]) S.1 S.2.1 dX11_make_47 rfl hl (by decide) rfl (fun ls hl => ?_)
        refine lv_aload_n S.1 S.2.1 dX11_make_48 rfl (lv_at hl 2 rfl) ?_
        refine rg (ci := 11) (q0 := 0) (v := .ref (q 1)) 0 S hK I cl_X11 rfl wf_X11_12 (by decide) rfl rfl rfl dX11_make_49 ?_
        refine rg (ci := 5) (q0 := 1) (v := .ref (q 5)) 0 S hK I cl_X5 rfl wf_X11_77 (by decide) rfl rfl rfl dX11_make_52 ?_
        have hmp := (hM j h_j).2.1
        refine lv_aload_n S.1 S.2.1 dX11_make_55 rfl (lv_at hl 1 rfl) ?_
        refine rgP (ci := 3) (T := TX3) (fs := [.int (R 18 j), .int (R 19 j), .int (R 20 j), .int (R 21 j), .int (R 22 j), .int (R 23 j)]) 0 S hK I cl_X3 rfl wf_X11_222 (by decide) rfl ha hf rfl dX11_make_56 ?_
        refine tI (y := nI (mp R j)) ((hM j h_j).1) ?_
        refine lv_aload_n S.1 S.2.1 dX11_make_59 rfl (lv_at hl 2 rfl) ?_
        refine rg (ci := 11) (q0 := 0) (v := .ref (q 1)) 0 S hK I cl_X11 rfl wf_X11_12 (by decide) rfl rfl rfl dX11_make_60 ?_
        refine rg (ci := 5) (q0 := 1) (v := .ref (q 5)) 0 S hK I cl_X5 rfl wf_X11_77 (by decide) rfl rfl rfl dX11_make_63 ?_
        refine lv_aload_n S.1 S.2.1 dX11_make_66 rfl (lv_at hl 1 rfl) ?_
        refine rgP (ci := 3) (T := TX3) (fs := [.int (R 18 j), .int (R 19 j), .int (R 20 j), .int (R 21 j), .int (R 22 j), .int (R 23 j)]) 0 S hK I cl_X3 rfl wf_X11_222 (by decide) rfl ha hf rfl dX11_make_67 ?_
        refine tI (y := nI (mp R j)) ((hM j h_j).1) ?_
        refine ri (q0 := 5) (n := 8) (f := C 5) (mp R j) S hK I rfl rfl (by omega) (by decide) dX11_make_70 ?_
        refine lv_aload_n S.1 S.2.1 dX11_make_71 rfl (lv_at hl 1 rfl) ?_
        refine rgP (ci := 3) (T := TX3) (fs := [.int (R 18 j), .int (R 19 j), .int (R 20 j), .int (R 21 j), .int (R 22 j), .int (R 23 j)]) 1 S hK I cl_X3 rfl wf_X11_223 (by decide) rfl ha hf rfl dX11_make_72 ?_
        refine va_mmax (rest := [.int (nI (mp R j)), .ref (q 5)]) S.1 S.2.1 (S.2.2.1.trans hl.1.symm) S.2.2.2.1 (S.2.2.2.2 _ (List.mem_cons_of_mem _ wm_X11_226)) (S.2.2.2.2 _ (List.mem_cons_of_mem _ wt_J9_max_7cf53)) (S.2.2.2.2 _ (List.mem_cons_of_mem _ wn_J9)) (S.2.2.2.2 _ (List.mem_cons_of_mem _ wk_J9_max_7cf53)) (by decide) (Nat.le_of_ble_eq_true rfl) (by decide) (by decide) dX11_make_75 ?_
        refine W.eq (g2 := F0 m 78 ls [.int (if C 5 (mp R j) < R 19 j then R 19 j else C 5 (mp R j)), .int (nI (mp R j)), .ref (q 5)]) rfl ?_
        refine si (q0 := 5) (n := 8) (f := C 5) (mp R j) S hK I rfl rfl (by omega) (by decide) dX11_make_78 (fun H locs I => ?_)
        have I : IX D A s.heap (wX cy q (va_up (va_up (va_up K 4 u4_44) 5 u5_44) 6 u6_44) (va_up (va_up (va_up (va_up (va_up C 5 (upd (C 5) (mp R j) (if C 5 (mp R j) < R 19 j then R 19 j else C 5 (mp R j)))) 9 u9_44) 10 u10_44) 11 u11_44) 14 f14_34) O L f) H locs := I
        have hrc9 : RelC (va_up (va_up (va_up K 4 u4_44) 5 u5_44) 6 u6_44) (va_up (va_up (va_up (va_up (va_up C 5 (upd (C 5) (mp R j) (if C 5 (mp R j) < R 19 j then R 19 j else C 5 (mp R j)))) 9 u9_44) 10 u10_44) 11 u11_44) 14 f14_34) O L f N (mkR R j) := make_rel hrc (by omega) rfl
        refine lv_iload_n S.1 S.2.1 dX11_make_79 rfl (lv_at hl 0 rfl) ?_
        refine lv_aload_n S.1 S.2.1 dX11_make_80 rfl (lv_at hl 2 rfl) ?_
        refine cV (np := 0) (ci := 11) (q0 := 0) (As := []) (rest := [.int (nI (rsk N R (R 1)))]) S (x_spreadNow l D cy q (va_up (va_up (va_up K 4 u4_44) 5 u5_44) 6 u6_44) (va_up (va_up (va_up (va_up (va_up C 5 (upd (C 5) (mp R j) (if C 5 (mp R j) < R 19 j then R 19 j else C 5 (mp R j)))) 9 u9_44) 10 u10_44) 11 u11_44) 14 f14_34) O L f N (mkR R j) (WFm_mk hW h_j) hrc9) hK hA I wm_X11_128 wi_X11_spreadNow ws_X11_X11_spreadNow wn_X11 wk_X11_spreadNow ⟨rfl, hd_X11_spreadNow⟩ rfl ⟨by decide, by decide⟩ rfl rfl hl.1 rfl (Nat.le_of_ble_eq_true rfl) dX11_make_81 ⟨by decide, by decide⟩ (fun v_ u_ H locs h_ I => ?_)
        obtain ⟨rfl, hu4_81, hu5_81, hu5l_81, hur_81⟩ := h_
        obtain ⟨u4_81, u5_81, u6_81, u9_81, u10_81, u11_81⟩ := u_
        have hu4_81 : u4_81 = msk (stB (mkR R j) ((mkR R j) 1)) (N 6) := hu4_81
        have hu5_81 : ∀ z, z < 8 → (u5_81).testBit z = (decide (z < N 0) && tkN (eS N (mkR R j) ((mkR R j) 1)) z) := hu5_81
        have hu5l_81 : u5_81 < 256 := hu5l_81
        have hur_81 : RowC N (mkR R j) ((mkR R j) 1) (eS N (mkR R j) ((mkR R j) 1)) u9_81 u10_81 u11_81 := hur_81
        have I : IX D A s.heap (wX cy q (va_up (va_up (va_up K 4 u4_81) 5 u5_81) 6 u6_81) (va_up (va_up (va_up (va_up (va_up C 5 (upd (C 5) (mp R j) (if C 5 (mp R j) < R 19 j then R 19 j else C 5 (mp R j)))) 9 u9_81) 10 u10_81) 11 u11_81) 14 f14_34) O L f) H locs := I
        refine W.eq (g2 := F0 m 84 ls [.int (nI (rsk N (mkR R j) ((mkR R j) 1))), .int (nI (rsk N R (R 1)))]) rfl ?_
        refine lv_isub S.1 S.2.1 dX11_make_84 ?_
        refine lv_ldc (v := 100000) S.1 S.2.1 S.2.2.2.1 (S.2.2.2.2 _ (List.mem_cons_of_mem _ wx_647)) dX11_make_85 ?_
        refine lv_iadd S.1 S.2.1 dX11_make_87 ?_
        exact ru_i hQ S hr hlk (u := ((va_up (va_up (va_up K 4 u4_81) 5 u5_81) 6 u6_81), (va_up (va_up (va_up (va_up (va_up C 5 (upd (C 5) (mp R j) (if C 5 (mp R j) < R 19 j then R 19 j else C 5 (mp R j)))) 9 u9_81) 10 u10_81) 11 u11_81) 14 f14_34), O, L, f)) I (by rw [sp_make, if_pos hP, e_j, if_neg (mk_c c_23 c_37)]; exact ⟨congrArg (fun z => some (Value.int z)) (mk_ar _ _ _), hrc9⟩) dX11_make_88
      · skip
        have c_37 := bI_t c_37
        refine lv_bipush (v := (-2)) S.1 S.2.1 dX11_make_40 (by decide) ?_
        exact ru_i hQ S hr hlk (u := (K, (va_up C 14 f14_34), O, L, f)) I (by rw [sp_make, if_pos hP, e_j, if_pos (mk_b c_37)]; exact ⟨rfl, hrc⟩) dX11_make_42
  · skip
    have hPf := ts_nt hP
    refine tV (y := .null) (mat_none (by rw [k7]; exact hPf)) ?_
    refine lv_astore_nN (lv' := [(2, .null), (0, .ref (q 0)), (1, .int x)]) S.1 S.2.1 dX11_make_8 rfl hl (by decide) rfl (fun ls hl => ?_)
    refine lv_aload_nN S.1 S.2.1 dX11_make_9 rfl (lv_at hl 0 rfl) ?_
    refine lv_ifnonnullN S.1 S.2.1 dX11_make_10 ?_
    refine lv_iconst (v := (-1)) S.1 S.2.1 dX11_make_13 (by decide) ?_
    exact ru_i hQ S hr hlk (u := (K, C, O, L, f)) I (by rw [sp_make, if_neg (by rw [hPf]; exact Bool.false_ne_true)]; exact ⟨rfl, hrc⟩) dX11_make_14
set_option maxHeartbeats 4000000 in
set_option maxRecDepth 100000 in
theorem x_chain (l : Launch) (D : va_G) (cy : Nat → ClassId) (q : Nat → Nat) (K : Nat → Nat) (C : Nat → Nat → Int32) (O : Nat → Nat → Option Nat) (L : List Nat) (f : Nat → va_E) (N : Nat → Nat) (R : Nat → Nat → Int32) (x : Int32) (hW : WFm N R) (hrc : RelC K C O L f N R) : MS (α := (Nat → Nat) × (Nat → Nat → Int32) × (Nat → Nat → Option Nat) × List Nat × (Nat → va_E)) l D cy yX11_chain cX11_chain 4 (Option.some FieldType.int) rm_X11_chain [.ref (q 0), .int x] (wX cy q K C O L f) (fun v_ u_ => v_ = some (.int (sp_chain N R x)) ∧ RelC u_.1 u_.2.1 u_.2.2.1 u_.2.2.2.1 u_.2.2.2.2 N R) (fun u_ => wX cy q u_.1 u_.2.1 u_.2.2.1 u_.2.2.2.1 u_.2.2.2.2) := by
  refine MS.mk2 (by decide) (Nat.le_of_ble_eq_true rfl) [(0, .ref (q 0)), (1, .int x)] rfl ?_
  intro p e s m args below meth c A ls Q hQ S hr hlk hnm hK hA I hl
  have hW0 := hW
  obtain ⟨hB, hPt, hBo, hH, hM, hQu⟩ := hW0
  have hB0 := hB
  obtain ⟨b0, b6, b17, b24, b30⟩ := hB0
  have hrc0 := hrc
  obtain ⟨hrel, hrg, hrm, hrp, hinj⟩ := hrc0
  have hrel0 := hrel
  obtain ⟨k0, k1, hC6, hK2, hC7, hHol⟩ := hrel0
  have hrm0 := hrm
  obtain ⟨k7, k8, hMe, hQe⟩ := hrm0
  have hrg0 := hrg
  obtain ⟨hC5, hG, hG3, hG2⟩ := hrg0
  have hp2 := pow_256 b17
  obtain ⟨k9, hC20, hK10, hC31⟩ := hrp
  have hgC : ∀ p, p < N 0 → C 5 p = R 1 p := fun p hp => hC5 p (by omega)
  refine lv_aload_n S.1 S.2.1 dX11_chain_0 rfl (lv_at hl 0 rfl) ?_
  refine rg (ci := 11) (q0 := 0) (v := .ref (q 1)) 0 S hK I cl_X11 rfl wf_X11_12 (by decide) rfl rfl rfl dX11_chain_1 ?_
  refine lv_iload_n S.1 S.2.1 dX11_chain_4 rfl (lv_at hl 1 rfl) ?_
  refine cV (np := 1) (ci := 5) (q0 := 1) (As := [.int x]) (rest := []) S (x_holeAt l D cy q K C O L f x (by omega)) hK hA I wm_X11_91 wi_X5_holeAt ws_X5_X5_holeAt wn_X5 wk_X5_holeAt ⟨rfl, hd_X5_holeAt⟩ rfl ⟨by decide, by decide⟩ rfl rfl hl.1 rfl (Nat.le_of_ble_eq_true rfl) dX11_chain_5 ⟨by decide, by decide⟩ (fun v_ u_ H locs h_ I => ?_)
  obtain rfl := h_
  have I : IX D A s.heap (wX cy q K C O L f) H locs := I
  refine W.eq (g2 := F0 m 8 ls (va_rf (if isP (K 1) x = true then O 8 (x).toNatClampNeg else none) :: [])) rfl ?_
  by_cases hP : isP (N 6) x = true
  · skip
    obtain ⟨j, h_j, rfl⟩ := isP_of hP (by omega)
    have e_j : (nI j).toNatClampNeg = j := nI_clamp (by omega)
    obtain ⟨a, ho8, ha, hf⟩ := hHol j h_j
    have hkd := (hH j h_j).2.2.2.1
    refine tV (y := .ref a) (hat_some rfl (by omega) (by omega) ho8) ?_
    refine lv_astore_n (lv' := [(2, .ref a), (0, .ref (q 0)), (1, .int (nI j))]) S.1 S.2.1 dX11_chain_8 rfl hl (by decide) rfl (fun ls hl => ?_)
    refine lv_aload_n S.1 S.2.1 dX11_chain_9 rfl (lv_at hl 0 rfl) ?_
    refine lv_ifnonnull (tgt := 15) S.1 S.2.1 dX11_chain_10 (by decide) ?_
    refine lv_aload_n S.1 S.2.1 dX11_chain_15 rfl (lv_at hl 0 rfl) ?_
    refine cIN (tk := 1) S hK I wc_X11_95 hkd ha hf (Or.inr (Or.inr ⟨rfl, rfl⟩)) dX11_chain_16 ?_
    refine lv_if_eq (tgt := 32) S.1 S.2.1 dX11_chain_19 (by decide) (fun c_19 => ?_) (fun c_19 => ?_)
    · skip
      have c_19 := bI_f c_19
      have hk1 := of_decide_eq_false c_19
      refine lv_bipush (v := (-13)) S.1 S.2.1 dX11_chain_32 (by decide) ?_
      exact ru_i hQ S hr hlk (u := (K, C, O, L, f)) I (⟨(congrArg (fun z => some (Value.int z)) (by rw [sp_chain, if_pos hP, e_j, if_neg (kd_ne (hH j h_j).2.2.1 hkd (by decide) hk1)])), hrc⟩) dX11_chain_34
    · skip
      have c_19 := bI_t c_19
      have hk1 := of_decide_eq_true c_19
      have hf2 : f a = .inr (0, [.int (R 8 j), .int (R 9 j), .int (R 10 j), .int (nI (ch R j)), .int (R 8 (ch R j))]) := by rw [hf, hk1]; rfl
      have hch := ((hH j h_j).2.2.2.2 hk1).1
      refine lv_aload_n S.1 S.2.1 dX11_chain_22 rfl (lv_at hl 0 rfl) ?_
      refine cCA (ci := 0) S hK I rfl wc_X11_95 ha hf2 dX11_chain_23 ?_
      refine lv_astore_n (lv' := [(3, .ref a), (2, .ref a), (0, .ref (q 0)), (1, .int (nI j))]) S.1 S.2.1 dX11_chain_26 rfl hl (by decide) rfl (fun ls hl => ?_)
      refine lv_aload_n S.1 S.2.1 dX11_chain_27 rfl (lv_at hl 0 rfl) ?_
      refine rgP (ci := 0) (T := TX0) (fs := [.int (R 8 j), .int (R 9 j), .int (R 10 j), .int (nI (ch R j)), .int (R 8 (ch R j))]) 3 S hK I cl_X0 rfl wf_X11_111 (by decide) rfl ha hf2 rfl dX11_chain_28 ?_
      exact ru_i hQ S hr hlk (u := (K, C, O, L, f)) I (⟨(congrArg (fun z => some (Value.int z)) (by rw [sp_chain, if_pos hP, e_j, if_pos (by rw [(hH j h_j).2.2.1, hk1]), hch])), hrc⟩) dX11_chain_31
  · skip
    have hPf := ts_nt hP
    refine tV (y := .null) (hat_none (by rw [k1]; exact hPf)) ?_
    refine lv_astore_nN (lv' := [(2, .null), (0, .ref (q 0)), (1, .int x)]) S.1 S.2.1 dX11_chain_8 rfl hl (by decide) rfl (fun ls hl => ?_)
    refine lv_aload_nN S.1 S.2.1 dX11_chain_9 rfl (lv_at hl 0 rfl) ?_
    refine lv_ifnonnullN S.1 S.2.1 dX11_chain_10 ?_
    refine lv_iconst (v := (-1)) S.1 S.2.1 dX11_chain_13 (by decide) ?_
    exact ru_i hQ S hr hlk (u := (K, C, O, L, f)) I (⟨(congrArg (fun z => some (Value.int z)) (by rw [sp_chain, if_neg (by rw [hPf]; exact Bool.false_ne_true)])), hrc⟩) dX11_chain_14
set_option maxHeartbeats 4000000 in
set_option maxRecDepth 100000 in
theorem x_told (l : Launch) (D : va_G) (cy : Nat → ClassId) (q : Nat → Nat) (K : Nat → Nat) (C : Nat → Nat → Int32) (O : Nat → Nat → Option Nat) (L : List Nat) (f : Nat → va_E) (N : Nat → Nat) (R : Nat → Nat → Int32) (x w : Int32) (hW : WFm N R) (hrc : RelC K C O L f N R) : MS (α := (Nat → Nat) × (Nat → Nat → Int32) × (Nat → Nat → Option Nat) × List Nat × (Nat → va_E)) l D cy yX11_told cX11_told 4 (Option.some FieldType.int) rm_X11_told [.ref (q 0), .int x, .int w] (wX cy q K C O L f) (fun v_ u_ => v_ = some (.int (sp_told N R x w)) ∧ RelC u_.1 u_.2.1 u_.2.2.1 u_.2.2.2.1 u_.2.2.2.2 N R) (fun u_ => wX cy q u_.1 u_.2.1 u_.2.2.1 u_.2.2.2.1 u_.2.2.2.2) := by
  refine MS.mk2 (by decide) (Nat.le_of_ble_eq_true rfl) [(0, .ref (q 0)), (1, .int x), (2, .int w)] rfl ?_
  intro p e s m args below meth c A ls Q hQ S hr hlk hnm hK hA I hl
  have hW0 := hW
  obtain ⟨hB, hPt, hBo, hH, hM, hQu⟩ := hW0
  have hB0 := hB
  obtain ⟨b0, b6, b17, b24, b30⟩ := hB0
  have hrc0 := hrc
  obtain ⟨hrel, hrg, hrm, hrp, hinj⟩ := hrc0
  have hrel0 := hrel
  obtain ⟨k0, k1, hC6, hK2, hC7, hHol⟩ := hrel0
  have hrm0 := hrm
  obtain ⟨k7, k8, hMe, hQe⟩ := hrm0
  have hrg0 := hrg
  obtain ⟨hC5, hG, hG3, hG2⟩ := hrg0
  have hp2 := pow_256 b17
  obtain ⟨k9, hC20, hK10, hC31⟩ := hrp
  have hgC : ∀ p, p < N 0 → C 5 p = R 1 p := fun p hp => hC5 p (by omega)
  refine lv_aload_n S.1 S.2.1 dX11_told_0 rfl (lv_at hl 0 rfl) ?_
  refine rg (ci := 11) (q0 := 0) (v := .ref (q 1)) 0 S hK I cl_X11 rfl wf_X11_12 (by decide) rfl rfl rfl dX11_told_1 ?_
  refine lv_iload_n S.1 S.2.1 dX11_told_4 rfl (lv_at hl 1 rfl) ?_
  refine cV (np := 1) (ci := 5) (q0 := 1) (As := [.int x]) (rest := []) S (x_holeAt l D cy q K C O L f x (by omega)) hK hA I wm_X11_91 wi_X5_holeAt ws_X5_X5_holeAt wn_X5 wk_X5_holeAt ⟨rfl, hd_X5_holeAt⟩ rfl ⟨by decide, by decide⟩ rfl rfl hl.1 rfl (Nat.le_of_ble_eq_true rfl) dX11_told_5 ⟨by decide, by decide⟩ (fun v_ u_ H locs h_ I => ?_)
  obtain rfl := h_
  have I : IX D A s.heap (wX cy q K C O L f) H locs := I
  refine W.eq (g2 := F0 m 8 ls (va_rf (if isP (K 1) x = true then O 8 (x).toNatClampNeg else none) :: [])) rfl ?_
  by_cases hP : isP (N 6) x = true
  · skip
    obtain ⟨j, h_j, rfl⟩ := isP_of hP (by omega)
    have e_j : (nI j).toNatClampNeg = j := nI_clamp (by omega)
    obtain ⟨a, ho8, ha, hf⟩ := hHol j h_j
    have hkd := (hH j h_j).2.2.2.1
    refine tV (y := .ref a) (hat_some rfl (by omega) (by omega) ho8) ?_
    refine lv_astore_n (lv' := [(3, .ref a), (0, .ref (q 0)), (1, .int (nI j)), (2, .int w)]) S.1 S.2.1 dX11_told_8 rfl hl (by decide) rfl (fun ls hl => ?_)
    refine lv_aload_n S.1 S.2.1 dX11_told_9 rfl (lv_at hl 0 rfl) ?_
    refine lv_ifnonnull (tgt := 15) S.1 S.2.1 dX11_told_10 (by decide) ?_
    refine lv_iload_n S.1 S.2.1 dX11_told_15 rfl (lv_at hl 3 rfl) ?_
    rcases sw_5 w with hsw | hsw | hsw | hsw | hsw | hsw
    · skip
      refine lv_tableIn (off := 36) (tgt := 52) S.1 S.2.1 dX11_told_16 (by rw [hsw]; decide) (by rw [hsw]; decide) (by rw [hsw]; rfl) (by decide) ?_
      refine lv_aload_n S.1 S.2.1 dX11_told_52 rfl (lv_at hl 0 rfl) ?_
      refine cKI (rest := []) S hK hA I wm_X11_114 hkd ha hf ⟨by decide, by decide⟩ ⟨by decide, by decide⟩ hl.1 (Nat.le_of_ble_eq_true rfl) dX11_told_53 (fun H locs I => ?_)
      refine W.eq (g2 := F0 m 56 ls [.int (nI (kd R j))]) rfl ?_
      exact ru_i hQ S hr hlk (u := (K, C, O, L, f)) I (⟨(congrArg (fun z => some (Value.int z)) (by rw [← (hH j h_j).2.2.1]; simp [sp_told, hP, e_j, hsw])), hrc⟩) dX11_told_56
    · skip
      refine lv_tableIn (off := 41) (tgt := 57) S.1 S.2.1 dX11_told_16 (by rw [hsw]; decide) (by rw [hsw]; decide) (by rw [hsw]; rfl) (by decide) ?_
      refine lv_aload_n S.1 S.2.1 dX11_told_57 rfl (lv_at hl 0 rfl) ?_
      refine rgH 0 (by decide) S hK I wf_X11_97 ha hf rfl dX11_told_58 ?_
      exact ru_i hQ S hr hlk (u := (K, C, O, L, f)) I (⟨(congrArg (fun z => some (Value.int z)) (by simp [sp_told, hP, e_j, hsw])), hrc⟩) dX11_told_61
    · skip
      refine lv_tableIn (off := 46) (tgt := 62) S.1 S.2.1 dX11_told_16 (by rw [hsw]; decide) (by rw [hsw]; decide) (by rw [hsw]; rfl) (by decide) ?_
      refine lv_aload_n S.1 S.2.1 dX11_told_62 rfl (lv_at hl 0 rfl) ?_
      refine rgH 1 (by decide) S hK I wf_X11_118 ha hf rfl dX11_told_63 ?_
      exact ru_i hQ S hr hlk (u := (K, C, O, L, f)) I (⟨(congrArg (fun z => some (Value.int z)) (by simp [sp_told, hP, e_j, hsw])), hrc⟩) dX11_told_66
    · skip
      refine lv_tableIn (off := 51) (tgt := 67) S.1 S.2.1 dX11_told_16 (by rw [hsw]; decide) (by rw [hsw]; decide) (by rw [hsw]; rfl) (by decide) ?_
      refine lv_aload_n S.1 S.2.1 dX11_told_67 rfl (lv_at hl 0 rfl) ?_
      refine rgH 2 (by decide) S hK I wf_X11_121 ha hf rfl dX11_told_68 ?_
      exact ru_i hQ S hr hlk (u := (K, C, O, L, f)) I (⟨(congrArg (fun z => some (Value.int z)) (by simp [sp_told, hP, e_j, hsw])), hrc⟩) dX11_told_71
    · skip
      refine lv_tableIn (off := 56) (tgt := 72) S.1 S.2.1 dX11_told_16 (by rw [hsw]; decide) (by rw [hsw]; decide) (by rw [hsw]; rfl) (by decide) ?_
      refine lv_aload_n S.1 S.2.1 dX11_told_72 rfl (lv_at hl 1 rfl) ?_
      refine rg (ci := 11) (q0 := 0) (v := .ref (q 1)) 0 S hK I cl_X11 rfl wf_X11_12 (by decide) rfl rfl rfl dX11_told_73 ?_
      refine lv_aload_n S.1 S.2.1 dX11_told_76 rfl (lv_at hl 0 rfl) ?_
      refine cV (np := 1) (ci := 5) (q0 := 1) (As := [.ref a]) (rest := []) S (x_standsNow l D cy q K C O L f N R a j hW h_j ha hf hG) hK hA I wm_X11_124 wi_X5_standsNow ws_X5_X5_standsNow wn_X5 wk_X5_standsNow ⟨rfl, hd_X5_standsNow⟩ rfl ⟨by decide, by decide⟩ rfl rfl hl.1 rfl (Nat.le_of_ble_eq_true rfl) dX11_told_77 ⟨by decide, by decide⟩ (fun v_ u_ H locs h_ I => ?_)
      obtain rfl := h_
      have I : IX D A s.heap (wX cy q K C O L f) H locs := I
      refine W.eq (g2 := F0 m 80 ls [.int (bI (stB R (C 5) j))]) rfl ?_
      refine cS (np := 1) (As := [.int (bI (stB R (C 5) j))]) (rest := []) S (x_asNumber l D cy (wX cy q K C O L f) (stB R (C 5) j)) hK hA I wm_X11_69 wt_X11_asNumber wn_X11 wk_X11_asNumber ⟨rfl, hd_X11_asNumber⟩ rfl ⟨by decide, by decide⟩ hl.1 rfl (Nat.le_of_ble_eq_true rfl) dX11_told_80 ⟨by decide, by decide⟩ (fun v_ u_ H locs h_ I => ?_)
      obtain rfl := h_
      have I : IX D A s.heap (wX cy q K C O L f) H locs := I
      refine W.eq (g2 := F0 m 83 ls [.int (bI (stB R (C 5) j))]) rfl ?_
      exact ru_i hQ S hr hlk (u := (K, C, O, L, f)) I (⟨(congrArg (fun z => some (Value.int z)) (by rw [stB_cg hH hgC h_j]; simp [sp_told, hP, e_j, hsw])), hrc⟩) dX11_told_83
    · skip
      refine lv_tableOut (tgt := 84) S.1 S.2.1 dX11_told_16 hsw.2 (by decide) ?_
      refine lv_iconst (v := (-1)) S.1 S.2.1 dX11_told_84 (by decide) ?_
      exact ru_i hQ S hr hlk (u := (K, C, O, L, f)) I (⟨(congrArg (fun z => some (Value.int z)) (by simp [sp_told, hP, e_j, hsw.1])), hrc⟩) dX11_told_85
  · skip
    have hPf := ts_nt hP
    refine tV (y := .null) (hat_none (by rw [k1]; exact hPf)) ?_
    refine lv_astore_nN (lv' := [(3, .null), (0, .ref (q 0)), (1, .int x), (2, .int w)]) S.1 S.2.1 dX11_told_8 rfl hl (by decide) rfl (fun ls hl => ?_)
    refine lv_aload_nN S.1 S.2.1 dX11_told_9 rfl (lv_at hl 0 rfl) ?_
    refine lv_ifnonnullN S.1 S.2.1 dX11_told_10 ?_
    refine lv_iconst (v := (-1)) S.1 S.2.1 dX11_told_13 (by decide) ?_
    exact ru_i hQ S hr hlk (u := (K, C, O, L, f)) I (⟨(congrArg (fun z => some (Value.int z)) (by rw [sp_told, if_neg (by rw [hPf]; exact Bool.false_ne_true)])), hrc⟩) dX11_told_14
set_option maxHeartbeats 4000000 in
set_option maxRecDepth 100000 in
theorem x_wake (l : Launch) (D : va_G) (cy : Nat → ClassId) (q : Nat → Nat) (K : Nat → Nat) (C : Nat → Nat → Int32) (O : Nat → Nat → Option Nat) (L : List Nat) (f : Nat → va_E) (N : Nat → Nat) (R : Nat → Nat → Int32) (x : Int32) (o : Bool) (hW : WFm N R) (hrc : RelC K C O L f N R) : MS (α := (Nat → Nat) × (Nat → Nat → Int32) × (Nat → Nat → Option Nat) × List Nat × (Nat → va_E)) l D cy yX11_wake cX11_wake 6 (Option.some FieldType.int) rm_X11_wake [.ref (q 0), .int x, .int (bI o)] (wX cy q K C O L f) (fun v_ u_ => v_ = some (.int (sp_wake N R x (bI o)).1) ∧ RelC u_.1 u_.2.1 u_.2.2.1 u_.2.2.2.1 u_.2.2.2.2 (sp_wake N R x (bI o)).2.1 (sp_wake N R x (bI o)).2.2) (fun u_ => wX cy q u_.1 u_.2.1 u_.2.2.1 u_.2.2.2.1 u_.2.2.2.2) := by
  refine MS.mk2 (by decide) (Nat.le_of_ble_eq_true rfl) [(0, .ref (q 0)), (1, .int x), (2, .int (bI o))] rfl ?_
  intro p e s m args below meth c A ls Q hQ S hr hlk hnm hK hA I hl
  have hW0 := hW
  obtain ⟨hB, hPt, hBo, hH, hM, hQu⟩ := hW0
  have hB0 := hB
  obtain ⟨b0, b6, b17, b24, b30⟩ := hB0
  have hrc0 := hrc
  obtain ⟨hrel, hrg, hrm, hrp, hinj⟩ := hrc0
  have hrel0 := hrel
  obtain ⟨k0, k1, hC6, hK2, hC7, hHol⟩ := hrel0
  have hrm0 := hrm
  obtain ⟨k7, k8, hMe, hQe⟩ := hrm0
  have hrg0 := hrg
  obtain ⟨hC5, hG, hG3, hG2⟩ := hrg0
  have hp2 := pow_256 b17
  obtain ⟨k9, hC20, hK10, hC31⟩ := hrp
  have hgC : ∀ p, p < N 0 → C 5 p = R 1 p := fun p hp => hC5 p (by omega)
  refine lv_aload_n S.1 S.2.1 dX11_wake_0 rfl (lv_at hl 0 rfl) ?_
  refine rg (ci := 11) (q0 := 0) (v := .ref (q 1)) 0 S hK I cl_X11 rfl wf_X11_12 (by decide) rfl rfl rfl dX11_wake_1 ?_
  refine lv_iload_n S.1 S.2.1 dX11_wake_4 rfl (lv_at hl 1 rfl) ?_
  refine cV (np := 1) (ci := 5) (q0 := 1) (As := [.int x]) (rest := []) S (x_holeAt l D cy q K C O L f x (by omega)) hK hA I wm_X11_91 wi_X5_holeAt ws_X5_X5_holeAt wn_X5 wk_X5_holeAt ⟨rfl, hd_X5_holeAt⟩ rfl ⟨by decide, by decide⟩ rfl rfl hl.1 rfl (Nat.le_of_ble_eq_true rfl) dX11_wake_5 ⟨by decide, by decide⟩ (fun v_ u_ H locs h_ I => ?_)
  obtain rfl := h_
  have I : IX D A s.heap (wX cy q K C O L f) H locs := I
  refine W.eq (g2 := F0 m 8 ls (va_rf (if isP (K 1) x = true then O 8 (x).toNatClampNeg else none) :: [])) rfl ?_
  by_cases hP : isP (N 6) x = true
  · skip
    obtain ⟨j, h_j, rfl⟩ := isP_of hP (by omega)
    have e_j : (nI j).toNatClampNeg = j := nI_clamp (by omega)
    obtain ⟨a, ho8, ha, hf⟩ := hHol j h_j
    have hkd := (hH j h_j).2.2.2.1
    refine tV (y := .ref a) (hat_some rfl (by omega) (by omega) ho8) ?_
    refine lv_astore_n (lv' := [(3, .ref a), (0, .ref (q 0)), (1, .int (nI j)), (2, .int (bI o))]) S.1 S.2.1 dX11_wake_8 rfl hl (by decide) rfl (fun ls hl => ?_)
    refine lv_aload_n S.1 S.2.1 dX11_wake_9 rfl (lv_at hl 0 rfl) ?_
    refine lv_ifnonnull (tgt := 15) S.1 S.2.1 dX11_wake_10 (by decide) ?_
    refine lv_aload_n S.1 S.2.1 dX11_wake_15 rfl (lv_at hl 0 rfl) ?_
    refine cIN (tk := 4) S hK I wc_X11_105 hkd ha hf (Or.inr (Or.inl ⟨rfl, rfl⟩)) dX11_wake_16 ?_
    refine lv_if_eq (tgt := 47) S.1 S.2.1 dX11_wake_19 (by decide) (fun c_19 => ?_) (fun c_19 => ?_)
    · skip
      have c_19 := bI_f c_19
      have hk1 := of_decide_eq_false c_19
      refine lv_bipush (v := (-13)) S.1 S.2.1 dX11_wake_47 (by decide) ?_
      exact ru_i hQ S hr hlk (u := (K, C, O, L, f)) I (by rw [sp_wake, if_pos hP, e_j, if_neg (kd_ne (hH j h_j).2.2.1 hkd (by decide) hk1)]; exact ⟨rfl, hrc⟩) dX11_wake_49
    · skip
      have c_19 := bI_t c_19
      have hk1 := of_decide_eq_true c_19
      have hf2 : f a = .inr (1, [.int (R 8 j), .int (R 9 j), .int (R 10 j), .int (R 12 j)]) := by rw [hf, hk1]; rfl
      refine lv_aload_n S.1 S.2.1 dX11_wake_22 rfl (lv_at hl 0 rfl) ?_
      refine cCA (ci := 1) S hK I rfl wc_X11_105 ha hf2 dX11_wake_23 ?_
      refine lv_astore (lv' := [(4, .ref a), (3, .ref a), (0, .ref (q 0)), (1, .int (nI j)), (2, .int (bI o))]) S.1 S.2.1 dX11_wake_26 hl (by decide) rfl (fun ls hl => ?_)
      refine lv_aload S.1 S.2.1 dX11_wake_28 (lv_at hl 0 rfl) ?_
      refine rgP (ci := 1) (T := TX1) (fs := [.int (R 8 j), .int (R 9 j), .int (R 10 j), .int (R 12 j)]) 3 S hK I cl_X1 rfl wf_X11_107 (by decide) rfl ha hf2 rfl dX11_wake_30 ?_
      refine tI (y := bI (decide (¬ R 12 j = 0))) (wk_b ((hBo j).2.2.2)) ?_
      refine lv_istore (lv' := [(5, .int (bI (decide (¬ R 12 j = 0)))), (4, .ref a), (3, .ref a), (0, .ref (q 0)), (1, .int (nI j)), (2, .int (bI o))]) S.1 S.2.1 dX11_wake_33 hl (by decide) rfl (fun ls hl => ?_)
      refine lv_aload S.1 S.2.1 dX11_wake_35 (lv_at hl 1 rfl) ?_
      refine lv_iload_n S.1 S.2.1 dX11_wake_37 rfl (lv_at hl 5 rfl) ?_
      refine spP (ci := 1) (T := TX1) (ty := .boolean) 3 S hK I cl_X1 rfl wf_X11_107 (by decide) rfl tyX1_ok nmX1 rfl (by decide +kernel) (by cases o <;> rfl) (by cases o <;> rfl) (by exact Nat.le_of_ble_eq_true rfl) ha hf2 dX11_wake_38 (fun H locs I => ?_)
      have I : IX D A s.heap (wX cy q K C O L (va_up f a (.inr (1, [.int (R 8 j), .int (R 9 j), .int (R 10 j), .int (bI o)])))) H locs := I
      refine lv_iload S.1 S.2.1 dX11_wake_41 (lv_at hl 0 rfl) ?_
      refine cS (np := 1) (As := [.int (bI (decide (¬ R 12 j = 0)))]) (rest := []) S (x_asNumber l D cy (wX cy q K C O L (va_up f a (.inr (1, [.int (R 8 j), .int (R 9 j), .int (R 10 j), .int (bI o)])))) (decide (¬ R 12 j = 0))) hK hA I wm_X11_69 wt_X11_asNumber wn_X11 wk_X11_asNumber ⟨rfl, hd_X11_asNumber⟩ rfl ⟨by decide, by decide⟩ hl.1 rfl (Nat.le_of_ble_eq_true rfl) dX11_wake_43 ⟨by decide, by decide⟩ (fun v_ u_ H locs h_ I => ?_)
      obtain rfl := h_
      have I : IX D A s.heap (wX cy q K C O L (va_up f a (.inr (1, [.int (R 8 j), .int (R 9 j), .int (R 10 j), .int (bI o)])))) H locs := I
      refine W.eq (g2 := F0 m 46 ls [.int (bI (decide (¬ R 12 j = 0)))]) rfl ?_
      exact ru_i hQ S hr hlk (u := (K, C, O, L, (va_up f a (.inr (1, [.int (R 8 j), .int (R 9 j), .int (R 10 j), .int (bI o)]))))) I (by rw [sp_wake, if_pos hP, e_j, if_pos (by rw [(hH j h_j).2.2.1, hk1])]; exact ⟨rfl, wake_rel hrc hH h_j hk1 ho8 ha⟩) dX11_wake_46
  · skip
    have hPf := ts_nt hP
    refine tV (y := .null) (hat_none (by rw [k1]; exact hPf)) ?_
    refine lv_astore_nN (lv' := [(3, .null), (0, .ref (q 0)), (1, .int x), (2, .int (bI o))]) S.1 S.2.1 dX11_wake_8 rfl hl (by decide) rfl (fun ls hl => ?_)
    refine lv_aload_nN S.1 S.2.1 dX11_wake_9 rfl (lv_at hl 0 rfl) ?_
    refine lv_ifnonnullN S.1 S.2.1 dX11_wake_10 ?_
    refine lv_iconst (v := (-1)) S.1 S.2.1 dX11_wake_13 (by decide) ?_
    exact ru_i hQ S hr hlk (u := (K, C, O, L, f)) I (by rw [sp_wake, if_neg (by rw [hPf]; exact Bool.false_ne_true)]; exact ⟨rfl, hrc⟩) dX11_wake_14
