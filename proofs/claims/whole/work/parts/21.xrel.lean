/-! how the class's cells stand to the reference's rows -/
def mcell (R : Nat → Nat → Int32) (k : Nat) : va_E := .inr (3, [.int (R 18 k), .int (R 19 k), .int (R 20 k), .int (R 21 k), .int (R 22 k), .int (R 23 k)])
def qcell (R : Nat → Nat → Int32) (k : Nat) : va_E := .inr (7, [.int (R 25 (4 * k)), .int (R 25 (4 * k + 1)), .int (R 25 (4 * k + 2)), .int (R 25 (4 * k + 3))])
def lk (C : Nat → Nat → Int32) (t : Nat) : Nat := (C 7 t).toNatClampNeg
def HolR (O : Nat → Nat → Option Nat) (L : List Nat) (f : Nat → va_E) (N : Nat → Nat) (R : Nat → Nat → Int32) : Prop := ∀ h, h < N 6 → ∃ a, O 8 h = some a ∧ a ∈ L ∧ f a = hcell (kd R h) (R 8 h) (R 9 h) (R 10 h) (nI (ch R h)) (R 8 (ch R h)) (R 12 h)
def RelN (K : Nat → Nat) (C : Nat → Nat → Int32) (O : Nat → Nat → Option Nat) (L : List Nat) (f : Nat → va_E) (N : Nat → Nat) (R : Nat → Nat → Int32) : Prop :=
  K 0 = N 0 ∧ K 1 = N 6 ∧ (∀ p, p < 8 → C 6 p = R 2 p) ∧ (∀ p, p < 8 → (K 2).testBit p = decide (¬ R 3 p = 0)) ∧ (∀ t, t < 8 → C 7 t = nI (lk C t) ∧ lk C t < 256 ∧ ∀ z, z < 8 → (lk C t).testBit z = decide (¬ R 5 (8 * z + t) = 0)) ∧ HolR O L f N R
theorem RelN_g {K : Nat → Nat} {C : Nat → Nat → Int32} {O : Nat → Nat → Option Nat} {L : List Nat} {f : Nat → va_E} {N : Nat → Nat} {R : Nat → Nat → Int32} {p : Nat} (h : RelN K C O L f N R) : RelN K C O L f N (gR R p) := h
theorem msk_bit (b : Nat → Bool) : ∀ n p, (msk b n).testBit p = (decide (p < n) && b p) := by
  intro n
  induction n with
  | zero => intro p; rw [msk, Nat.zero_testBit, decide_eq_false (Nat.not_lt_zero p), Bool.false_and]
  | succ n ih =>
    intro p
    rw [msk, Nat.testBit_or, ih p]
    by_cases e : p = n
    · subst e
      rw [decide_eq_false (Nat.lt_irrefl p), Bool.false_and, Bool.false_or, decide_eq_true (Nat.lt_succ_self p), Bool.true_and]
      cases h : b p
      · rw [if_neg Bool.false_ne_true, Nat.zero_testBit]
      · rw [if_pos rfl, Nat.testBit_two_pow, decide_eq_true rfl]
    · have h2 : (if b n = true then 2 ^ n else 0).testBit p = false := by
        split
        · rw [Nat.testBit_two_pow]; exact decide_eq_false (fun q => e q.symm)
        · exact Nat.zero_testBit p
      rw [h2, Bool.or_false]
      by_cases q : p < n
      · rw [decide_eq_true q, decide_eq_true (by omega)]
      · rw [decide_eq_false q, decide_eq_false (by omega)]
/-- the parts with a used one that stands -/
def twF (R : Nat → Nat → Int32) (g : Nat → Int32) : Nat → Nat
  | 0 => 0
  | n + 1 => if stB R g n = true ∧ kd R n = 3 then twF R g n ||| 2 ^ wh R n else twF R g n
theorem twF_bit (R : Nat → Nat → Int32) (g : Nat → Int32) (p : Nat) : ∀ n, (twF R g n).testBit p = usF R g p n := by
  intro n
  induction n with
  | zero => exact Nat.zero_testBit p
  | succ n ih =>
    rw [twF, usF, ← ih]
    by_cases h1 : stB R g n = true
    · by_cases h2 : kd R n = 3
      · rw [if_pos ⟨h1, h2⟩, Nat.testBit_or, Nat.testBit_two_pow, h1, decide_eq_true h2, Bool.and_self, Bool.and_true]
      · rw [if_neg (fun h => h2 h.2), decide_eq_false h2, Bool.false_and, Bool.and_false, Bool.or_false]
    · rw [if_neg (fun h => h1 h.1), ts_nt h1, Bool.and_false, Bool.and_false, Bool.or_false]
theorem hSt_st {R : Nat → Nat → Int32} {g : Nat → Int32} {h : Nat} {gb : Bool} (hg : gb = decide (¬ R 4 (wh R h) = 0)) : hSt (kd R h) (R 9 h) (R 10 h) (R 12 h) (g (wh R h)) gb = stB R g h := by
  unfold hSt stB
  rw [hg]
  congr 2
  apply decide_eq_decide.mpr
  rw [decide_eq_false_iff_not, Classical.not_not]
theorem hFr_op {N : Nat → Nat} {R : Nat → Nat → Int32} {g : Nat → Int32} {T : Nat → Bool} {k5 h : Nat} (hB : Bd N) (hH : WHo N R) (h6 : h < N 6) (hs : stB R g h = true) (h5 : ∀ z, z < 8 → k5.testBit z = (decide (z < N 0) && T z)) : hFr (kd R h) (R 8 h) (R 8 (ch R h)) (ch R h) (msk (stB R g) (N 6)) (msk (opB R g T) h) k5 = opB R g T h := by
  rw [op_step hH h6, hs, Bool.true_and]
  unfold hFr
  by_cases hk : kd R h = 1
  · have hc := ((hH h h6).2.2.2.2 hk).2
    have hc6 : ch R h < N 6 := by omega
    have hw1 := (hH h h6).2.1
    have hw2 := (hH (ch R h) hc6).2.1
    have hb0 := hB.1
    rw [msk_bit, msk_bit, decide_eq_true hc, decide_eq_true hc6, Bool.true_and, Bool.true_and, (hH (ch R h) hc6).1, (hH h h6).1]
    rw [nI_clamp (by omega), h5 _ (by omega), decide_eq_true hw2, Bool.true_and]
    by_cases e : wh R (ch R h) = wh R h
    · rw [if_pos e, if_pos (by rw [e])]
    · rw [if_neg e, if_neg (fun q => e ((nI_eq (by omega) (by omega)).mp q))]
  · rw [decide_eq_true hk, Bool.true_or, Bool.true_or]
theorem and_ne {a b : Nat} (ha : a < 256) (h : ¬ a &&& b = 0) : ∃ z, z < 8 ∧ a.testBit z = true ∧ b.testBit z = true := by
  have hlt : a &&& b < 256 := Nat.lt_of_le_of_lt Nat.and_le_left ha
  obtain ⟨z, hz⟩ := Nat.exists_testBit_of_ne_zero h
  have hz8 : z < 8 := by
    rcases Nat.lt_or_ge z 8 with q | q
    · exact q
    · rw [Nat.testBit_lt_two_pow (Nat.lt_of_lt_of_le hlt (show 256 ≤ 2 ^ z from Nat.pow_le_pow_right (n := 2) (by decide) (show 8 ≤ z from q)))] at hz
      cases hz
  rw [Nat.testBit_and, Bool.and_eq_true] at hz
  exact ⟨z, hz8, hz.1, hz.2⟩
/-- reached: by the open ones, or by a link from one taken -/
theorem rch_eq {N : Nat → Nat} {R : Nat → Nat → Int32} {T : Nat → Bool} {k2 k5 lm p : Nat} (hB : Bd N) (hp : p < 8) (h2 : k2.testBit p = decide (¬ R 3 p = 0)) (hl : lm < 256 ∧ ∀ z, z < 8 → lm.testBit z = decide (¬ R 5 (8 * z + p) = 0)) (h5 : ∀ z, z < 8 → k5.testBit z = (decide (z < N 0) && T z)) : (k2.testBit p || decide (¬ lm &&& k5 = 0)) = decide (¬ fmI N R T p = -4) := by
  unfold fmI
  rw [h2]
  by_cases h3 : R 3 p = 0
  · rw [if_pos h3, decide_eq_false (fun q => q h3), Bool.false_or]
    apply decide_eq_decide.mpr
    unfold frI
    constructor
    · intro h
      obtain ⟨z, hz, e1, e2⟩ := and_ne hl.1 h
      rw [h5 z hz, Bool.and_eq_true] at e2
      rw [hl.2 z hz] at e1
      have hz0 := of_decide_eq_true e2.1
      have hf : fa_first (frP R T p) (N 0) ≤ z := by
        rcases Nat.lt_or_ge z (fa_first (frP R T p) (N 0)) with q | q
        · have := fa_first_no _ _ _ q
          unfold frP at this
          rw [e1, e2.2] at this
          cases this
        · exact q
      rw [if_pos (by omega)]
      have hb := hB.1
      intro q
      have := congrArg Int32.toInt q
      rw [nI_toInt (by omega)] at this
      have h9 : (-4 : Int32).toInt = -4 := rfl
      omega
    · intro h q
      by_cases e : fa_first (frP R T p) (N 0) < N 0
      · have h1 := fa_first_yes _ _ e
        have hb := hB.1
        unfold frP at h1
        rw [Bool.and_eq_true] at h1
        have h7 : (lm &&& k5).testBit (fa_first (frP R T p) (N 0)) = true := by
          have e8 : fa_first (frP R T p) (N 0) < 8 := by omega
          rw [Nat.testBit_and, hl.2 _ e8, h5 _ e8, decide_eq_true e, Bool.true_and]
          exact Bool.and_eq_true _ _ ▸ h1
        rw [q, Nat.zero_testBit] at h7
        cases h7
      · exact h (if_neg e)
  · rw [if_neg h3, decide_eq_true h3, Bool.true_or]
    exact (decide_eq_true (by decide)).symm
/-- the least part that links to it -/
def loI (M : Nat) : Int32 := if fa_first M.testBit 8 < 8 then nI (fa_first M.testBit 8) else -1
theorem lo_fr {N : Nat → Nat} {R : Nat → Nat → Int32} {T : Nat → Bool} {k5 lm p : Nat} (hB : Bd N) (h3 : R 3 p = 0) (hr : ¬ fmI N R T p = -4) (hl : ∀ z, z < 8 → lm.testBit z = decide (¬ R 5 (8 * z + p) = 0)) (h5 : ∀ z, z < 8 → k5.testBit z = (decide (z < N 0) && T z)) : loI (lm &&& k5) = fmI N R T p := by
  unfold fmI at hr ⊢
  rw [if_pos h3] at hr ⊢
  unfold frI at hr ⊢
  by_cases e : fa_first (frP R T p) (N 0) < N 0
  · rw [if_pos e]
    have hb := hB.1
    have hz : ∀ z, z < 8 → (lm &&& k5).testBit z = (decide (z < N 0) && frP R T p z) := by
      intro z hz
      rw [Nat.testBit_and, hl z hz, h5 z hz]
      unfold frP
      cases decide (¬ R 5 (8 * z + p) = 0) <;> cases decide (z < N 0) <;> rfl
    have h8 : fa_first (lm &&& k5).testBit 8 = fa_first (frP R T p) (N 0) := by
      refine fst_eq (fun j hj => ?_) ?_ (by omega)
      · rw [hz j (by omega), fa_first_no _ _ _ hj, Bool.and_false]
      · rw [hz _ (by omega), decide_eq_true e, fa_first_yes _ _ e]; rfl
    unfold loI
    rw [h8, if_pos (by omega)]
  · exact absurd (if_neg e) hr
/-- taken anew in a step, by the holes below h -/
def tsB (N : Nat → Nat) (R : Nat → Nat → Int32) (g : Nat → Int32) (T : Nat → Bool) (h p : Nat) : Bool := decide (fa_first (fun i => decide (wh R i = p) && opB R g T i) h < h) && (!(T p) && decide (¬ fmI N R T p = -4))
theorem ff_s (P : Nat → Bool) (n : Nat) : fa_first P (n + 1) = if fa_first P n < n then fa_first P n else if P n = true then n else n + 1 := rfl
/-- what the step's rows hold, behind the holes below h -/
def RowT (N : Nat → Nat) (R : Nat → Nat → Int32) (g : Nat → Int32) (T : Nat → Bool) (k h fr : Nat) (o9 o10 o11 r9 r10 r11 : Nat → Int32) : Prop :=
  (∀ p, fr.testBit p = (decide (p < N 0) && tsB N R g T h p)) ∧ ∀ p, p < N 0 → (tsB N R g T h p = true → r9 p = nI (k + 1) ∧ r10 p = nI (fa_first (fun i => decide (wh R i = p) && opB R g T i) h) ∧ r11 p = fmI N R T p) ∧ (tsB N R g T h p = false → r9 p = o9 p ∧ r10 p = o10 p ∧ r11 p = o11 p)
theorem rt_0 {N : Nat → Nat} {R : Nat → Nat → Int32} {g : Nat → Int32} {T : Nat → Bool} {k : Nat} {o9 o10 o11 : Nat → Int32} : RowT N R g T k 0 0 o9 o10 o11 o9 o10 o11 := by
  have h0 : ∀ p, tsB N R g T 0 p = false := fun p => by unfold tsB; rw [decide_eq_false (Nat.not_lt_zero _), Bool.false_and]
  refine ⟨fun p => by rw [Nat.zero_testBit, h0, Bool.and_false], fun p _ => ⟨fun h => ?_, fun _ => ⟨rfl, rfl, rfl⟩⟩⟩
  rw [h0] at h; cases h
theorem ts_same {R : Nat → Nat → Int32} {g : Nat → Int32} {T : Nat → Bool} {h p : Nat} (e : (decide (wh R h = p) && opB R g T h) = false ∨ fa_first (fun i => decide (wh R i = p) && opB R g T i) h < h) : (fa_first (fun i => decide (wh R i = p) && opB R g T i) (h + 1) < h + 1 ↔ fa_first (fun i => decide (wh R i = p) && opB R g T i) h < h) ∧ (fa_first (fun i => decide (wh R i = p) && opB R g T i) h < h → fa_first (fun i => decide (wh R i = p) && opB R g T i) (h + 1) = fa_first (fun i => decide (wh R i = p) && opB R g T i) h) := by
  rw [ff_s]
  by_cases q : fa_first (fun i => decide (wh R i = p) && opB R g T i) h < h
  · rw [if_pos q]
    exact ⟨⟨fun _ => q, fun _ => by omega⟩, fun _ => rfl⟩
  · rw [if_neg q]
    rcases e with e | e
    · rw [if_neg (by rw [e]; exact Bool.false_ne_true)]
      exact ⟨⟨fun h => absurd h (Nat.lt_irrefl _), fun h => absurd h q⟩, fun h => absurd h q⟩
    · exact absurd e q
theorem ts_eq {N : Nat → Nat} {R : Nat → Nat → Int32} {g : Nat → Int32} {T : Nat → Bool} {h p : Nat} (e : (decide (wh R h = p) && opB R g T h) = false ∨ fa_first (fun i => decide (wh R i = p) && opB R g T i) h < h ∨ T p = true ∨ fmI N R T p = -4) : tsB N R g T (h + 1) p = tsB N R g T h p ∧ (tsB N R g T h p = true → fa_first (fun i => decide (wh R i = p) && opB R g T i) (h + 1) = fa_first (fun i => decide (wh R i = p) && opB R g T i) h) := by
  unfold tsB
  rcases e with e | e | e | e
  · have h1 := ts_same (Or.inl e)
    rw [decide_eq_decide.mpr h1.1]
    refine ⟨rfl, fun h => h1.2 ?_⟩
    rw [Bool.and_eq_true] at h
    exact of_decide_eq_true h.1
  · have h1 := ts_same (h := h) (p := p) (Or.inr e)
    rw [decide_eq_decide.mpr h1.1]
    exact ⟨rfl, fun _ => h1.2 e⟩
  · rw [e]
    refine ⟨by rw [Bool.not_true, Bool.false_and, Bool.and_false, Bool.and_false], fun h => ?_⟩
    rw [Bool.not_true, Bool.false_and, Bool.and_false] at h; cases h
  · have e2 : decide (¬ fmI N R T p = -4) = false := decide_eq_false (fun q => q e)
    rw [e2]
    refine ⟨by rw [Bool.and_false, Bool.and_false, Bool.and_false], fun h => ?_⟩
    rw [Bool.and_false, Bool.and_false] at h; cases h
theorem rt_no {N : Nat → Nat} {R : Nat → Nat → Int32} {g : Nat → Int32} {T : Nat → Bool} {k h fr : Nat} {o9 o10 o11 r9 r10 r11 : Nat → Int32} (hr : RowT N R g T k h fr o9 o10 o11 r9 r10 r11) (e : ∀ p, p < N 0 → (decide (wh R h = p) && opB R g T h) = false ∨ fa_first (fun i => decide (wh R i = p) && opB R g T i) h < h ∨ T p = true ∨ fmI N R T p = -4) : RowT N R g T k (h + 1) fr o9 o10 o11 r9 r10 r11 := by
  refine ⟨fun p => ?_, fun p hp => ?_⟩
  · rw [hr.1 p]
    by_cases hp : p < N 0
    · rw [(ts_eq (N := N) (e p hp)).1]
    · rw [decide_eq_false hp, Bool.false_and, Bool.false_and]
  · have h1 := ts_eq (N := N) (e p hp)
    rw [h1.1]
    refine ⟨fun q => ?_, (hr.2 p hp).2⟩
    rw [h1.2 q]
    exact (hr.2 p hp).1 q
theorem rt_yes {N : Nat → Nat} {R : Nat → Nat → Int32} {g : Nat → Int32} {T : Nat → Bool} {k h fr : Nat} {o9 o10 o11 r9 r10 r11 : Nat → Int32} {x : Int32} (hr : RowT N R g T k h fr o9 o10 o11 r9 r10 r11) (hw : wh R h < N 0) (ho : opB R g T h = true) (hT : T (wh R h) = false) (hf : fr.testBit (wh R h) = false) (hm : ¬ fmI N R T (wh R h) = -4) (hx : x = fmI N R T (wh R h)) : RowT N R g T k (h + 1) (fr ||| 2 ^ wh R h) o9 o10 o11 (upd r9 (wh R h) (nI (k + 1))) (upd r10 (wh R h) (nI h)) (upd r11 (wh R h) x) := by
  have hno : ¬ fa_first (fun i => decide (wh R i = wh R h) && opB R g T i) h < h := by
    intro q
    have h1 := hr.1 (wh R h)
    rw [hf] at h1
    unfold tsB at h1
    rw [decide_eq_true hw, decide_eq_true q, hT, decide_eq_true hm] at h1
    cases h1
  have hff : fa_first (fun i => decide (wh R i = wh R h) && opB R g T i) (h + 1) = h := by
    rw [ff_s, if_neg hno, if_pos (by rw [decide_eq_true rfl, ho]; rfl)]
  have hts : tsB N R g T (h + 1) (wh R h) = true := by
    unfold tsB
    rw [hff, decide_eq_true (Nat.lt_succ_self h), hT, decide_eq_true hm]
    rfl
  have hne : ∀ p, p ≠ wh R h → (decide (wh R h = p) && opB R g T h) = false := fun p q => by rw [decide_eq_false (fun z => q z.symm), Bool.false_and]
  refine ⟨fun p => ?_, fun p hp => ?_⟩
  · rw [Nat.testBit_or, Nat.testBit_two_pow, hr.1 p]
    by_cases q : p = wh R h
    · subst q
      rw [hts, decide_eq_true hw, decide_eq_true rfl, Bool.or_true]; rfl
    · rw [show decide (wh R h = p) = false from decide_eq_false (fun z => q z.symm), Bool.or_false, (ts_eq (N := N) (Or.inl (hne p q))).1]
  · by_cases q : p = wh R h
    · subst q
      rw [pk_us, pk_us, pk_us, hts, hff]
      exact ⟨fun _ => ⟨rfl, rfl, hx⟩, fun z => by cases z⟩
    · have h1 := ts_eq (N := N) (Or.inl (hne p q))
      rw [pk_un q, pk_un q, pk_un q, h1.1]
      refine ⟨fun z => ?_, (hr.2 p hp).2⟩
      rw [h1.2 z]
      exact (hr.2 p hp).1 z
/-- at the step's end: those taken anew are the specification's -/
theorem ts_nw {N : Nat → Nat} {R : Nat → Nat → Int32} {g : Nat → Int32} {s : Nat → Nat} {p : Nat} : tsB N R g (tkN s) (N 6) p = nwB N R g s p := by
  unfold tsB nwB nwH
  have h : (!(tkN s p)) = decide (s p = 0) := by
    unfold tkN
    by_cases e : s p = 0
    · rw [decide_eq_true e, e]; rfl
    · rw [decide_eq_false e, decide_eq_true (by omega)]; rfl
  rw [h]
  cases decide (s p = 0) <;> cases decide (¬ fmI N R (tkN s) p = -4) <;> simp
