/-! who is taken, step by step -/
theorem stB_cg {N : Nat → Nat} {R : Nat → Nat → Int32} (hH : WHo N R) {g g2 : Nat → Int32} (hg : ∀ p, p < N 0 → g p = g2 p) {h : Nat} (h6 : h < N 6) : stB R g h = stB R g2 h := by
  unfold stB
  rw [hg _ (hH h h6).2.1]
theorem opF_cg {N : Nat → Nat} {R : Nat → Nat → Int32} (hH : WHo N R) {g g2 : Nat → Int32} (hg : ∀ p, p < N 0 → g p = g2 p) {T T2 : Nat → Bool} (hT : ∀ p, p < N 0 → T p = T2 p) : ∀ (n h : Nat), h < N 6 → opF R g T n h = opF R g2 T2 n h := by
  intro n
  induction n with
  | zero => intro h _; rfl
  | succ n ih =>
    intro h h6
    rw [opF, opF, stB_cg hH hg h6]
    by_cases hk : kd R h = 1
    · have hc := ((hH h h6).2.2.2.2 hk).2
      rw [ih (ch R h) (by omega), stB_cg hH hg (by omega : ch R h < N 6), hT _ (hH (ch R h) (by omega)).2.1]
    · rw [decide_eq_true hk, Bool.true_or, Bool.true_or]
theorem opB_cg {N : Nat → Nat} {R : Nat → Nat → Int32} (hH : WHo N R) {g g2 : Nat → Int32} (hg : ∀ p, p < N 0 → g p = g2 p) {T T2 : Nat → Bool} (hT : ∀ p, p < N 0 → T p = T2 p) {h : Nat} (h6 : h < N 6) : opB R g T h = opB R g2 T2 h := opF_cg hH hg hT _ h h6
theorem frI_cg {N : Nat → Nat} {R : Nat → Nat → Int32} {T T2 : Nat → Bool} (hT : ∀ p, p < N 0 → T p = T2 p) (p : Nat) : frI R T (N 0) p = frI R T2 (N 0) p := by
  unfold frI
  rw [fst_cong (P2 := frP R T2 p) (fun j hj => by unfold frP; rw [hT j hj])]
def tkN (s : Nat → Nat) (p : Nat) : Bool := decide (0 < s p)
/-- the hole by which p is taken next -/
def nwH (N : Nat → Nat) (R : Nat → Nat → Int32) (g : Nat → Int32) (T : Nat → Bool) (p : Nat) : Nat := fa_first (fun h => decide (wh R h = p) && opB R g T h) (N 6)
/-- from where p is reached: -1 outside, -4 from nowhere -/
def fmI (N : Nat → Nat) (R : Nat → Nat → Int32) (T : Nat → Bool) (p : Nat) : Int32 := if R 3 p = 0 then frI R T (N 0) p else -1
def nwB (N : Nat → Nat) (R : Nat → Nat → Int32) (g : Nat → Int32) (s : Nat → Nat) (p : Nat) : Bool := decide (s p = 0) && (decide (¬ fmI N R (tkN s) p = -4) && decide (nwH N R g (tkN s) p < N 6))
/-- the step in which p is taken, as far as k steps; 0: not taken -/
def stF (N : Nat → Nat) (R : Nat → Nat → Int32) (g : Nat → Int32) : Nat → Nat → Nat
  | 0 => fun _ => 0
  | k + 1 => fun p => if nwB N R g (stF N R g k) p = true then k + 1 else stF N R g k p
theorem stF_s (N : Nat → Nat) (R : Nat → Nat → Int32) (g : Nat → Int32) (k p : Nat) : stF N R g (k + 1) p = if nwB N R g (stF N R g k) p = true then k + 1 else stF N R g k p := rfl
abbrev eS (N : Nat → Nat) (R : Nat → Nat → Int32) (g : Nat → Int32) : Nat → Nat := stF N R g 8
theorem nwH_cg {N : Nat → Nat} {R : Nat → Nat → Int32} (hH : WHo N R) {g g2 : Nat → Int32} (hg : ∀ p, p < N 0 → g p = g2 p) {T T2 : Nat → Bool} (hT : ∀ p, p < N 0 → T p = T2 p) (p : Nat) : nwH N R g T p = nwH N R g2 T2 p := by
  unfold nwH
  exact fst_cong (fun h h6 => by rw [opB_cg hH hg hT h6])
theorem fmI_cg {N : Nat → Nat} {R : Nat → Nat → Int32} {T T2 : Nat → Bool} (hT : ∀ p, p < N 0 → T p = T2 p) (p : Nat) : fmI N R T p = fmI N R T2 p := by
  unfold fmI
  rw [frI_cg hT]
theorem nwB_cg {N : Nat → Nat} {R : Nat → Nat → Int32} (hH : WHo N R) {g g2 : Nat → Int32} (hg : ∀ p, p < N 0 → g p = g2 p) {s s2 : Nat → Nat} (hs : ∀ p, p < N 0 → s p = s2 p) {p : Nat} (hp : s p = s2 p) : nwB N R g s p = nwB N R g2 s2 p := by
  have hT : ∀ p, p < N 0 → tkN s p = tkN s2 p := fun p h => by unfold tkN; rw [hs p h]
  unfold nwB
  rw [fmI_cg hT, nwH_cg hH hg hT, hp]
theorem stF_cg {N : Nat → Nat} {R : Nat → Nat → Int32} (hH : WHo N R) {g g2 : Nat → Int32} (hg : ∀ p, p < N 0 → g p = g2 p) : ∀ k, stF N R g k = stF N R g2 k := by
  intro k
  induction k with
  | zero => rfl
  | succ k ih =>
    funext p
    rw [stF_s, stF_s, ih, nwB_cg hH hg (fun _ _ => rfl) rfl]
theorem stF_le (N : Nat → Nat) (R : Nat → Nat → Int32) (g : Nat → Int32) : ∀ k p, stF N R g k p ≤ k := by
  intro k
  induction k with
  | zero => intro p; exact Nat.le_refl 0
  | succ k ih =>
    intro p
    rw [stF_s]
    split
    · exact Nat.le_refl _
    · have := ih p; omega
theorem stF_keep {N : Nat → Nat} {R : Nat → Nat → Int32} {g : Nat → Int32} {k p : Nat} (h : 0 < stF N R g k p) : stF N R g (k + 1) p = stF N R g k p := by
  rw [stF_s, if_neg]
  intro q
  have : decide (stF N R g k p = 0) = false := decide_eq_false (by omega)
  rw [nwB, this] at q
  cases q
theorem stF_no {N : Nat → Nat} {R : Nat → Nat → Int32} {g : Nat → Int32} {k p : Nat} (h : nwB N R g (stF N R g k) p = false) : stF N R g (k + 1) p = stF N R g k p := by
  rw [stF_s, if_neg]
  rw [h]
  exact Bool.false_ne_true
theorem stF_yes {N : Nat → Nat} {R : Nat → Nat → Int32} {g : Nat → Int32} {k p : Nat} (h : nwB N R g (stF N R g k) p = true) : stF N R g (k + 1) p = k + 1 := by
  rw [stF_s, if_pos h]
/-- no more is taken once a step took none -/
theorem stF_stop {N : Nat → Nat} {R : Nat → Nat → Int32} {g : Nat → Int32} (hH : WHo N R) {k : Nat} (h : ∀ p, p < N 0 → nwB N R g (stF N R g k) p = false) : ∀ j p, p < N 0 → stF N R g (k + j) p = stF N R g k p := by
  intro j
  induction j with
  | zero => intro p _; rfl
  | succ j ih =>
    intro p hp
    rw [show k + (j + 1) = (k + j) + 1 by omega, stF_no, ih p hp]
    rw [nwB_cg hH (fun _ _ => rfl) ih (ih p hp)]
    exact h p hp
def cnS (N : Nat → Nat) (s : Nat → Nat) : Nat := fb_ct (tkN s) (N 0)
theorem cnS_le (N : Nat → Nat) (s : Nat → Nat) : cnS N s ≤ N 0 := fb_ct_le _ _
theorem ct_lt {p q : Nat → Bool} : ∀ {n : Nat}, (∀ k, k < n → p k = true → q k = true) → (∃ k, k < n ∧ p k = false ∧ q k = true) → fb_ct p n < fb_ct q n
  | 0, _, h => by obtain ⟨k, hk, _⟩ := h; exact absurd hk (Nat.not_lt_zero k)
  | n + 1, h, hx => by
    have h1 := fb_ct_sub (p := p) (q := q) (n := n) (fun k hk => h k (Nat.lt_succ_of_lt hk))
    rw [fb_ct_succ, fb_ct_succ]
    obtain ⟨k, hk, e1, e2⟩ := hx
    by_cases e : k = n
    · subst e
      rw [e1, e2]
      simp
      omega
    · have h2 := ct_lt (p := p) (q := q) (n := n) (fun k hk => h k (Nat.lt_succ_of_lt hk)) ⟨k, by omega, e1, e2⟩
      have h3 : (if p n = true then 1 else 0) ≤ (if q n = true then 1 else 0) := by
        by_cases hp : p n = true
        · rw [h n (Nat.lt_succ_self n) hp, if_pos hp]; exact Nat.le_refl _
        · rw [if_neg hp]; exact Nat.zero_le _
      omega
/-- a step that takes one brings the count up -/
theorem cnS_up {N : Nat → Nat} {R : Nat → Nat → Int32} {g : Nat → Int32} {k : Nat} (h : ∃ p, p < N 0 ∧ nwB N R g (stF N R g k) p = true) : cnS N (stF N R g k) < cnS N (stF N R g (k + 1)) := by
  obtain ⟨p, hp, hn⟩ := h
  refine ct_lt (fun q _ hq => ?_) ⟨p, hp, ?_, ?_⟩
  · have h1 : 0 < stF N R g k q := of_decide_eq_true hq
    unfold tkN
    rw [stF_keep h1]
    exact hq
  · unfold nwB at hn
    have h1 : stF N R g k p = 0 := by
      by_cases e : stF N R g k p = 0
      · exact e
      · rw [decide_eq_false e] at hn; cases hn
    unfold tkN
    rw [h1]; rfl
  · unfold tkN
    rw [stF_yes hn]
    exact decide_eq_true (Nat.succ_pos k)
/-- the steps row, the holes row and the parts row say what the steps v say -/
def RowS (N : Nat → Nat) (R : Nat → Nat → Int32) (g : Nat → Int32) (v : Nat → Nat) (r14 r15 r16 : Nat → Int32) : Prop := ∀ p, p < N 0 → r14 p = nI (v p) ∧ (0 < v p → r15 p = nI (nwH N R g (tkN (stF N R g (v p - 1))) p) ∧ r16 p = fmI N R (tkN (stF N R g (v p - 1))) p)
def mixS (N : Nat → Nat) (R : Nat → Nat → Int32) (g : Nat → Int32) (k p q : Nat) : Nat := if q < p then stF N R g (k + 1) q else stF N R g k q
theorem mixS_0 (N : Nat → Nat) (R : Nat → Nat → Int32) (g : Nat → Int32) (k : Nat) : mixS N R g k 0 = stF N R g k := by
  funext q
  exact if_neg (Nat.not_lt_zero q)
theorem mixS_at (N : Nat → Nat) (R : Nat → Nat → Int32) (g : Nat → Int32) (k p : Nat) : mixS N R g k p p = stF N R g k p := if_neg (Nat.lt_irrefl p)
theorem mixS_ne {N : Nat → Nat} {R : Nat → Nat → Int32} {g : Nat → Int32} {k p q : Nat} (h : q ≠ p) : mixS N R g k (p + 1) q = mixS N R g k p q := by
  unfold mixS
  by_cases e : q < p
  · rw [if_pos e, if_pos (by omega)]
  · rw [if_neg e, if_neg (by omega)]
theorem mixS_s (N : Nat → Nat) (R : Nat → Nat → Int32) (g : Nat → Int32) (k p : Nat) : mixS N R g k (p + 1) p = stF N R g (k + 1) p := if_pos (Nat.lt_succ_self p)
theorem tk_mix {N : Nat → Nat} {R : Nat → Nat → Int32} {g : Nat → Int32} {k p : Nat} {r14 r15 r16 : Nat → Int32} (hk : k < 1000) (h : RowS N R g (mixS N R g k p) r14 r15 r16) : ∀ q, q < N 0 → tkB r14 (nI (k + 1)) q = tkN (stF N R g k) q := by
  intro q hq
  have h1 := (h q hq).1
  have hle := stF_le N R g k q
  have key : ∀ v : Nat, v ≤ k + 1 → decide (¬ nI v ≤ 0 ∧ ¬ nI (k + 1) ≤ nI v) = decide (0 < v ∧ v < k + 1) := by
    intro v hv
    apply decide_eq_decide.mpr
    rw [nI_leI (by omega) (by omega), show (0 : Int32) = nI 0 from rfl, nI_leI (by omega) (by omega)]
    omega
  unfold tkB tkN
  rw [h1]
  unfold mixS
  by_cases e : q < p
  · rw [if_pos e]
    by_cases n : nwB N R g (stF N R g k) q = true
    · rw [stF_yes n, key _ (Nat.le_refl _)]
      have h0 : stF N R g k q = 0 := by
        unfold nwB at n
        by_cases e : stF N R g k q = 0
        · exact e
        · rw [decide_eq_false e] at n; cases n
      rw [h0]
      simp
    · rw [stF_no (ts_nt n), key _ (by omega)]
      apply decide_eq_decide.mpr
      omega
  · rw [if_neg e, key _ (by omega)]
    apply decide_eq_decide.mpr
    omega
theorem row_no {N : Nat → Nat} {R : Nat → Nat → Int32} {g : Nat → Int32} {k p : Nat} {r14 r15 r16 : Nat → Int32} (h : RowS N R g (mixS N R g k p) r14 r15 r16) (hn : nwB N R g (stF N R g k) p = false) : RowS N R g (mixS N R g k (p + 1)) r14 r15 r16 := by
  have e : mixS N R g k (p + 1) = mixS N R g k p := by
    funext q
    by_cases e : q = p
    · rw [e, mixS_s, mixS_at, stF_no hn]
    · exact mixS_ne e
  rw [e]
  exact h
theorem row_yes {N : Nat → Nat} {R : Nat → Nat → Int32} {g : Nat → Int32} {k p : Nat} {r14 r15 r16 : Nat → Int32} (h : RowS N R g (mixS N R g k p) r14 r15 r16) (hn : nwB N R g (stF N R g k) p = true) {j : Nat} {x : Int32} (hj : nwH N R g (tkN (stF N R g k)) p = j) (hx : x = fmI N R (tkN (stF N R g k)) p) : RowS N R g (mixS N R g k (p + 1)) (upd r14 p (nI (k + 1))) (upd r15 p (nI j)) (upd r16 p x) := by
  intro q hq
  by_cases e : q = p
  · subst e
    rw [pk_us, pk_us, pk_us, mixS_s, stF_yes hn]
    exact ⟨rfl, fun _ => ⟨by rw [Nat.add_sub_cancel, hj], by rw [Nat.add_sub_cancel]; exact hx⟩⟩
  · rw [pk_un e, pk_un e, pk_un e, mixS_ne e]
    exact h q hq
/-- the sum of the worths of those taken, of those by a used one twice -/
def usF (R : Nat → Nat → Int32) (g : Nat → Int32) (p : Nat) : Nat → Bool
  | 0 => false
  | n + 1 => usF R g p n || (decide (wh R n = p) && (decide (kd R n = 3) && stB R g n))
def rkF (N : Nat → Nat) (R : Nat → Nat → Int32) (g : Nat → Int32) (p : Nat) : Nat := if 0 < eS N R g p then (if usF R g p (N 6) = true then 2 * wo R p else wo R p) else 0
def rsk (N : Nat → Nat) (R : Nat → Nat → Int32) (g : Nat → Int32) : Nat := fb_sm (rkF N R g) (N 0)
theorem usF_cg {N : Nat → Nat} {R : Nat → Nat → Int32} (hH : WHo N R) {g g2 : Nat → Int32} (hg : ∀ p, p < N 0 → g p = g2 p) (p : Nat) : ∀ n, n ≤ N 6 → usF R g p n = usF R g2 p n := by
  intro n
  induction n with
  | zero => intro _; rfl
  | succ n ih =>
    intro hn
    rw [usF, usF, ih (by omega), stB_cg hH hg (by omega : n < N 6)]
theorem rsk_cg {N : Nat → Nat} {R : Nat → Nat → Int32} (hH : WHo N R) {g g2 : Nat → Int32} (hg : ∀ p, p < N 0 → g p = g2 p) : rsk N R g = rsk N R g2 := by
  unfold rsk
  refine fb_sm_cong (fun p _ => ?_)
  unfold rkF
  rw [usF_cg hH hg p _ (Nat.le_refl _), eS, stF_cg hH hg]
theorem RowS_cg {N : Nat → Nat} {R : Nat → Nat → Int32} (hH : WHo N R) {g g2 : Nat → Int32} (hg : ∀ p, p < N 0 → g p = g2 p) {v : Nat → Nat} {a b c : Nat → Int32} (h : RowS N R g v a b c) : RowS N R g2 v a b c := by
  intro p hp
  refine ⟨(h p hp).1, fun h0 => ?_⟩
  rw [← stF_cg hH hg, ← nwH_cg hH hg (fun _ _ => rfl)]
  exact (h p hp).2 h0
theorem rsk_le {N : Nat → Nat} {R : Nat → Nat → Int32} {g : Nat → Int32} (hP : WPt N R) (hB : Bd N) : rsk N R g ≤ 16000 := by
  have h : rsk N R g ≤ N 0 * 2000 := by
    unfold rsk
    refine fb_sm_bound (fun p hp => ?_)
    have := (hP p hp).1.2
    unfold rkF
    split
    · split <;> omega
    · omega
  have := hB.1
  have : N 0 * 2000 ≤ 8 * 2000 := Nat.mul_le_mul_right _ this
  omega
theorem RowS_v {N : Nat → Nat} {R : Nat → Nat → Int32} {g : Nat → Int32} {v v2 : Nat → Nat} {a b c : Nat → Int32} (e : ∀ p, p < N 0 → v p = v2 p) (h : RowS N R g v a b c) : RowS N R g v2 a b c := by
  intro p hp
  rw [← e p hp]
  exact h p hp
theorem row_end {N : Nat → Nat} {R : Nat → Nat → Int32} {g : Nat → Int32} {k p : Nat} {a b c : Nat → Int32} (hp : N 0 ≤ p) (h : RowS N R g (mixS N R g k p) a b c) : RowS N R g (stF N R g (k + 1)) a b c :=
  RowS_v (fun q hq => if_pos (by omega)) h
theorem stF_fin {N : Nat → Nat} {R : Nat → Nat → Int32} {g : Nat → Int32} (hH : WHo N R) {k : Nat} (hk : k ≤ 8) (h : ∀ p, p < N 0 → nwB N R g (stF N R g k) p = false) : ∀ p, p < N 0 → stF N R g (k + 1) p = eS N R g p := by
  intro p hp
  rw [stF_stop hH h 1 p hp, eS, ← stF_stop hH h (8 - k) p hp, show k + (8 - k) = 8 by omega]
