theorem vt0 (R : Nat → Nat → Int32) : ∀ n, vtF R 0 n = R 1 := by
  intro n
  induction n with
  | zero => rfl
  | succ n ih => rw [vtF, if_neg (by simp), ih]
theorem or256 {d m : Nat} (hd : d < 256) (hm : m < 8) : d ||| 2 ^ m < 256 := Nat.or_lt_two_pow (n := 8) hd (Nat.pow_lt_pow_right (by decide) hm)
/-- the number of a set of parts -/
def msk (b : Nat → Bool) : Nat → Nat
  | 0 => 0
  | n + 1 => msk b n ||| (if b n = true then 2 ^ n else 0)
theorem msk_lt (b : Nat → Bool) : ∀ n, msk b n < 2 ^ n := by
  intro n
  induction n with
  | zero => exact Nat.one_pos
  | succ n ih =>
    rw [msk]
    refine Nat.or_lt_two_pow (Nat.lt_trans ih (Nat.pow_lt_pow_right (by decide) (Nat.lt_succ_self n))) ?_
    split
    · exact Nat.pow_lt_pow_right (by decide) (Nat.lt_succ_self n)
    · exact Nat.two_pow_pos _
theorem msk_cg {b b2 : Nat → Bool} : ∀ {n : Nat}, (∀ k, k < n → b k = b2 k) → msk b n = msk b2 n := by
  intro n
  induction n with
  | zero => intro _; rfl
  | succ n ih => intro h; rw [msk, msk, ih (fun k hk => h k (by omega)), h n (by omega)]
/-- promise 10 -/
def sp_told (N : Nat → Nat) (R : Nat → Nat → Int32) (h w : Int32) : Int32 :=
  if isP (N 6) h = true then
    if w = 0 then R 7 h.toNatClampNeg else if w = 1 then R 8 h.toNatClampNeg else if w = 2 then R 9 h.toNatClampNeg else if w = 3 then R 10 h.toNatClampNeg else if w = 4 then bI (stB R (R 1) h.toNatClampNeg) else -1
  else -1
/-- promise 11 -/
def sp_risk (N : Nat → Nat) (R : Nat → Nat → Int32) : Int32 := nI (rsk N R (R 1))
/-- promise 12 -/
def sp_taken (N : Nat → Nat) (R : Nat → Nat → Int32) : Int32 := nI (msk (tkN (eS N R (R 1))) (N 0))
/-- promise 13 -/
def sp_way (N : Nat → Nat) (R : Nat → Nat → Int32) (x w : Int32) : Int32 :=
  if isP (N 0) x = true ∧ inB w (nI 0) (nI 2) = true then
    if eS N R (R 1) x.toNatClampNeg = 0 then -4
    else if w = 0 then nI (eS N R (R 1) x.toNatClampNeg)
    else if w = nI 1 then nI (nwH N R (R 1) (tkN (stF N R (R 1) (eS N R (R 1) x.toNatClampNeg - 1))) x.toNatClampNeg)
    else fmI N R (tkN (stF N R (R 1) (eS N R (R 1) x.toNatClampNeg - 1))) x.toNatClampNeg
  else -1
/-- promise 14 -/
def gR (R : Nat → Nat → Int32) (p : Nat) : Nat → Nat → Int32 := va_up R 4 (upd (R 4) p (nI 1))
def bgF (N : Nat → Nat) (R : Nat → Nat → Int32) : Nat → Int32 × Nat
  | 0 => (-4, rsk N R (R 1))
  | p + 1 => if R 4 p = 0 ∧ rsk N (gR R p) (R 1) < (bgF N R p).2 then (nI p, rsk N (gR R p) (R 1)) else bgF N R p
def sp_bestGuard (N : Nat → Nat) (R : Nat → Nat → Int32) : Int32 := (bgF N R (N 0)).1
theorem va_upI (R : Nat → Nat → Int32) (k : Nat) : va_up R k (R k) = R := by
  funext j
  unfold va_up
  by_cases e : j = k
  · rw [if_pos e, e]
  · rw [if_neg e]
theorem gd_back {R : Nat → Nat → Int32} {p : Nat} (h : R 4 p = 0) : va_up R 4 (upd (upd (R 4) p (nI 1)) p (nI 0)) = R := by
  rw [fa_upd_twice, fa_upd_same (show R 4 p = nI 0 from h), va_upI]
theorem WFm_g {N : Nat → Nat} {R : Nat → Nat → Int32} {p : Nat} (h : WFm N R) : WFm N (gR R p) := by
  refine ⟨h.1, h.2.1, fun i => ?_, h.2.2.2⟩
  obtain ⟨a, b, c, d⟩ := h.2.2.1 i
  refine ⟨a, ?_, c, d⟩
  show upd (R 4) p (nI 1) i = 0 ∨ upd (R 4) p (nI 1) i = 1
  by_cases e : i = p
  · rw [e, pk_us]; exact Or.inr rfl
  · rw [pk_un e]; exact b
/-- promise 15 -/
def sp_mend (N : Nat → Nat) (R : Nat → Nat → Int32) (x v hn nd f la : Int32) : Int32 × SR :=
  if isP (N 0) x = true ∧ isV v = true ∧ inB hn (nI 1) (nI 9) = true ∧ inB nd (-1) (nI (N 17) - nI 1) = true ∧ inB f (nI 0) la = true ∧ la ≤ nI 5 then
    if N 17 = 8 then (-3, N, R) else (nI (N 17), va_up N 17 (N 17 + 1), va_up (va_up (va_up (va_up (va_up (va_up R 18 (upd (R 18) (N 17) x)) 19 (upd (R 19) (N 17) v)) 20 (upd (R 20) (N 17) hn)) 21 (upd (R 21) (N 17) nd)) 22 (upd (R 22) (N 17) f)) 23 (upd (R 23) (N 17) la))
  else (-1, N, R)
/-- promise 16 -/
def sp_quarrel (N : Nat → Nat) (R : Nat → Nat → Int32) (x v y w : Int32) : Int32 × SR :=
  if isP (N 0) x = true ∧ isP (N 0) y = true ∧ ¬ x = y ∧ isV v = true ∧ isV w = true then
    if N 24 = 8 then (-3, N, R) else (nI (N 24 + 1), va_up N 24 (N 24 + 1), va_up R 25 (upd (upd (upd (upd (R 25) (4 * N 24) x) (4 * N 24 + 1) v) (4 * N 24 + 2) y) (4 * N 24 + 3) w))
  else (-1, N, R)
/-- whether a quarrel holds, with the versions g -/
def quF (R : Nat → Nat → Int32) (g : Nat → Int32) : Nat → Bool
  | 0 => false
  | n + 1 => quF R g n || (decide (g (qa R n) = R 25 (4 * n + 1)) && decide (g (qb R n) = R 25 (4 * n + 3)))
theorem quF_cg {N : Nat → Nat} {R : Nat → Nat → Int32} (hQ : WQu N R) {g g2 : Nat → Int32} (hg : ∀ p, p < N 0 → g p = g2 p) : ∀ n, n ≤ N 24 → quF R g n = quF R g2 n := by
  intro n
  induction n with
  | zero => intro _; rfl
  | succ n ih =>
    intro hn
    rw [quF, quF, ih (by omega), hg _ (hQ n (by omega)).1.2, hg _ (hQ n (by omega)).2.2]
/-- whether every mend of the set has its need in it -/
def neF (R : Nat → Nat → Int32) (d : Nat) : Nat → Bool
  | 0 => true
  | n + 1 => neF R d n && (!(d.testBit n) || (decide (R 21 n < 0) || d.testBit (mn R n)))
def soB (N : Nat → Nat) (R : Nat → Nat → Int32) (d : Nat) : Bool := neF R d (N 17) && !(quF R (vtF R d (N 17)) (N 24))
theorem neF_false {R : Nat → Nat → Int32} {d : Nat} : ∀ {n i : Nat}, i < n → (!(d.testBit i) || (decide (R 21 i < 0) || d.testBit (mn R i))) = false → neF R d n = false := by
  intro n
  induction n with
  | zero => intro i h; exact absurd h (Nat.not_lt_zero i)
  | succ n ih =>
    intro i hi h
    rw [neF]
    by_cases e : i = n
    · rw [← e, h, Bool.and_false]
    · rw [ih (by omega) h, Bool.false_and]
theorem need_of {R : Nat → Nat → Int32} {m : Nat} (h : R 21 m = -1 ∨ (R 21 m = nI (mn R m) ∧ mn R m < m)) (h2 : ¬ R 21 m < 0) : R 21 m = nI (mn R m) ∧ mn R m < m := by
  rcases h with h | h
  · rw [h] at h2; exact absurd (by decide) h2
  · exact h
/-- promise 17 -/
def sp_riskWith (N : Nat → Nat) (R : Nat → Nat → Int32) (x : Int32) : Int32 := if isP (2 ^ N 17) x = true then nI (rsk N R (vtF R x.toNatClampNeg (N 17))) else -1
/-- promise 18 -/
def sp_sound (N : Nat → Nat) (R : Nat → Nat → Int32) (x : Int32) : Int32 := if isP (2 ^ N 17) x = true then bI (soB N R x.toNatClampNeg) else -1
/-- promise 19 -/
def sp_gain (N : Nat → Nat) (R : Nat → Nat → Int32) (x y : Int32) : Int32 :=
  if isP (N 17) x = true ∧ isP (2 ^ N 17) y = true ∧ y.toNatClampNeg.testBit x.toNatClampNeg = false then nI (rsk N R (vtF R y.toNatClampNeg (N 17))) - nI (rsk N R (vtF R (y.toNatClampNeg ||| 2 ^ x.toNatClampNeg) (N 17))) else -100001
/-- promise 20 -/
def nxV (N : Nat → Nat) (R : Nat → Nat → Int32) (d k : Nat) : Int32 := nI (rsk N R (vtF R d (N 17))) - nI (rsk N R (vtF R (d ||| 2 ^ k) (N 17)))
def nxF (N : Nat → Nat) (R : Nat → Nat → Int32) (d : Nat) : Nat → Int32 × Int32
  | 0 => (-4, nI 0)
  | k + 1 => if d.testBit k = false ∧ soB N R (d ||| 2 ^ k) = true ∧ ¬ nxV N R d k ≤ 0 ∧ ((nxF N R d k).1 = -4 ∨ ¬ nxV N R d k * R 20 (nxF N R d k).1.toNatClampNeg ≤ (nxF N R d k).2 * R 20 k) then (nI k, nxV N R d k) else nxF N R d k
def sp_next (N : Nat → Nat) (R : Nat → Nat → Int32) (x : Int32) : Int32 := if isP (2 ^ N 17) x = true then (nxF N R x.toNatClampNeg (N 17)).1 else -1
