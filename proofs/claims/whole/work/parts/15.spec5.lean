/-- promise 22 -/
def sp_week (N : Nat → Nat) (R : Nat → Nat → Int32) (x : Int32) : Int32 := if isP (N 17) x = true then if N 30 = 0 then -4 else R 31 x.toNatClampNeg else -1
/-- promise 23 -/
def mvB (R : Nat → Nat → Int32) (k : Nat) : Bool := decide (¬ R 31 k = R 32 k)
def sp_moved (N : Nat → Nat) (R : Nat → Nat → Int32) : Int32 := if N 30 < 2 then -4 else nI (msk (mvB R) 8)
/-- promise 24 -/
def mkV (R : Nat → Nat → Int32) (j : Nat) : Int32 := if R 19 j ≤ R 1 (mp R j) then R 1 (mp R j) else R 19 j
def mkR (R : Nat → Nat → Int32) (j : Nat) : Nat → Nat → Int32 := va_up R 1 (upd (R 1) (mp R j) (mkV R j))
def mkN (N : Nat → Nat) (R : Nat → Nat → Int32) (j : Nat) : Bool := quF R (vtF R (2 ^ j) (N 17)) (N 24) || (!decide (R 21 j < 0) && decide (¬ R 19 (mn R j) ≤ R 1 (mp R (mn R j))))
def sp_make (N : Nat → Nat) (R : Nat → Nat → Int32) (x : Int32) : Int32 × SR :=
  if isP (N 17) x = true then
    if mkN N R x.toNatClampNeg = true then (-2, N, R)
    else ((100000 + nI (rsk N R (R 1))) - nI (rsk N (mkR R x.toNatClampNeg) (mkR R x.toNatClampNeg 1)), N, mkR R x.toNatClampNeg)
  else (-1, N, R)
theorem WFm_mk {N : Nat → Nat} {R : Nat → Nat → Int32} {j : Nat} (h : WFm N R) (hj : j < N 17) : WFm N (mkR R j) := by
  refine ⟨h.1, fun p hp => ⟨(h.2.1 p hp).1, ?_⟩, h.2.2⟩
  show isV (upd (R 1) (mp R j) (mkV R j) p) = true
  by_cases e : p = mp R j
  · rw [e, pk_us]
    unfold mkV
    split
    · exact (h.2.1 _ (h.2.2.2.2.1 j hj).2.1).2
    · exact (h.2.2.2.2.1 j hj).2.2.2.2.2.2.2.2
  · rw [pk_un e]; exact (h.2.1 p hp).2
/-- promise 25 -/
def sp_count (N : Nat → Nat) (R : Nat → Nat → Int32) (w : Int32) : Int32 :=
  if w = 0 then nI (N 0) else if w = 1 then nI (N 6) else if w = 2 then nI (N 17) else if w = 3 then nI (N 24) else if w = 4 then nI (fb_ct (stB R (R 1)) (N 6)) else if w = 5 then nI (fb_ct (tkN (eS N R (R 1))) (N 0)) else -1
/-! promise 21: the plan -/
def miF (R : Nat → Nat → Int32) (d w : Nat) : Nat → Bool
  | 0 => true
  | n + 1 => miF R d w n && (!(d.testBit n) || inB (nI w) (R 22 n) (R 23 n))
def haF (R : Nat → Nat → Int32) (d : Nat) : Nat → Nat
  | 0 => 0
  | n + 1 => haF R d n + (if d.testBit n = true then mh R n else 0)
def mayB (N : Nat → Nat) (R : Nat → Nat → Int32) (d w : Nat) (hd : Int32) : Bool := miF R d w (N 17) && decide (nI (haF R d (N 17)) ≤ hd)
theorem miF_false {R : Nat → Nat → Int32} {d w : Nat} : ∀ {n i : Nat}, i < n → (!(d.testBit i) || inB (nI w) (R 22 i) (R 23 i)) = false → miF R d w n = false := by
  intro n
  induction n with
  | zero => intro i h; exact absurd h (Nat.not_lt_zero i)
  | succ n ih =>
    intro i hi h
    rw [miF]
    by_cases e : i = n
    · rw [← e, h, Bool.and_false]
    · rw [ih (by omega) h, Bool.false_and]
def rk (N : Nat → Nat) (R : Nat → Nat → Int32) (d : Nat) : Nat := rsk N R (vtF R d (N 17))
/-- of the sets below n for one week: the least sum from it on, and the set -/
def bsF (N : Nat → Nat) (R : Nat → Nat → Int32) (w : Nat) (hd : Int32) (rest : Nat → Int32) (d : Nat) : Nat → Int32 × Nat
  | 0 => (-1, 0)
  | n + 1 => if n &&& d = 0 ∧ soB N R (d ||| n) = true ∧ mayB N R n w hd = true ∧ ¬ rest (d ||| n) < 0 ∧ ((bsF N R w hd rest d n).1 < 0 ∨ ¬ (bsF N R w hd rest d n).1 ≤ rest (d ||| n) + nI (rk N R d)) then (rest (d ||| n) + nI (rk N R d), n) else bsF N R w hd rest d n
/-- the least sum of the last r weeks of ws, and the set of the first of them -/
def lsF (N : Nat → Nat) (R : Nat → Nat → Int32) (ws : Nat) (hd : Int32) : Nat → Nat → Int32 × Nat
  | 0 => fun d => (nI (rk N R d), 0)
  | r + 1 => fun d => bsF N R (ws - (r + 1)) hd (fun z => (lsF N R ws hd r z).1) d (2 ^ N 17)
def dnF (N : Nat → Nat) (R : Nat → Nat → Int32) (ws : Nat) (hd : Int32) : Nat → Nat
  | 0 => 0
  | w + 1 => dnF N R ws hd w ||| (lsF N R ws hd (ws - w) (dnF N R ws hd w)).2
def wnF (N : Nat → Nat) (R : Nat → Nat → Int32) (ws : Nat) (hd : Int32) : Nat → Nat → Int32
  | 0 => fun _ => -4
  | w + 1 => fun k => if (lsF N R ws hd (ws - w) (dnF N R ws hd w)).2.testBit k = true then nI w else wnF N R ws hd w k
def plR (N : Nat → Nat) (R : Nat → Nat → Int32) (ws : Nat) (hd : Int32) : Nat → Nat → Int32 := va_up (va_up R 31 (fun k => if k < N 17 then wnF N R ws hd ws k else if k < 8 then -4 else R 31 k)) 32 (fun k => if k < 8 then R 31 k else R 32 k)
def sp_plan (N : Nat → Nat) (R : Nat → Nat → Int32) (w hd : Int32) : Int32 × SR :=
  if inB w (nI 1) (nI 6) = true ∧ inB hd (nI 0) (nI 99) = true then
    if soB N R 0 = true then ((lsF N R w.toNatClampNeg hd w.toNatClampNeg 0).1, va_up N 30 (N 30 + 1), plR N R w.toNatClampNeg hd)
    else (-2, N, R)
  else (-1, N, R)
/-! what is so of the sums: for a sound set none is below 0, and the set chosen is a set -/
theorem bs_c {N : Nat → Nat} {R : Nat → Nat → Int32} {w : Nat} {hd : Int32} {rest : Nat → Int32} {d : Nat} : ∀ n, ((bsF N R w hd rest d n).1 = -1 ∧ (bsF N R w hd rest d n).2 = 0) ∨ ((bsF N R w hd rest d n).2 < n ∧ (bsF N R w hd rest d n).2 &&& d = 0 ∧ soB N R (d ||| (bsF N R w hd rest d n).2) = true ∧ mayB N R (bsF N R w hd rest d n).2 w hd = true ∧ ¬ rest (d ||| (bsF N R w hd rest d n).2) < 0 ∧ (bsF N R w hd rest d n).1 = rest (d ||| (bsF N R w hd rest d n).2) + nI (rk N R d)) := by
  intro n
  induction n with
  | zero => exact Or.inl ⟨rfl, rfl⟩
  | succ n ih =>
    rw [bsF]
    split
    · rename_i h
      exact Or.inr ⟨Nat.lt_succ_self n, h.1, h.2.1, h.2.2.1, h.2.2.2.1, rfl⟩
    · rcases ih with h | h
      · exact Or.inl h
      · exact Or.inr ⟨Nat.lt_succ_of_lt h.1, h.2⟩
theorem bs_1 {N : Nat → Nat} {R : Nat → Nat → Int32} {w : Nat} {hd : Int32} {rest : Nat → Int32} {d : Nat} (h1 : soB N R d = true) (h2 : mayB N R 0 w hd = true) (h3 : ¬ rest d < 0) : ∀ n, 0 < n → (bsF N R w hd rest d n).2 < n ∧ (bsF N R w hd rest d n).2 &&& d = 0 ∧ soB N R (d ||| (bsF N R w hd rest d n).2) = true ∧ mayB N R (bsF N R w hd rest d n).2 w hd = true ∧ ¬ rest (d ||| (bsF N R w hd rest d n).2) < 0 ∧ (bsF N R w hd rest d n).1 = rest (d ||| (bsF N R w hd rest d n).2) + nI (rk N R d) := by
  intro n
  induction n with
  | zero => intro h; exact absurd h (Nat.lt_irrefl 0)
  | succ n ih =>
    intro _
    rw [bsF]
    split
    · rename_i h
      exact ⟨Nat.lt_succ_self n, h.1, h.2.1, h.2.2.1, h.2.2.2.1, rfl⟩
    · rename_i h
      cases n with
      | zero =>
        exact absurd ⟨Nat.zero_and d, by rw [Nat.or_zero]; exact h1, h2, by rw [Nat.or_zero]; exact h3, Or.inl (by rw [bsF]; decide)⟩ h
      | succ n =>
        have := ih (Nat.succ_pos n)
        exact ⟨Nat.lt_succ_of_lt this.1, this.2⟩
theorem mi0 (R : Nat → Nat → Int32) (w : Nat) : ∀ n, miF R 0 w n = true := by
  intro n
  induction n with
  | zero => rfl
  | succ n ih => rw [miF, ih, Nat.zero_testBit]; rfl
theorem ha0 (R : Nat → Nat → Int32) : ∀ n, haF R 0 n = 0 := by
  intro n
  induction n with
  | zero => rfl
  | succ n ih => rw [haF, ih, Nat.zero_testBit]; rfl
theorem may0 {N : Nat → Nat} {R : Nat → Nat → Int32} {w : Nat} {hd : Int32} (h : inB hd (nI 0) (nI 99) = true) : mayB N R 0 w hd = true := by
  unfold mayB
  rw [mi0, ha0, decide_eq_true (of_decide_eq_true h).1]
  rfl
theorem or_lt2 {a b n : Nat} (ha : a < 2 ^ n) (hb : b < 2 ^ n) : a ||| b < 2 ^ n := Nat.or_lt_two_pow ha hb
/-- sums of sound sets: in range; the set chosen is one -/
theorem ls_ok {N : Nat → Nat} {R : Nat → Nat → Int32} {ws : Nat} {hd : Int32} (hP : WPt N R) (hB : Bd N) (hh : inB hd (nI 0) (nI 99) = true) : ∀ r, r ≤ 1000 → ∀ d, d < 2 ^ N 17 → soB N R d = true → (0 ≤ (lsF N R ws hd r d).1.toInt ∧ (lsF N R ws hd r d).1.toInt ≤ 16000 * (r + 1)) ∧ ((lsF N R ws hd r d).2 < 2 ^ N 17 ∧ (lsF N R ws hd r d).2 &&& d = 0 ∧ soB N R (d ||| (lsF N R ws hd r d).2) = true) := by
  intro r
  induction r with
  | zero =>
    intro _ d hd2 hs
    have h := rsk_le (g := vtF R d (N 17)) hP hB
    refine ⟨?_, Nat.two_pow_pos _, Nat.zero_and d, by show soB N R (d ||| 0) = true; rw [Nat.or_zero]; exact hs⟩
    show 0 ≤ (nI (rk N R d)).toInt ∧ (nI (rk N R d)).toInt ≤ _
    rw [nI_toInt (by unfold rk; omega)]
    unfold rk
    omega
  | succ r ih =>
    intro hr d hd2 hs
    have h0 := ih (by omega) d hd2 hs
    have hb := bs_1 (rest := fun z => (lsF N R ws hd r z).1) (w := ws - (r + 1)) hs (may0 hh) (fun q => by have := (fa_lt _ _).mp q; have h9 : (0 : Int32).toInt = 0 := rfl; rw [h9] at this; exact absurd h0.1.1 (by omega)) (2 ^ N 17) (Nat.two_pow_pos _)
    have e : lsF N R ws hd (r + 1) d = bsF N R (ws - (r + 1)) hd (fun z => (lsF N R ws hd r z).1) d (2 ^ N 17) := rfl
    rw [e]
    obtain ⟨b1, b2, b3, b4, b5, b6⟩ := hb
    have hx := ih (by omega) _ (or_lt2 hd2 b1) b3
    have hk := rsk_le (g := vtF R d (N 17)) hP hB
    refine ⟨?_, b1, b2, b3⟩
    rw [b6]
    have ha : (nI (rk N R d)).toInt = (rk N R d : Int) := nI_toInt (by unfold rk; omega)
    have hk2 : rk N R d ≤ 16000 := hk
    rw [fb_addI (by rw [ha]; have := hx.1.1; omega) (by rw [ha]; have := hx.1.2; omega), ha]
    have := hx.1
    omega
theorem dn_ok {N : Nat → Nat} {R : Nat → Nat → Int32} {ws : Nat} {hd : Int32} (hP : WPt N R) (hB : Bd N) (hh : inB hd (nI 0) (nI 99) = true) (hws : ws ≤ 1000) (h0 : soB N R 0 = true) : ∀ w, dnF N R ws hd w < 2 ^ N 17 ∧ soB N R (dnF N R ws hd w) = true := by
  intro w
  induction w with
  | zero => exact ⟨Nat.two_pow_pos _, h0⟩
  | succ w ih =>
    have h := (ls_ok (ws := ws) hP hB hh (ws - w) (by omega) _ ih.1 ih.2).2
    exact ⟨or_lt2 ih.1 h.1, h.2.2⟩
theorem nneg {x : Int32} (h : 0 ≤ x.toInt) : ¬ x < 0 := fun q => by
  have := (fa_lt _ _).mp q
  have h9 : (0 : Int32).toInt = 0 := rfl
  rw [h9] at this
  omega
theorem sub_dec (a b : Nat) : (nI a - nI b) + Int32.ofInt (-1) = nI a - nI (b + 1) := by
  have h : nI (b + 1) = nI b + 1 := nI_succ b
  rw [h, show Int32.ofInt (-1) = -1 from rfl, Int32.sub_eq_add_neg, Int32.sub_eq_add_neg, Int32.neg_add, Int32.sub_eq_add_neg, ← Int32.add_assoc]
theorem sub_neg {a b : Nat} (ha : a < 1000000) (hb : b < 1000000) (h : nI a - nI b < 0) : a < b := by
  have := (fa_lt _ _).mp h
  rw [pk_sub_toInt (by omega) (by omega)] at this
  have h9 : (0 : Int32).toInt = 0 := rfl
  rw [h9] at this
  omega
theorem sub_nneg {a b : Nat} (ha : a < 1000000) (hb : b < 1000000) (h : ¬ nI a - nI b < 0) : b ≤ a := by
  rcases Nat.lt_or_ge a b with q | q
  · exact absurd ((fa_lt _ _).mpr (by rw [pk_sub_toInt (by omega) (by omega)]; have h9 : (0 : Int32).toInt = 0 := rfl; rw [h9]; omega)) h
  · exact q
