/-! bits of a set, as the code asks for them -/
theorem fst_eq {P : Nat → Bool} {n i : Nat} (h : ∀ j, j < i → P j = false) (hi : P i = true) (hn : i < n) : fa_first P n = i := by
  rcases Nat.lt_trichotomy (fa_first P n) i with q | q | q
  · have h1 := fa_first_yes P n (Nat.lt_trans q hn)
    rw [h _ q] at h1
    cases h1
  · exact q
  · have h1 := fa_first_no P n i q
    rw [hi] at h1
    cases h1
theorem fst_none {P : Nat → Bool} {n : Nat} (h : ∀ j, j < n → P j = false) : fa_first P n = n := by
  rcases Nat.lt_or_ge (fa_first P n) n with q | q
  · have h1 := fa_first_yes P n q
    rw [h _ q] at h1
    cases h1
  · exact Nat.le_antisymm (fa_first_le P n) q
theorem fst_cong {P P2 : Nat → Bool} {n : Nat} (h : ∀ j, j < n → P j = P2 j) : fa_first P n = fa_first P2 n := by
  rcases Nat.lt_or_ge (fa_first P2 n) n with q | q
  · refine fst_eq (fun j hj => ?_) ?_ q
    · rw [h j (Nat.lt_trans hj q)]; exact fa_first_no P2 n j hj
    · rw [h _ q]; exact fa_first_yes P2 n q
  · have e := Nat.le_antisymm (fa_first_le P2 n) q
    rw [e]
    refine fst_none (fun j hj => ?_)
    rw [h j hj]
    exact fa_first_no P2 n j (by omega)
theorem pow_256 {n : Nat} (h : n ≤ 8) : 2 ^ n ≤ 256 := show 2 ^ n ≤ 2 ^ 8 from Nat.pow_le_pow_right (by decide) h
theorem pow_31 {n : Nat} (h : n < 31) : 2 ^ n < 2147483648 := Nat.pow_lt_pow_right (a := 2) (by decide) h
theorem bitS {m : Nat} (hm : m < 31) : nI 1 <<< (nI m &&& 31) = nI (2 ^ m) := by
  rw [pk_shlN (nI m &&& 31) m (s_l m (by omega)) (by have := pow_31 hm; omega), Nat.one_mul]
theorem bitD {d m : Nat} (hd : d < 2147483648) (hm : m < 31) : (nI d >>> (nI m &&& 31)) &&& nI 1 = bI (d.testBit m) := by
  rw [pk_shrN hd (nI m &&& 31) m (s_l m (by omega)), fa_and, Nat.testBit, Nat.shiftRight_eq_div_pow, Nat.and_comm]
  have h : 1 &&& d / 2 ^ m < 2 := Nat.lt_of_le_of_lt Nat.and_le_left (by decide)
  rcases (show 1 &&& d / 2 ^ m = 0 ∨ 1 &&& d / 2 ^ m = 1 by omega) with q | q <;> rw [q] <;> rfl
theorem bI_eq1T {b : Bool} (h : bI b = nI 1) : b = true := by cases b; exact absurd h (by decide); rfl
theorem bI_eq1F {b : Bool} (h : ¬ bI b = nI 1) : b = false := by cases b; rfl; exact absurd rfl h
theorem bI_eq0T {b : Bool} (h : bI b = nI 0) : b = false := by cases b; rfl; exact absurd h (by decide)
theorem bI_eq0F {b : Bool} (h : ¬ bI b = nI 0) : b = true := by cases b; exact absurd rfl h; rfl
/-! accessors -/
def wo (R : Nat → Nat → Int32) (p : Nat) : Nat := (R 2 p).toNatClampNeg
def kd (R : Nat → Nat → Int32) (h : Nat) : Nat := (R 7 h).toNatClampNeg
def wh (R : Nat → Nat → Int32) (h : Nat) : Nat := (R 8 h).toNatClampNeg
def ch (R : Nat → Nat → Int32) (h : Nat) : Nat := (R 11 h).toNatClampNeg
def mp (R : Nat → Nat → Int32) (m : Nat) : Nat := (R 18 m).toNatClampNeg
def mh (R : Nat → Nat → Int32) (m : Nat) : Nat := (R 20 m).toNatClampNeg
def mn (R : Nat → Nat → Int32) (m : Nat) : Nat := (R 21 m).toNatClampNeg
def mf (R : Nat → Nat → Int32) (m : Nat) : Nat := (R 22 m).toNatClampNeg
def ml (R : Nat → Nat → Int32) (m : Nat) : Nat := (R 23 m).toNatClampNeg
def qa (R : Nat → Nat → Int32) (k : Nat) : Nat := (R 25 (4 * k)).toNatClampNeg
def qb (R : Nat → Nat → Int32) (k : Nat) : Nat := (R 25 (4 * k + 2)).toNatClampNeg
/-! what the rows always hold -/
def WPt (N : Nat → Nat) (R : Nat → Nat → Int32) : Prop := ∀ p, p < N 0 → (R 2 p = nI (wo R p) ∧ wo R p ≤ 1000) ∧ isV (R 1 p) = true
def WBo (R : Nat → Nat → Int32) : Prop := ∀ i, (R 3 i = 0 ∨ R 3 i = 1) ∧ (R 4 i = 0 ∨ R 4 i = 1) ∧ (R 5 i = 0 ∨ R 5 i = 1) ∧ (R 12 i = 0 ∨ R 12 i = 1)
def WHo (N : Nat → Nat) (R : Nat → Nat → Int32) : Prop := ∀ h, h < N 6 → R 8 h = nI (wh R h) ∧ wh R h < N 0 ∧ R 7 h = nI (kd R h) ∧ kd R h ≤ 4 ∧ (kd R h = 1 → R 11 h = nI (ch R h) ∧ ch R h < h)
def WMe (N : Nat → Nat) (R : Nat → Nat → Int32) : Prop := ∀ m, m < N 17 → R 18 m = nI (mp R m) ∧ mp R m < N 0 ∧ R 20 m = nI (mh R m) ∧ (1 ≤ mh R m ∧ mh R m ≤ 9) ∧ (R 21 m = -1 ∨ (R 21 m = nI (mn R m) ∧ mn R m < m)) ∧ R 22 m = nI (mf R m) ∧ R 23 m = nI (ml R m) ∧ (mf R m ≤ 5 ∧ ml R m ≤ 5) ∧ isV (R 19 m) = true
def WQu (N : Nat → Nat) (R : Nat → Nat → Int32) : Prop := ∀ k, k < N 24 → (R 25 (4 * k) = nI (qa R k) ∧ qa R k < N 0) ∧ R 25 (4 * k + 2) = nI (qb R k) ∧ qb R k < N 0
def WFm (N : Nat → Nat) (R : Nat → Nat → Int32) : Prop := Bd N ∧ WPt N R ∧ WBo R ∧ WHo N R ∧ WMe N R ∧ WQu N R
/-! versions with a set of mends done -/
def vtF (R : Nat → Nat → Int32) (d : Nat) : Nat → Nat → Int32
  | 0 => R 1
  | m + 1 => if d.testBit m = true ∧ vtF R d m (mp R m) < R 19 m then upd (vtF R d m) (mp R m) (R 19 m) else vtF R d m
theorem vt_a {R : Nat → Nat → Int32} {d m n : Nat} {g : Nat → Int32} (h : d.testBit m = false) (hg : ∀ p, p < n → g p = vtF R d m p) : ∀ p, p < n → g p = vtF R d (m + 1) p := by
  intro p hp
  rw [vtF, if_neg (by rw [h]; simp)]
  exact hg p hp
theorem vt_b {R : Nat → Nat → Int32} {d m n : Nat} {g : Nat → Int32} (hm : mp R m < n) (h : R 19 m ≤ g (mp R m)) (hg : ∀ p, p < n → g p = vtF R d m p) : ∀ p, p < n → g p = vtF R d (m + 1) p := by
  intro p hp
  rw [hg _ hm] at h
  rw [vtF, if_neg (fun q => (fa_of_lt q.2).2.1 h)]
  exact hg p hp
theorem vt_c {R : Nat → Nat → Int32} {d m n : Nat} {g : Nat → Int32} (hm : mp R m < n) (hb : d.testBit m = true) (h : ¬ R 19 m ≤ g (mp R m)) (hg : ∀ p, p < n → g p = vtF R d m p) : ∀ p, p < n → upd g (mp R m) (R 19 m) p = vtF R d (m + 1) p := by
  intro p hp
  rw [hg _ hm] at h
  rw [vtF, if_pos ⟨hb, fa_of_nle h⟩]
  by_cases e : p = mp R m
  · rw [e, pk_us, pk_us]
  · rw [pk_un e, pk_un e]; exact hg p hp
theorem cp_s {f g : Nat → Int32} {i : Nat} (h : ∀ p, p < i → g p = f p) : ∀ p, p < i + 1 → upd g i (f i) p = f p := by
  intro p hp
  by_cases e : p = i
  · rw [e, pk_us]
  · rw [pk_un e]; exact h p (by omega)
/-! which holes stand, which open -/
def stB (R : Nat → Nat → Int32) (g : Nat → Int32) (h : Nat) : Bool := inB (g (wh R h)) (R 9 h) (R 10 h) && (decide (¬ kd R h = 2 ∨ R 4 (wh R h) = 0) && decide (¬ kd R h = 4 ∨ ¬ R 12 h = 0))
def opF (R : Nat → Nat → Int32) (g : Nat → Int32) (T : Nat → Bool) : Nat → Nat → Bool
  | 0, _ => false
  | n + 1, h => stB R g h && (decide (¬ kd R h = 1) || (if wh R (ch R h) = wh R h then opF R g T n (ch R h) else stB R g (ch R h) && T (wh R (ch R h))))
def opB (R : Nat → Nat → Int32) (g : Nat → Int32) (T : Nat → Bool) (h : Nat) : Bool := opF R g T (h + 1) h
theorem opF_any {N : Nat → Nat} {R : Nat → Nat → Int32} {g : Nat → Int32} {T : Nat → Bool} (hH : WHo N R) : ∀ (n h : Nat), h < n → h < N 6 → opF R g T n h = opB R g T h := by
  intro n
  induction n using Nat.strongRecOn with
  | _ n ih =>
    intro h hn h6
    cases n with
    | zero => exact absurd hn (Nat.not_lt_zero _)
    | succ n =>
      unfold opB
      rw [opF, opF]
      by_cases hk : kd R h = 1
      · have hc := ((hH h h6).2.2.2.2 hk).2
        by_cases hw : wh R (ch R h) = wh R h
        · rw [if_pos hw, if_pos hw, ih n (Nat.lt_succ_self n) (ch R h) (by omega) (by omega)]
          by_cases hn2 : h < n + 1 ∧ h = n
          · rw [hn2.2, ih n (Nat.lt_succ_self n) (ch R n) (by rw [← hn2.2]; exact hc) (by rw [← hn2.2]; omega)]
          · rw [ih h (by omega) (ch R h) hc (by omega)]
        · rw [if_neg hw, if_neg hw]
      · rw [decide_eq_true hk, Bool.true_or, Bool.true_or]
theorem op_step {N : Nat → Nat} {R : Nat → Nat → Int32} {g : Nat → Int32} {T : Nat → Bool} (hH : WHo N R) {h : Nat} (h6 : h < N 6) : opB R g T h = (stB R g h && (decide (¬ kd R h = 1) || (if wh R (ch R h) = wh R h then opB R g T (ch R h) else stB R g (ch R h) && T (wh R (ch R h))))) := by
  rw [opB, opF]
  by_cases hk : kd R h = 1
  · have hc := ((hH h h6).2.2.2.2 hk).2
    rw [opF_any hH h (ch R h) hc (by omega)]
  · rw [decide_eq_true hk, Bool.true_or, Bool.true_or]
/-- taken ahead of step k, by the row of steps -/
def tkB (r : Nat → Int32) (k : Int32) (p : Nat) : Bool := decide (¬ r p ≤ 0 ∧ ¬ k ≤ r p)
def frP (R : Nat → Nat → Int32) (T : Nat → Bool) (p q : Nat) : Bool := decide (¬ R 5 (8 * q + p) = 0) && T q
def frI (R : Nat → Nat → Int32) (T : Nat → Bool) (n p : Nat) : Int32 := if fa_first (frP R T p) n < n then nI (fa_first (frP R T p) n) else -4
theorem frI_yes {R : Nat → Nat → Int32} {T : Nat → Bool} {n p i : Nat} (h : ∀ j, j < i → frP R T p j = false) (hi : frP R T p i = true) (hn : i < n) : frI R T n p = nI i := by
  unfold frI
  rw [fst_eq h hi hn, if_pos hn]
theorem frI_no {R : Nat → Nat → Int32} {T : Nat → Bool} {n p : Nat} (h : ∀ j, j < n → frP R T p j = false) : frI R T n p = -4 := by
  unfold frI
  rw [fst_none h, if_neg (Nat.lt_irrefl n)]
theorem all_s {P : Nat → Bool} {i : Nat} (h : ∀ j, j < i → P j = false) (hi : P i = false) : ∀ j, j < i + 1 → P j = false := by
  intro j hj
  by_cases e : j = i
  · rw [e]; exact hi
  · exact h j (by omega)
