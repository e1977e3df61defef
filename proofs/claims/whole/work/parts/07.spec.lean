/-! THE WORDS OF THE SPECIFICATION: functions over the reference's numbers N and rows R (both by the slots of its fields) -/
def inB (v a b : Int32) : Bool := decide (a ≤ v ∧ v ≤ b)
def isV (v : Int32) : Bool := inB v 1 9
def isP (n : Nat) (x : Int32) : Bool := decide (0 ≤ x.toInt ∧ x.toInt < n)
theorem inB_1 {v a b : Int32} (h1 : ¬ v < a) (h2 : ¬ b < v) : inB v a b = true := decide_eq_true ⟨fa_of_nlt h1, fa_of_nlt h2⟩
theorem inB_a {v a b : Int32} (h1 : v < a) : inB v a b = false := decide_eq_false (fun h => (fa_of_lt h1).2.1 h.1)
theorem inB_b {v a b : Int32} (h1 : b < v) : inB v a b = false := decide_eq_false (fun h => (fa_of_lt h1).2.1 h.2)
theorem isP_in {n : Nat} (hn : n < 1000000) (x : Int32) : inB x (nI 0) (nI n - nI 1) = isP n x := by
  have h : (nI n - nI 1).toInt = (n : Int) - 1 := by rw [pk_sub_toInt (by omega) (by omega)]; rfl
  have h0 : (nI 0).toInt = 0 := rfl
  unfold inB isP
  apply decide_eq_decide.mpr
  rw [fa_le, fa_le, h, h0]
  omega
theorem isP_of {n : Nat} {x : Int32} (h : isP n x = true) (hn : n < 1000000) : ∃ j : Nat, j < n ∧ x = nI j := by
  have ⟨h1, h2⟩ := of_decide_eq_true h
  exact ⟨x.toInt.toNat, by omega, (fa_eq _ _).mpr (by rw [nI_toInt (by omega)]; omega)⟩
theorem isP_nI {n j : Nat} (h : j < n) (hn : n < 1000000) : isP n (nI j) = true := decide_eq_true (by rw [nI_toInt (by omega)]; omega)
theorem nI_one : nI 1 = 1 := rfl
theorem nI_zero : nI 0 = 0 := rfl
theorem bI_d1 {c : Prop} [Decidable c] (h : c) : nI 1 = bI (decide c) := by rw [decide_eq_true h]; rfl
theorem bI_d0 {c : Prop} [Decidable c] (h : ¬ c) : nI 0 = bI (decide c) := by rw [decide_eq_false h]; rfl
theorem bI_1 {b : Bool} (h : b = true) : nI 1 = bI b := by rw [h]; rfl
theorem bI_0 {b : Bool} (h : b = false) : nI 0 = bI b := by rw [h]; rfl
def Bd (N : Nat → Nat) : Prop := N 0 ≤ 8 ∧ N 6 ≤ 12 ∧ N 17 ≤ 8 ∧ N 24 ≤ 8 ∧ N 30 ≤ 4000
abbrev SR : Type := (Nat → Nat) × (Nat → Nat → Int32)
/-- promise 2 -/
def sp_part (N : Nat → Nat) (R : Nat → Nat → Int32) (v w o : Int32) : Int32 × SR :=
  if isV v = true ∧ inB w (nI 0) (nI 1000) = true then
    if N 0 = 8 then (-3, N, R) else (nI (N 0), va_up N 0 (N 0 + 1), va_up (va_up (va_up R 1 (upd (R 1) (N 0) v)) 2 (upd (R 2) (N 0) w)) 3 (upd (R 3) (N 0) o))
  else (-1, N, R)
/-- promise 3 -/
def sp_link (N : Nat → Nat) (R : Nat → Nat → Int32) (f t o : Int32) : Int32 × SR :=
  if isP (N 0) f = true ∧ isP (N 0) t = true ∧ ¬ f = t then
    (bI (decide (¬ R 5 (8 * f.toNatClampNeg + t.toNatClampNeg) = 0)), N, va_up R 5 (upd (R 5) (8 * f.toNatClampNeg + t.toNatClampNeg) o))
  else (-1, N, R)
/-- promise 4 -/
def sp_guard (N : Nat → Nat) (R : Nat → Nat → Int32) (x o : Int32) : Int32 × SR :=
  if isP (N 0) x = true then (bI (decide (¬ R 4 x.toNatClampNeg = 0)), N, va_up R 4 (upd (R 4) x.toNatClampNeg o)) else (-1, N, R)
/-- promise 5 -/
def sp_version (N : Nat → Nat) (R : Nat → Nat → Int32) (x v : Int32) : Int32 × SR :=
  if isP (N 0) x = true ∧ isV v = true then (R 1 x.toNatClampNeg, N, va_up R 1 (upd (R 1) x.toNatClampNeg v)) else (-1, N, R)
/-- a hole is added -/
def sp_add (N : Nat → Nat) (R : Nat → Nat → Int32) (k x a b t : Int32) : Int32 × SR :=
  if N 6 = 12 then (-3, N, R) else (nI (N 6), va_up N 6 (N 6 + 1), va_up (va_up (va_up (va_up (va_up (va_up R 7 (upd (R 7) (N 6) k)) 8 (upd (R 8) (N 6) x)) 9 (upd (R 9) (N 6) a)) 10 (upd (R 10) (N 6) b)) 11 (upd (R 11) (N 6) t)) 12 (upd (R 12) (N 6) (nI 0)))
def isSp (N : Nat → Nat) (x a b : Int32) : Bool := isP (N 0) x && (isV a && (isV b && decide (a ≤ b)))
/-- promise 6 -/
def sp_hole (N : Nat → Nat) (R : Nat → Nat → Int32) (k x a b : Int32) : Int32 × SR :=
  if inB k (nI 0) (nI 4) = true ∧ ¬ k = nI 1 ∧ isSp N x a b = true then sp_add N R k x a b (-1) else (-1, N, R)
/-- promise 7 -/
def sp_chained (N : Nat → Nat) (R : Nat → Nat → Int32) (x a b t : Int32) : Int32 × SR :=
  if isSp N x a b = true ∧ isP (N 6) t = true then sp_add N R (nI 1) x a b t else (-1, N, R)
/-- promise 8 -/
def sp_wake (N : Nat → Nat) (R : Nat → Nat → Int32) (h o : Int32) : Int32 × SR :=
  if isP (N 6) h = true then
    if R 7 h.toNatClampNeg = nI 4 then (bI (decide (¬ R 12 h.toNatClampNeg = 0)), N, va_up R 12 (upd (R 12) h.toNatClampNeg o)) else (-13, N, R)
  else (-1, N, R)
/-- promise 9 -/
def sp_chain (N : Nat → Nat) (R : Nat → Nat → Int32) (h : Int32) : Int32 :=
  if isP (N 6) h = true then if R 7 h.toNatClampNeg = nI 1 then R 11 h.toNatClampNeg else -13 else -1
