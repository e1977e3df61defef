/-! the reference's rows stay as they should -/
section WFP
variable {N : Nat → Nat} {R : Nat → Nat → Int32}
theorem up_b {g : Nat → Int32} {i j : Nat} {o : Int32} (ho : o = 0 ∨ o = 1) (h : g j = 0 ∨ g j = 1) : upd g i o j = 0 ∨ upd g i o j = 1 := by
  by_cases e : j = i
  · subst e; rw [pk_us]; exact ho
  · rw [pk_un e]; exact h
theorem in_nat {x : Int32} {a b : Nat} (ha : a < 100000) (hb : b < 100000) (h : inB x (nI a) (nI b) = true) : x = nI x.toNatClampNeg ∧ a ≤ x.toNatClampNeg ∧ x.toNatClampNeg ≤ b := by
  unfold inB at h
  have h1 := of_decide_eq_true h
  have e1 : (nI a).toInt = a := nI_toInt (by omega)
  have e2 : (nI b).toInt = b := nI_toInt (by omega)
  rw [fa_le, fa_le, e1, e2] at h1
  have h2 : isP (b + 1) x = true := decide_eq_true (by omega)
  obtain ⟨j, hj, rfl⟩ := isP_of h2 (by omega)
  have e3 : (nI j).toInt = j := nI_toInt (by omega)
  rw [e3] at h1
  rw [nI_clamp (by omega)]
  exact ⟨rfl, by omega, by omega⟩
theorem isP_nat {x : Int32} {n : Nat} (hn : n < 100000) (h : isP n x = true) : x = nI x.toNatClampNeg ∧ x.toNatClampNeg < n := by
  obtain ⟨j, hj, rfl⟩ := isP_of h (by omega)
  rw [nI_clamp (by omega)]
  exact ⟨rfl, hj⟩
theorem WF_part {v w o : Int32} (ho : o = 0 ∨ o = 1) (h : WFm N R) : WFm (sp_part N R v w o).2.1 (sp_part N R v w o).2.2 := by
  unfold sp_part
  split
  · rename_i hc
    split
    · exact h
    · rename_i h8
      obtain ⟨hB, hP, hBo, hH, hM, hQ⟩ := h
      have b0 := hB.1
      refine ⟨⟨show N 0 + 1 ≤ 8 by omega, hB.2⟩, fun p hp => ?_, fun i => ⟨up_b ho (hBo i).1, (hBo i).2⟩, fun z hz => ?_, fun z hz => ?_, fun z hz => ?_⟩
      · have hp2 : p < N 0 + 1 := hp
        show (upd (R 2) (N 0) w p = nI (upd (R 2) (N 0) w p).toNatClampNeg ∧ (upd (R 2) (N 0) w p).toNatClampNeg ≤ 1000) ∧ isV (upd (R 1) (N 0) v p) = true
        by_cases e : p = N 0
        · rw [e, pk_us, pk_us]
          have h2 := in_nat (by decide) (by decide) hc.2
          exact ⟨⟨h2.1, h2.2.2⟩, hc.1⟩
        · rw [pk_un e, pk_un e]; exact hP p (by omega)
      · exact ⟨(hH z hz).1, Nat.lt_succ_of_lt (hH z hz).2.1, (hH z hz).2.2⟩
      · exact ⟨(hM z hz).1, Nat.lt_succ_of_lt (hM z hz).2.1, (hM z hz).2.2⟩
      · exact ⟨⟨(hQ z hz).1.1, Nat.lt_succ_of_lt (hQ z hz).1.2⟩, (hQ z hz).2.1, Nat.lt_succ_of_lt (hQ z hz).2.2⟩
  · exact h
theorem WF_link {f t o : Int32} (ho : o = 0 ∨ o = 1) (h : WFm N R) : WFm (sp_link N R f t o).2.1 (sp_link N R f t o).2.2 := by
  unfold sp_link
  split
  · exact ⟨h.1, h.2.1, fun i => ⟨(h.2.2.1 i).1, (h.2.2.1 i).2.1, up_b ho (h.2.2.1 i).2.2.1, (h.2.2.1 i).2.2.2⟩, h.2.2.2⟩
  · exact h
theorem WF_guard {x o : Int32} (ho : o = 0 ∨ o = 1) (h : WFm N R) : WFm (sp_guard N R x o).2.1 (sp_guard N R x o).2.2 := by
  unfold sp_guard
  split
  · exact ⟨h.1, h.2.1, fun i => ⟨(h.2.2.1 i).1, up_b ho (h.2.2.1 i).2.1, (h.2.2.1 i).2.2⟩, h.2.2.2⟩
  · exact h
theorem WF_version {x v : Int32} (h : WFm N R) : WFm (sp_version N R x v).2.1 (sp_version N R x v).2.2 := by
  unfold sp_version
  split
  · rename_i hc
    refine ⟨h.1, fun p hp => ⟨(h.2.1 p hp).1, ?_⟩, h.2.2⟩
    show isV (upd (R 1) x.toNatClampNeg v p) = true
    by_cases e : p = x.toNatClampNeg
    · rw [e, pk_us]; exact hc.2
    · rw [pk_un e]; exact (h.2.1 p hp).2
  · exact h
theorem WF_add {k x a b t : Int32} (h : WFm N R) (hk : k = nI k.toNatClampNeg ∧ k.toNatClampNeg ≤ 4) (hx : isP (N 0) x = true) (ht : k.toNatClampNeg = 1 → isP (N 6) t = true) : WFm (sp_add N R k x a b t).2.1 (sp_add N R k x a b t).2.2 := by
  unfold sp_add
  split
  · exact h
  · rename_i h12
    obtain ⟨hB, hP, hBo, hH, hM, hQ⟩ := h
    have b0 := hB.1
    have b6 := hB.2.1
    refine ⟨⟨hB.1, show N 6 + 1 ≤ 12 by omega, hB.2.2⟩, hP, fun i => ⟨(hBo i).1, (hBo i).2.1, (hBo i).2.2.1, up_b (Or.inl rfl) (hBo i).2.2.2⟩, fun z hz => ?_, hM, hQ⟩
    have hz2 : z < N 6 + 1 := hz
    show upd (R 8) (N 6) x z = nI (upd (R 8) (N 6) x z).toNatClampNeg ∧ (upd (R 8) (N 6) x z).toNatClampNeg < N 0 ∧ upd (R 7) (N 6) k z = nI (upd (R 7) (N 6) k z).toNatClampNeg ∧ (upd (R 7) (N 6) k z).toNatClampNeg ≤ 4 ∧ ((upd (R 7) (N 6) k z).toNatClampNeg = 1 → upd (R 11) (N 6) t z = nI (upd (R 11) (N 6) t z).toNatClampNeg ∧ (upd (R 11) (N 6) t z).toNatClampNeg < z)
    by_cases e : z = N 6
    · rw [e, pk_us, pk_us, pk_us]
      have h1 := isP_nat (by omega) hx
      exact ⟨h1.1, h1.2, hk.1, hk.2, fun h9 => isP_nat (by omega) (ht h9)⟩
    · rw [pk_un e, pk_un e, pk_un e]
      exact hH z (by omega)
theorem isSp_P {x a b : Int32} (h : isSp N x a b = true) : isP (N 0) x = true := by
  rw [isSp, Bool.and_eq_true] at h
  exact h.1
theorem WF_hole {k x a b : Int32} (h : WFm N R) : WFm (sp_hole N R k x a b).2.1 (sp_hole N R k x a b).2.2 := by
  unfold sp_hole
  split
  · rename_i hc
    have h1 := isK_4 (isK_in.mp ⟨hc.1, hc.2.1⟩)
    exact WF_add h ⟨(in_nat (by decide) (by decide) hc.1).1, h1.1⟩ (isSp_P hc.2.2) (fun h9 => absurd h9 h1.2)
  · exact h
theorem WF_chained {x a b t : Int32} (h : WFm N R) : WFm (sp_chained N R x a b t).2.1 (sp_chained N R x a b t).2.2 := by
  unfold sp_chained
  split
  · rename_i hc
    exact WF_add h ⟨rfl, by decide⟩ (isSp_P hc.1) (fun _ => hc.2)
  · exact h
theorem WF_wake {x o : Int32} (ho : o = 0 ∨ o = 1) (h : WFm N R) : WFm (sp_wake N R x o).2.1 (sp_wake N R x o).2.2 := by
  unfold sp_wake
  split
  · split
    · exact ⟨h.1, h.2.1, fun i => ⟨(h.2.2.1 i).1, (h.2.2.1 i).2.1, (h.2.2.1 i).2.2.1, up_b ho (h.2.2.1 i).2.2.2⟩, h.2.2.2⟩
    · exact h
  · exact h
theorem WF_mend {x v hn nd f la : Int32} (h : WFm N R) : WFm (sp_mend N R x v hn nd f la).2.1 (sp_mend N R x v hn nd f la).2.2 := by
  unfold sp_mend
  split
  · rename_i hc
    split
    · exact h
    · rename_i h8
      obtain ⟨hB, hP, hBo, hH, hM, hQ⟩ := h
      have b0 := hB.1
      have b17 := hB.2.2.1
      obtain ⟨c1, c2, c3, c4, c5⟩ := hc
      have f1 := fl_in.mp c5
      have g1 := in_nat (by decide) (by decide) f1.1
      have g2 := f1.2
      rw [g1.1] at g2
      have g3 := in_nat (by omega) (by decide) g2
      refine ⟨⟨hB.1, hB.2.1, show N 17 + 1 ≤ 8 by omega, hB.2.2.2⟩, hP, hBo, hH, fun z hz => ?_, hQ⟩
      have hz2 : z < N 17 + 1 := hz
      show upd (R 18) (N 17) x z = nI (upd (R 18) (N 17) x z).toNatClampNeg ∧ (upd (R 18) (N 17) x z).toNatClampNeg < N 0 ∧ upd (R 20) (N 17) hn z = nI (upd (R 20) (N 17) hn z).toNatClampNeg ∧ (1 ≤ (upd (R 20) (N 17) hn z).toNatClampNeg ∧ (upd (R 20) (N 17) hn z).toNatClampNeg ≤ 9) ∧ (upd (R 21) (N 17) nd z = -1 ∨ (upd (R 21) (N 17) nd z = nI (upd (R 21) (N 17) nd z).toNatClampNeg ∧ (upd (R 21) (N 17) nd z).toNatClampNeg < z)) ∧ upd (R 22) (N 17) f z = nI (upd (R 22) (N 17) f z).toNatClampNeg ∧ upd (R 23) (N 17) la z = nI (upd (R 23) (N 17) la z).toNatClampNeg ∧ ((upd (R 22) (N 17) f z).toNatClampNeg ≤ 5 ∧ (upd (R 23) (N 17) la z).toNatClampNeg ≤ 5) ∧ isV (upd (R 19) (N 17) v z) = true
      by_cases e : z = N 17
      · rw [e, pk_us, pk_us, pk_us, pk_us, pk_us, pk_us]
        have h1 := isP_nat (by omega) c1
        have h3 := in_nat (by decide) (by decide) c3
        refine ⟨h1.1, h1.2, h3.1, h3.2, ?_, g1.1, g3.1, ⟨g1.2.2, g3.2.2⟩, c2⟩
        rw [nd_in (by omega), Bool.or_eq_true] at c4
        rcases c4 with c4 | c4
        · exact Or.inl (of_decide_eq_true c4)
        · exact Or.inr (isP_nat (by omega) c4)
      · rw [pk_un e, pk_un e, pk_un e, pk_un e, pk_un e, pk_un e]
        exact hM z (by omega)
  · exact h
theorem WF_quarrel {x v y w : Int32} (h : WFm N R) : WFm (sp_quarrel N R x v y w).2.1 (sp_quarrel N R x v y w).2.2 := by
  unfold sp_quarrel
  split
  · rename_i hc
    split
    · exact h
    · rename_i h8
      obtain ⟨hB, hP, hBo, hH, hM, hQ⟩ := h
      have b0 := hB.1
      have b24 := hB.2.2.2.1
      obtain ⟨c1, c2, c3, c4, c5⟩ := hc
      refine ⟨⟨hB.1, hB.2.1, hB.2.2.1, show N 24 + 1 ≤ 8 by omega, hB.2.2.2.2⟩, hP, hBo, hH, hM, fun z hz => ?_⟩
      have hz2 : z < N 24 + 1 := hz
      show (aqR N R x v y w 25 (4 * z) = nI (aqR N R x v y w 25 (4 * z)).toNatClampNeg ∧ (aqR N R x v y w 25 (4 * z)).toNatClampNeg < N 0) ∧ aqR N R x v y w 25 (4 * z + 2) = nI (aqR N R x v y w 25 (4 * z + 2)).toNatClampNeg ∧ (aqR N R x v y w 25 (4 * z + 2)).toNatClampNeg < N 0
      have hr : ∀ i, aqR N R x v y w 25 i = upd (upd (upd (upd (R 25) (4 * N 24) x) (4 * N 24 + 1) v) (4 * N 24 + 2) y) (4 * N 24 + 3) w i := fun _ => rfl
      by_cases e : z = N 24
      · have e1 : aqR N R x v y w 25 (4 * z) = x := by rw [e, hr, pk_un (show 4 * N 24 ≠ 4 * N 24 + 3 by omega), pk_un (show 4 * N 24 ≠ 4 * N 24 + 2 by omega), pk_un (show 4 * N 24 ≠ 4 * N 24 + 1 by omega), pk_us]
        have e2 : aqR N R x v y w 25 (4 * z + 2) = y := by rw [e, hr, pk_un (show 4 * N 24 + 2 ≠ 4 * N 24 + 3 by omega), pk_us]
        rw [e1, e2]
        exact ⟨isP_nat (by omega) c1, isP_nat (by omega) c2⟩
      · have ho : ∀ i, i < 4 → aqR N R x v y w 25 (4 * z + i) = R 25 (4 * z + i) := fun i hi => by
          rw [hr, pk_un (by omega), pk_un (by omega), pk_un (by omega), pk_un (by omega)]
        have ho0 := ho 0 (by decide)
        rw [Nat.add_zero] at ho0
        rw [ho0, ho 2 (by decide)]
        exact hQ z (by omega)
  · exact h
theorem WF_make {x : Int32} (h : WFm N R) : WFm (sp_make N R x).2.1 (sp_make N R x).2.2 := by
  unfold sp_make
  split
  · rename_i hc
    split
    · exact h
    · exact WFm_mk h (isP_nat (by have := h.1.2.2.1; omega) hc).2
  · exact h
theorem WF_plan {w hd : Int32} (h30 : N 30 < 4000) (h : WFm N R) : WFm (sp_plan N R w hd).2.1 (sp_plan N R w hd).2.2 := by
  unfold sp_plan
  split
  · split
    · exact ⟨⟨h.1.1, h.1.2.1, h.1.2.2.1, h.1.2.2.2.1, show N 30 + 1 ≤ 4000 by omega⟩, h.2⟩
    · exact h
  · exact h
/-! the number of plans -/
theorem n30_part {v w o : Int32} : (sp_part N R v w o).2.1 30 = N 30 := by
  unfold sp_part
  split
  · split <;> rfl
  · rfl
theorem n30_link {v w o : Int32} : (sp_link N R v w o).2.1 30 = N 30 := by unfold sp_link; split <;> rfl
theorem n30_guard {x o : Int32} : (sp_guard N R x o).2.1 30 = N 30 := by unfold sp_guard; split <;> rfl
theorem n30_version {x o : Int32} : (sp_version N R x o).2.1 30 = N 30 := by unfold sp_version; split <;> rfl
theorem n30_add {k x a b t : Int32} : (sp_add N R k x a b t).2.1 30 = N 30 := by unfold sp_add; split <;> rfl
theorem n30_hole {k x a b : Int32} : (sp_hole N R k x a b).2.1 30 = N 30 := by
  unfold sp_hole
  split
  · exact n30_add
  · rfl
theorem n30_chained {x a b t : Int32} : (sp_chained N R x a b t).2.1 30 = N 30 := by
  unfold sp_chained
  split
  · exact n30_add
  · rfl
theorem n30_wake {x o : Int32} : (sp_wake N R x o).2.1 30 = N 30 := by
  unfold sp_wake
  split
  · split <;> rfl
  · rfl
theorem n30_mend {x v hn nd f la : Int32} : (sp_mend N R x v hn nd f la).2.1 30 = N 30 := by
  unfold sp_mend
  split
  · split <;> rfl
  · rfl
theorem n30_quarrel {x v y w : Int32} : (sp_quarrel N R x v y w).2.1 30 = N 30 := by
  unfold sp_quarrel
  split
  · split <;> rfl
  · rfl
theorem n30_make {x : Int32} : (sp_make N R x).2.1 30 = N 30 := by
  unfold sp_make
  split
  · split <;> rfl
  · rfl
theorem n30_plan {w hd : Int32} : (sp_plan N R w hd).2.1 30 ≤ N 30 + 1 := by
  unfold sp_plan
  split
  · split
    · exact Nat.le_refl _
    · exact Nat.le_succ _
  · exact Nat.le_succ _
end WFP
/-! the start -/
theorem WF_0 : WFm (fun _ => 0) R0i := by
  have hb : ∀ k, ¬ k = 31 → ∀ i, R0i k i = 0 := fun k hk i => by
    unfold R0i
    rw [va_upN hk]
  exact ⟨⟨by decide, by decide, by decide, by decide, by decide⟩, fun p hp => absurd hp (Nat.not_lt_zero _), fun i => ⟨Or.inl (hb 3 (by decide) i), Or.inl (hb 4 (by decide) i), Or.inl (hb 5 (by decide) i), Or.inl (hb 12 (by decide) i)⟩, fun p hp => absurd hp (Nat.not_lt_zero _), fun p hp => absurd hp (Nat.not_lt_zero _), fun p hp => absurd hp (Nat.not_lt_zero _)⟩
theorem R0_31 : ∀ k, k < 8 → R0i 31 k = -4 := by
  intro k hk
  rcases k with _ | _ | _ | _ | _ | _ | _ | _ | k
  · rfl
  · rfl
  · rfl
  · rfl
  · rfl
  · rfl
  · rfl
  · rfl
  · omega
theorem Rel_0 {r : Nat → Int32} {f : Nat → va_E} (hr : ∀ k, k < 8 → r k = -4) : RelC (fun _ => 0) (va_up (fun _ _ => 0) 20 r) (fun _ _ => none) [] f (fun _ => 0) R0i := by
  refine ⟨⟨rfl, rfl, fun p hp => rfl, fun p hp => ?_, fun t ht => ⟨rfl, (show (0 : Int32).toNatClampNeg < 256 by decide), fun z hz => ?_⟩, fun h hh => absurd hh (Nat.not_lt_zero _)⟩, ⟨fun p hp => rfl, fun p hp => ?_, by decide, by decide⟩, ⟨rfl, rfl, fun h hh => absurd hh (Nat.not_lt_zero _), fun h hh => absurd hh (Nat.not_lt_zero _)⟩, ⟨rfl, fun k hk => (hr k hk).trans (R0_31 k hk).symm, fun h => absurd h (by decide), fun _ k hk => R0_31 k hk⟩, fun h z hh => absurd hh (Nat.not_lt_zero _)⟩
  · rw [Nat.zero_testBit]; rfl
  · show Nat.testBit 0 z = _
    rw [Nat.zero_testBit]; rfl
  · rw [Nat.zero_testBit]; rfl
