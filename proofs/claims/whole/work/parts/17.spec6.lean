/-! rows for the plan's walk -/
theorem in16 {w : Int32} (h : inB w (nI 1) (nI 6) = true) : ∃ j : Nat, 1 ≤ j ∧ j ≤ 6 ∧ w = nI j := by
  have ⟨h1, h2⟩ := of_decide_eq_true h
  rw [fa_le] at h1 h2
  rw [nI_toInt (by omega)] at h1 h2
  exact ⟨w.toInt.toNat, by omega, by omega, (fa_eq _ _).mpr (by rw [nI_toInt (by omega)]; omega)⟩
theorem pl_row {N : Nat → Nat} {R : Nat → Nat → Int32} {d : Nat} {a b : Nat → Int32} (h : ∀ z, z < d → a z = nI (rk N R z) ∧ b z = bI (soB N R z)) : ∀ z, z < d + 1 → upd a d (nI (rsk N R (vtF R d (N 17)))) z = nI (rk N R z) ∧ upd b d (bI (soB N R d)) z = bI (soB N R z) := by
  intro z hz
  by_cases e : z = d
  · subst e
    rw [pk_us, pk_us]
    exact ⟨rfl, rfl⟩
  · rw [pk_un e, pk_un e]
    exact h z (by omega)
theorem pl_rest {N : Nat → Nat} {R : Nat → Nat → Int32} {ws r d0 : Nat} {hn : Int32} {a b r28 r29 : Nat → Int32} (hr : r + 1 ≤ ws) (h : ∀ z, z < d0 → a z = nI (rk N R z) ∧ b z = bI (soB N R z)) (hd0 : 2 ^ N 17 ≤ d0) (hl : ∀ j, 1 ≤ j → j ≤ r → ∀ z, z < 2 ^ N 17 → r28 (256 * (ws - j) + z) = (lsF N R ws hn j z).1 ∧ (¬ (lsF N R ws hn j z).1 < 0 → r29 (256 * (ws - j) + z) = nI (lsF N R ws hn j z).2)) : ∀ z, z < 2 ^ N 17 → (if ws - (r + 1) + 1 = ws then a z else r28 (256 * (ws - (r + 1) + 1) + z)) = (lsF N R ws hn r z).1 := by
  intro z hz
  by_cases e : r = 0
  · subst e
    rw [if_pos (by omega), (h z (by omega)).1]
    rfl
  · rw [if_neg (by omega), show ws - (r + 1) + 1 = ws - r by omega]
    exact (hl r (by omega) (Nat.le_refl r) z hz).1
theorem pl_ls {N : Nat → Nat} {R : Nat → Nat → Int32} {ws r : Nat} {hn : Int32} {r28 r29 v28 v29 : Nat → Int32} (hr : r + 1 ≤ ws) (hp : 2 ^ N 17 ≤ 256) (hl : ∀ j, 1 ≤ j → j ≤ r → ∀ z, z < 2 ^ N 17 → r28 (256 * (ws - j) + z) = (lsF N R ws hn j z).1 ∧ (¬ (lsF N R ws hn j z).1 < 0 → r29 (256 * (ws - j) + z) = nI (lsF N R ws hn j z).2))
    (hu : ∀ i, 256 * (ws - (r + 1) + 1) ≤ i → v28 i = r28 i ∧ v29 i = r29 i) (hq : ∀ z, z < 2 ^ N 17 → v28 (256 * (ws - (r + 1)) + z) = (bsF N R (ws - (r + 1)) hn (fun z => (lsF N R ws hn r z).1) z (2 ^ N 17)).1 ∧ (¬ (bsF N R (ws - (r + 1)) hn (fun z => (lsF N R ws hn r z).1) z (2 ^ N 17)).1 < 0 → v29 (256 * (ws - (r + 1)) + z) = nI (bsF N R (ws - (r + 1)) hn (fun z => (lsF N R ws hn r z).1) z (2 ^ N 17)).2)) : ∀ j, 1 ≤ j → j ≤ r + 1 → ∀ z, z < 2 ^ N 17 → v28 (256 * (ws - j) + z) = (lsF N R ws hn j z).1 ∧ (¬ (lsF N R ws hn j z).1 < 0 → v29 (256 * (ws - j) + z) = nI (lsF N R ws hn j z).2) := by
  intro j h1 h2 z hz
  by_cases e : j = r + 1
  · subst e
    exact hq z hz
  · have h3 := hu (256 * (ws - j) + z) (by omega)
    rw [h3.1, h3.2]
    exact hl j h1 (by omega) z hz
theorem pl_31 {R : Nat → Nat → Int32} {i : Nat} {g : Nat → Int32} (h : ∀ k, g k = if k < i then -4 else R 31 k) : ∀ k, upd g i (-4) k = if k < i + 1 then -4 else R 31 k := by
  intro k
  by_cases e : k = i
  · rw [e, pk_us, if_pos (Nat.lt_succ_self i)]
  · rw [pk_un e, h k]
    by_cases q : k < i
    · rw [if_pos q, if_pos (by omega)]
    · rw [if_neg q, if_neg (by omega)]
theorem pl_32 {R : Nat → Nat → Int32} {i : Nat} {g g2 : Nat → Int32} (h : ∀ k, g k = if k < i then -4 else R 31 k) (h2 : ∀ k, g2 k = if k < i then R 31 k else R 32 k) : ∀ k, upd g2 i (g i) k = if k < i + 1 then R 31 k else R 32 k := by
  intro k
  by_cases e : k = i
  · rw [e, pk_us, if_pos (Nat.lt_succ_self i), h i, if_neg (Nat.lt_irrefl i)]
  · rw [pk_un e, h2 k]
    by_cases q : k < i
    · rw [if_pos q, if_pos (by omega)]
    · rw [if_neg q, if_neg (by omega)]
theorem pl_w0 {N : Nat → Nat} {R : Nat → Nat → Int32} {ws : Nat} {hn : Int32} {k : Nat} (h : N 17 ≤ 8) : (if k < 8 then -4 else R 31 k) = if k < N 17 then wnF N R ws hn 0 k else if k < 8 then -4 else R 31 k := by
  by_cases q : k < N 17
  · rw [if_pos q, if_pos (by omega)]; rfl
  · rw [if_neg q]
theorem pl_wk {N : Nat → Nat} {R : Nat → Nat → Int32} {ws w m2 : Nat} {hn : Int32} {g2 g3 : Nat → Int32} (hm : m2 = N 17) (h2 : ∀ k, g2 k = if k < N 17 then wnF N R ws hn w k else if k < 8 then -4 else R 31 k) (h3 : ∀ k, g3 k = if k < m2 then wnF N R ws hn (w + 1) k else g2 k) : ∀ k, g3 k = if k < N 17 then wnF N R ws hn (w + 1) k else if k < 8 then -4 else R 31 k := by
  intro k
  rw [h3 k, hm]
  by_cases q : k < N 17
  · rw [if_pos q, if_pos q]
  · rw [if_neg q, if_neg q, h2 k, if_neg q]
theorem pl_in {N : Nat → Nat} {R : Nat → Nat → Int32} {ws w m2 : Nat} {hn : Int32} {g2 g3 : Nat → Int32} (h2 : ∀ k, g2 k = if k < N 17 then wnF N R ws hn w k else if k < 8 then -4 else R 31 k) (h3 : ∀ k, g3 k = if k < m2 then wnF N R ws hn (w + 1) k else g2 k) (hm : m2 < N 17) {c : Nat} (hc : c = (lsF N R ws hn (ws - w) (dnF N R ws hn w)).2) : ∀ k, upd g3 m2 (if c.testBit m2 = true then nI w else g3 m2) k = if k < m2 + 1 then wnF N R ws hn (w + 1) k else g2 k := by
  intro k
  by_cases e : k = m2
  · rw [e, pk_us, if_pos (Nat.lt_succ_self m2), hc, h3 m2, if_neg (Nat.lt_irrefl m2), h2 m2, if_pos hm]
    rfl
  · rw [pk_un e, h3 k]
    by_cases q : k < m2
    · rw [if_pos q, if_pos (by omega)]
    · rw [if_neg q, if_neg (by omega)]
theorem pl_ch {N : Nat → Nat} {R : Nat → Nat → Int32} {ws r w dn : Nat} {hn : Int32} {r28 r29 : Nat → Int32} (hr : r = ws) (hw : w < ws) (hl : ∀ j, 1 ≤ j → j ≤ r → ∀ z, z < 2 ^ N 17 → r28 (256 * (ws - j) + z) = (lsF N R ws hn j z).1 ∧ (¬ (lsF N R ws hn j z).1 < 0 → r29 (256 * (ws - j) + z) = nI (lsF N R ws hn j z).2)) (hd : dn < 2 ^ N 17) (hz : ¬ (lsF N R ws hn (ws - w) dn).1 < 0) : r29 (256 * w + dn) = nI (lsF N R ws hn (ws - w) dn).2 := by
  have h := (hl (ws - w) (by omega) (by omega) dn hd).2 hz
  rw [show ws - (ws - w) = w by omega] at h
  exact h
theorem pl_0 {N : Nat → Nat} {R : Nat → Nat → Int32} {ws r : Nat} {hn : Int32} {r28 r29 : Nat → Int32} (h1 : 1 ≤ ws) (hr : r = ws) (hl : ∀ j, 1 ≤ j → j ≤ r → ∀ z, z < 2 ^ N 17 → r28 (256 * (ws - j) + z) = (lsF N R ws hn j z).1 ∧ (¬ (lsF N R ws hn j z).1 < 0 → r29 (256 * (ws - j) + z) = nI (lsF N R ws hn j z).2)) : r28 0 = (lsF N R ws hn ws 0).1 := by
  have h := (hl ws h1 (by omega) 0 (Nat.two_pow_pos _)).1
  rw [show 256 * (ws - ws) + 0 = 0 by omega] at h
  exact h
