/-! pure rows for the class's planner -/
def sbN (d a : Nat) : Prop := d &&& a = d
theorem sb_bit {d a : Nat} : sbN d a ↔ ∀ i, d.testBit i = true → a.testBit i = true := by
  unfold sbN
  constructor
  · intro h i hi
    rw [← h, Nat.testBit_and, Bool.and_eq_true] at hi
    exact hi.2
  · intro h
    apply Nat.eq_of_testBit_eq
    intro i
    rw [Nat.testBit_and]
    cases e : d.testBit i
    · rfl
    · rw [h i e]; rfl
theorem sb_tr {a b c : Nat} (h : sbN a b) (h2 : sbN b c) : sbN a c := sb_bit.mpr (fun i hi => sb_bit.mp h2 i (sb_bit.mp h i hi))
theorem sb_or {a b c : Nat} (h : sbN a c) (h2 : sbN b c) : sbN (a ||| b) c := sb_bit.mpr (fun i hi => by
  rw [Nat.testBit_or, Bool.or_eq_true] at hi
  rcases hi with hi | hi
  · exact sb_bit.mp h i hi
  · exact sb_bit.mp h2 i hi)
theorem sb_l (a b : Nat) : sbN a (a ||| b) := sb_bit.mpr (fun i hi => by rw [Nat.testBit_or, hi, Bool.true_or])
theorem sb_r (a b : Nat) : sbN b (a ||| b) := sb_bit.mpr (fun i hi => by rw [Nat.testBit_or, hi, Bool.or_true])
theorem sb_0 (a : Nat) : sbN 0 a := Nat.zero_and a
theorem sb_rf (a : Nat) : sbN a a := Nat.and_self a
theorem sb_le {a b : Nat} (h : sbN a b) : a ≤ b := by
  have : a &&& b ≤ b := Nat.and_le_right
  rw [h] at this
  exact this
theorem clr_A (M A : Nat) : nI M &&& (nI A ^^^ (-1)) = nI (M ^^^ (M &&& A)) := by
  refine b_ext (fun i hi => ?_)
  rw [b_and, b_xor, b_m1 i hi, bt_nI hi, bt_nI hi, bt_nI hi, Nat.testBit_xor, Nat.testBit_and]
  cases M.testBit i <;> cases A.testBit i <;> rfl
theorem clr_bit (M A i : Nat) : (M ^^^ (M &&& A)).testBit i = (M.testBit i && !(A.testBit i)) := by
  rw [Nat.testBit_xor, Nat.testBit_and]
  cases M.testBit i <;> cases A.testBit i <;> rfl
theorem clr_0 {M A : Nat} : M ^^^ (M &&& A) = 0 ↔ sbN M A := by
  rw [sb_bit]
  constructor
  · intro h i hi
    have h1 := clr_bit M A i
    rw [h, Nat.zero_testBit, hi, Bool.true_and] at h1
    cases e : A.testBit i
    · rw [e] at h1; cases h1
    · rfl
  · intro h
    apply Nat.eq_of_testBit_eq
    intro i
    rw [clr_bit, Nat.zero_testBit]
    cases e : M.testBit i
    · rfl
    · rw [h i e]; rfl
theorem clr_le (M A : Nat) : sbN (M ^^^ (M &&& A)) M := sb_bit.mpr (fun i hi => by rw [clr_bit, Bool.and_eq_true] at hi; exact hi.1)
/-- the next subset -/
def nxs (s a : Nat) : Nat := (s + 256 - a) &&& a
theorem nxs_I {s a : Nat} (hs : s < 256) (ha : a < 256) : (nI s - nI a) &&& nI a = nI (nxs s a) := by
  refine b_ext (fun i hi => ?_)
  rw [b_and, bt_nI hi, bt_nI hi]
  unfold nxs
  rw [Nat.testBit_and]
  by_cases h8 : i < 8
  · congr 1
    show ((nI s - nI a).toBitVec).getLsbD i = _
    have e : (nI s - nI a).toBitVec = BitVec.ofNat 32 s - BitVec.ofNat 32 a := rfl
    rw [e, ← BitVec.testBit_toNat, BitVec.toNat_sub, BitVec.toNat_ofNat, BitVec.toNat_ofNat, Nat.mod_eq_of_lt (show s < 2 ^ 32 by omega), Nat.mod_eq_of_lt (show a < 2 ^ 32 by omega)]
    have h1 : ((2 ^ 32 - a + s) % 2 ^ 32).testBit i = ((2 ^ 32 - a + s) % 2 ^ 8).testBit i := by
      rw [Nat.testBit_mod_two_pow, Nat.testBit_mod_two_pow, decide_eq_true hi, decide_eq_true h8]
    have h2 : (s + 256 - a).testBit i = ((s + 256 - a) % 2 ^ 8).testBit i := by
      rw [Nat.testBit_mod_two_pow, decide_eq_true h8, Bool.true_and]
    rw [h1, h2]
    congr 1
    omega
  · rw [Nat.testBit_lt_two_pow (Nat.lt_of_lt_of_le ha (show 256 ≤ 2 ^ i from Nat.pow_le_pow_right (n := 2) (by decide) (show 8 ≤ i by omega))), Bool.and_false, Bool.and_false]
def nxK (a : Nat) : Nat → Nat × Bool
  | 0 => (0, true)
  | n + 1 => if (n + 1) &&& a = n + 1 then (n + 1, (nxK a n).2 && (nxs (nxK a n).1 a == n + 1)) else nxK a n
set_option maxRecDepth 100000 in
theorem nxK_ok : ∀ a, a < 256 → (nxK a 255).2 = true ∧ nxs (nxK a 255).1 a = 0 := by decide +kernel
theorem nxK_inv (a : Nat) : ∀ n, (nxK a n).2 = true → (sbN (nxK a n).1 a ∧ (nxK a n).1 ≤ n ∧ ∀ m, (nxK a n).1 < m → m ≤ n → ¬ sbN m a) ∧ ∀ s, sbN s a → s ≤ n → s ≠ (nxK a n).1 → s < nxs s a ∧ nxs s a ≤ n ∧ ∀ m, s < m → m < nxs s a → ¬ sbN m a := by
  intro n
  induction n with
  | zero =>
    intro _
    refine ⟨⟨sb_0 a, Nat.le_refl 0, fun m h1 h2 => ?_⟩, fun s _ h1 h2 => ?_⟩
    · have : (nxK a 0).1 = 0 := rfl
      omega
    · have : (nxK a 0).1 = 0 := rfl
      omega
  | succ n ih =>
    by_cases e : (n + 1) &&& a = n + 1
    · have e1 : nxK a (n + 1) = (n + 1, (nxK a n).2 && (nxs (nxK a n).1 a == n + 1)) := by rw [nxK, if_pos e]
      rw [e1]
      intro h
      rw [Bool.and_eq_true] at h
      obtain ⟨hk, hn⟩ := h
      have hn := eq_of_beq hn
      obtain ⟨⟨c1, c2, c3⟩, c4⟩ := ih hk
      refine ⟨⟨e, Nat.le_refl _, fun m h1 h2 => absurd h1 (by show ¬ n + 1 < m; omega)⟩, fun s hs h1 h2 => ?_⟩
      have h2 : s ≠ n + 1 := h2
      by_cases q : s = (nxK a n).1
      · subst q
        rw [hn]
        exact ⟨by omega, Nat.le_refl _, fun m h3 h4 => c3 m h3 (by omega)⟩
      · obtain ⟨d1, d2, d3⟩ := c4 s hs (by omega) q
        exact ⟨d1, by omega, d3⟩
    · have e1 : nxK a (n + 1) = nxK a n := by rw [nxK, if_neg e]
      rw [e1]
      intro h
      obtain ⟨⟨c1, c2, c3⟩, c4⟩ := ih h
      refine ⟨⟨c1, by omega, fun m h1 h2 => ?_⟩, fun s hs h1 h2 => ?_⟩
      · by_cases q : m = n + 1
        · rw [q]; exact e
        · exact c3 m h1 (by omega)
      · have h3 : s ≠ n + 1 := fun q => e (by rw [← q]; exact hs)
        obtain ⟨d1, d2, d3⟩ := c4 s hs (by omega) h2
        exact ⟨d1, by omega, d3⟩
theorem nxs_prop {s a : Nat} (ha : a < 256) (hs : sbN s a) : (nxs s a = 0 ∧ ∀ m, s < m → m < 256 → ¬ sbN m a) ∨ (¬ nxs s a = 0 ∧ s < nxs s a ∧ nxs s a < 256 ∧ sbN (nxs s a) a ∧ ∀ m, s < m → m < nxs s a → ¬ sbN m a) := by
  have hk := nxK_ok a ha
  have hi := nxK_inv a 255 hk.1
  have hsl := sb_le hs
  by_cases q : s = (nxK a 255).1
  · refine Or.inl ⟨by rw [q]; exact hk.2, fun m h1 h2 => hi.1.2.2 m (by omega) (by omega)⟩
  · obtain ⟨d1, d2, d3⟩ := hi.2 s hs (by omega) q
    refine Or.inr ⟨by omega, d1, by omega, ?_, d3⟩
    unfold nxs sbN
    rw [Nat.and_assoc, Nat.and_self]
/-! the weeks -/
def alF (N : Nat → Nat) (R : Nat → Nat → Int32) (w : Nat) : Nat := msk (fun k => inB (nI w) (R 22 k) (R 23 k)) (N 17)
def ahF (N : Nat → Nat) (R : Nat → Nat → Int32) : Nat → Nat
  | 0 => 0
  | w + 1 => ahF N R w ||| alF N R w
theorem al_lt {N : Nat → Nat} {R : Nat → Nat → Int32} (w : Nat) : alF N R w < 2 ^ N 17 := msk_lt _ _
theorem ah_lt {N : Nat → Nat} {R : Nat → Nat → Int32} : ∀ w, ahF N R w < 2 ^ N 17 := by
  intro w
  induction w with
  | zero => exact Nat.two_pow_pos _
  | succ w ih => exact or_lt2 ih (al_lt w)
theorem ah_mono {N : Nat → Nat} {R : Nat → Nat → Int32} (w : Nat) : ∀ j, sbN (ahF N R w) (ahF N R (w + j)) := by
  intro j
  induction j with
  | zero => exact sb_rf _
  | succ j ih => exact sb_tr ih (sb_l _ _)
theorem ah_le {N : Nat → Nat} {R : Nat → Nat → Int32} {w v : Nat} (h : w ≤ v) : sbN (ahF N R w) (ahF N R v) := by
  have := ah_mono (N := N) (R := R) w (v - w)
  rw [show w + (v - w) = v by omega] at this
  exact this
theorem mi_sb {N : Nat → Nat} {R : Nat → Nat → Int32} {n w : Nat} (hn : n < 2 ^ N 17) : miF R n w (N 17) = true ↔ sbN n (alF N R w) := by
  have key : ∀ k, miF R n w k = true ↔ ∀ i, i < k → n.testBit i = true → inB (nI w) (R 22 i) (R 23 i) = true := by
    intro k
    induction k with
    | zero => exact ⟨fun _ i hi => absurd hi (Nat.not_lt_zero i), fun _ => rfl⟩
    | succ k ih =>
      rw [miF, Bool.and_eq_true, ih]
      constructor
      · intro ⟨h1, h2⟩ i hi hb
        by_cases e : i = k
        · subst e
          rw [hb] at h2
          exact h2
        · exact h1 i (by omega) hb
      · intro h
        refine ⟨fun i hi => h i (by omega), ?_⟩
        cases e : n.testBit k
        · rfl
        · rw [h k (Nat.lt_succ_self k) e]; rfl
  rw [key, sb_bit]
  unfold alF
  constructor
  · intro h i hi
    have hk : i < N 17 := by
      rcases Nat.lt_or_ge i (N 17) with q | q
      · exact q
      · rw [Nat.testBit_lt_two_pow (Nat.lt_of_lt_of_le hn (Nat.pow_le_pow_right (by decide) q))] at hi
        cases hi
    rw [msk_bit, decide_eq_true hk, Bool.true_and]
    exact h i hk hi
  · intro h i hi hb
    have := h i hb
    rw [msk_bit, decide_eq_true hi, Bool.true_and] at this
    exact this
def freF (N : Nat → Nat) (R : Nat → Nat → Int32) (w d : Nat) : Nat := alF N R w ^^^ (alF N R w &&& d)
theorem fre_iff {N : Nat → Nat} {R : Nat → Nat → Int32} {n w d : Nat} (hn : n < 2 ^ N 17) : sbN n (freF N R w d) ↔ n &&& d = 0 ∧ miF R n w (N 17) = true := by
  rw [mi_sb hn, sb_bit, sb_bit]
  unfold freF
  constructor
  · intro h
    refine ⟨?_, fun i hi => ?_⟩
    · apply Nat.eq_of_testBit_eq
      intro i
      rw [Nat.testBit_and, Nat.zero_testBit]
      cases e : n.testBit i
      · rfl
      · have := h i e
        rw [clr_bit, Bool.and_eq_true] at this
        cases e2 : d.testBit i
        · rfl
        · rw [e2] at this; cases this.2
    · have := h i hi
      rw [clr_bit, Bool.and_eq_true] at this
      exact this.1
  · intro ⟨h1, h2⟩ i hi
    rw [clr_bit, h2 i hi, Bool.true_and]
    have h3 : (n &&& d).testBit i = false := by rw [h1]; exact Nat.zero_testBit i
    rw [Nat.testBit_and, hi, Bool.true_and] at h3
    rw [h3]; rfl
theorem fre_lt {N : Nat → Nat} {R : Nat → Nat → Int32} {w d : Nat} : freF N R w d < 2 ^ N 17 := Nat.lt_of_le_of_lt (sb_le (clr_le _ _)) (al_lt w)
theorem bs_skip {N : Nat → Nat} {R : Nat → Nat → Int32} {w : Nat} {hd : Int32} {rest : Nat → Int32} {d a : Nat} : ∀ j, a + j ≤ 2 ^ N 17 → (∀ n, a ≤ n → n < a + j → ¬ sbN n (freF N R w d)) → bsF N R w hd rest d (a + j) = bsF N R w hd rest d a := by
  intro j
  induction j with
  | zero => intro _ _; rfl
  | succ j ih =>
    intro h1 h2
    rw [show a + (j + 1) = (a + j) + 1 by omega, bsF, if_neg, ih (by omega) (fun n h3 h4 => h2 n h3 (by omega))]
    intro q
    refine h2 (a + j) (by omega) (by omega) ((fre_iff (by omega)).mpr ⟨q.1, ?_⟩)
    have := q.2.2.1
    unfold mayB at this
    rw [Bool.and_eq_true] at this
    exact this.1
/-- one set weighed: as the class does it -/
theorem bst_step {N : Nat → Nat} {R : Nat → Nat → Int32} {ws r w : Nat} {hd : Int32} {d se : Nat} (hP : WPt N R) (hB : Bd N) (hh : inB hd (nI 0) (nI 99) = true) (hr : r ≤ 100) (hd2 : d < 2 ^ N 17) (hs : soB N R d = true) (hse : se < 2 ^ N 17) (hsb : sbN se (freF N R w d)) :
    (bsF N R w hd (fun z => (lsF N R ws hd r z).1) d (se + 1)).2 = if decide (nI (haF R se (N 17)) ≤ hd) = true ∧ soB N R (d ||| se) = true ∧ (lsF N R ws hd r (d ||| se)).1 < (lsF N R ws hd r (d ||| (bsF N R w hd (fun z => (lsF N R ws hd r z).1) d se).2)).1 then se else (bsF N R w hd (fun z => (lsF N R ws hd r z).1) d se).2 := by
  have hls := fun z hz hso => ls_ok (ws := ws) hP hB hh r (by omega) z hz hso
  have h0 := hls d hd2 hs
  have hfre := (fre_iff hse).mp hsb
  cases Nat.eq_zero_or_pos se with
  | inl e =>
    subst e
    have e2 : (bsF N R w hd (fun z => (lsF N R ws hd r z).1) d 0).2 = 0 := rfl
    rw [e2, Nat.or_zero, if_neg (fun q => (fa_of_lt q.2.2).2.2.2.1 rfl)]
    exact Nat.lt_one_iff.mp (bs_1 (rest := fun z => (lsF N R ws hd r z).1) (w := w) hs (may0 hh) (nneg h0.1.1) 1 Nat.one_pos).1
  | inr e =>
    obtain ⟨b1, b2, b3, b4, b5, b6⟩ := bs_1 (rest := fun z => (lsF N R ws hd r z).1) (w := w) hs (may0 hh) (nneg h0.1.1) se e
    rw [bsF]
    have hk : rk N R d ≤ 16000 := rsk_le hP hB
    have ha : (nI (rk N R d)).toInt = (rk N R d : Int) := nI_toInt (by omega)
    have hc := hls _ (or_lt2 hd2 (Nat.lt_trans b1 hse)) b3
    by_cases hso : soB N R (d ||| se) = true
    · have hx := hls _ (or_lt2 hd2 hse) hso
      have s1 : ((lsF N R ws hd r (d ||| se)).1 + nI (rk N R d)).toInt = (lsF N R ws hd r (d ||| se)).1.toInt + rk N R d := by
        rw [fb_addI (by rw [ha]; have := hx.1.1; omega) (by rw [ha]; have := hx.1.2; omega), ha]
      have s2 : ((lsF N R ws hd r (d ||| (bsF N R w hd (fun z => (lsF N R ws hd r z).1) d se).2)).1 + nI (rk N R d)).toInt = (lsF N R ws hd r (d ||| (bsF N R w hd (fun z => (lsF N R ws hd r z).1) d se).2)).1.toInt + rk N R d := by
        rw [fb_addI (by rw [ha]; have := hc.1.1; omega) (by rw [ha]; have := hc.1.2; omega), ha]
      have hcmp : ((bsF N R w hd (fun z => (lsF N R ws hd r z).1) d se).1 < 0 ∨ ¬ (bsF N R w hd (fun z => (lsF N R ws hd r z).1) d se).1 ≤ (lsF N R ws hd r (d ||| se)).1 + nI (rk N R d)) ↔ (lsF N R ws hd r (d ||| se)).1 < (lsF N R ws hd r (d ||| (bsF N R w hd (fun z => (lsF N R ws hd r z).1) d se).2)).1 := by
        rw [b6, fa_lt, fa_le, fa_lt, s1, s2]
        have h9 : (0 : Int32).toInt = 0 := rfl
        have := hc.1.1
        omega
      by_cases hf : decide (nI (haF R se (N 17)) ≤ hd) = true
      · have hmay : mayB N R se w hd = true := by unfold mayB; rw [hfre.2, hf]; rfl
        by_cases hlt : (lsF N R ws hd r (d ||| se)).1 < (lsF N R ws hd r (d ||| (bsF N R w hd (fun z => (lsF N R ws hd r z).1) d se).2)).1
        · rw [if_pos ⟨hfre.1, hso, hmay, nneg hx.1.1, hcmp.mpr hlt⟩, if_pos ⟨hf, hso, hlt⟩]
        · rw [if_neg (fun q => hlt (hcmp.mp q.2.2.2.2)), if_neg (fun q => hlt q.2.2)]
      · have hmay : ¬ mayB N R se w hd = true := by
          intro q
          unfold mayB at q
          rw [Bool.and_eq_true] at q
          exact hf q.2
        rw [if_neg (fun q => hmay q.2.2.1), if_neg (fun q => hf q.1)]
    · rw [if_neg (fun q => hso q.2.1), if_neg (fun q => hso q.2.1)]
theorem nI_m1 {n : Nat} (h : n < 1000000) : ¬ nI n = -1 := fun q => by
  have := congrArg Int32.toInt q
  rw [nI_toInt (by omega)] at this
  have h9 : (-1 : Int32).toInt = -1 := rfl
  omega
