theorem fs_0 {N : Nat → Nat} {R : Nat → Nat → Int32} {ws : Nat} {hn : Int32} {C : Nat → Nat → Int32} (h15 : P15 N R ws C) (hws : ws ≤ 6) : ∀ j, j ≤ 0 → P21 N R ws hn j (va_up C (21 + ws) (va_cpy (C 15) (C (21 + ws)) (nI 0).toNatClampNeg (nI 0).toNatClampNeg (nI 256).toNatClampNeg)) := by
  intro j hj d hd hs hso
  obtain rfl : j = 0 := by omega
  rw [Nat.sub_zero] at hs ⊢
  rw [va_upS, cpy256 hd, h15 d hd hs, hso]
  rfl
theorem fs_up {N : Nat → Nat} {R : Nat → Nat → Int32} {ws r w : Nat} {hn : Int32} {C : Nat → Nat → Int32} (h : ∀ j, j ≤ r → P21 N R ws hn j C) (hw : ws = w + (r + 1)) (hc : ∀ z, z < 256 → sbN z (ahF N R w) → soB N R z = true → C (21 + w) z = (lsF N R ws hn (r + 1) z).1) : ∀ j, j ≤ r + 1 → P21 N R ws hn j C := by
  intro j hj
  by_cases e : j = r + 1
  · subst e
    intro d hd hs hso
    rw [show ws - (r + 1) = w by omega] at hs ⊢
    exact hc d hd hs hso
  · exact h j (by omega)
theorem fs_no {N : Nat → Nat} {R : Nat → Nat → Int32} {ws r w d : Nat} {hn : Int32} {C : Nat → Nat → Int32} (h : ∀ z, z < d → sbN z (ahF N R w) → soB N R z = true → C (21 + w) z = (lsF N R ws hn (r + 1) z).1) (hs : ¬ sbN d (ahF N R w)) : ∀ z, z < d + 1 → sbN z (ahF N R w) → soB N R z = true → C (21 + w) z = (lsF N R ws hn (r + 1) z).1 := by
  intro z hz h1 h2
  by_cases e : z = d
  · rw [e] at h1; exact absurd h1 hs
  · exact h z (by omega) h1 h2
theorem fs_no2 {N : Nat → Nat} {R : Nat → Nat → Int32} {ws r w d : Nat} {hn : Int32} {C : Nat → Nat → Int32} (h : ∀ z, z < d → sbN z (ahF N R w) → soB N R z = true → C (21 + w) z = (lsF N R ws hn (r + 1) z).1) (hs : soB N R d = false) : ∀ z, z < d + 1 → sbN z (ahF N R w) → soB N R z = true → C (21 + w) z = (lsF N R ws hn (r + 1) z).1 := by
  intro z hz h1 h2
  by_cases e : z = d
  · rw [e, hs] at h2; cases h2
  · exact h z (by omega) h1 h2
theorem fs_yes {N : Nat → Nat} {R : Nat → Nat → Int32} {ws r w d : Nat} {hn v : Int32} {C : Nat → Nat → Int32} (h : ∀ z, z < d → sbN z (ahF N R w) → soB N R z = true → C (21 + w) z = (lsF N R ws hn (r + 1) z).1) (hv : v = (lsF N R ws hn (r + 1) d).1) : ∀ z, z < d + 1 → sbN z (ahF N R w) → soB N R z = true → va_up C (21 + w) (upd (C (21 + w)) d v) (21 + w) z = (lsF N R ws hn (r + 1) z).1 := by
  intro z hz h1 h2
  rw [va_upS]
  by_cases e : z = d
  · rw [e, pk_us, hv]
  · rw [pk_un e]; exact h z (by omega) h1 h2
theorem wn_s (N : Nat → Nat) (R : Nat → Nat → Int32) (ws : Nat) (hd : Int32) (w k : Nat) : wnF N R ws hd (w + 1) k = if (lsF N R ws hd (ws - w) (dnF N R ws hd w)).2.testBit k = true then nI w else wnF N R ws hd w k := rfl
theorem fw_g {N : Nat → Nat} {R : Nat → Nat → Int32} {ws r w dn k2 : Nat} {hn : Int32} {g g2 : Nat → Int32} (hk : k2 = 8) (hw : ws = w + (r + 1)) (hdn : dn = dnF N R ws hn w) (hcd : (lsF N R ws hn (r + 1) dn).2 &&& dn = 0) (hg : ∀ k, k < 8 → g k = if dn.testBit k = true then wnF N R ws hn w k else R 31 k) (hg2 : ∀ k, k < 8 → g2 k = if k < k2 ∧ (lsF N R ws hn (r + 1) dn).2.testBit k = true then nI w else g k) : ∀ k, k < 8 → g2 k = if (dn ||| (lsF N R ws hn (r + 1) dn).2).testBit k = true then wnF N R ws hn (w + 1) k else R 31 k := by
  intro k hk8
  have e : ws - w = r + 1 := by omega
  rw [hg2 k hk8, wn_s, ← hdn, e, Nat.testBit_or, hg k hk8]
  by_cases c : (lsF N R ws hn (r + 1) dn).2.testBit k = true
  · rw [if_pos ⟨by omega, c⟩, c, Bool.or_true, if_pos rfl, if_pos rfl]
  · rw [if_neg (fun q => c q.2), ts_nt c, Bool.or_false, if_neg Bool.false_ne_true]
theorem fw_m {N : Nat → Nat} {R : Nat → Nat → Int32} {ws r w dn k2 mv mv2 : Nat} {hn : Int32} {g : Nat → Int32} (hk : k2 = 8) (hw : ws = w + (r + 1)) (hdn : dn = dnF N R ws hn w) (hcl : (lsF N R ws hn (r + 1) dn).2 < 2 ^ N 17) (hcd : (lsF N R ws hn (r + 1) dn).2 &&& dn = 0) (b17 : N 17 ≤ 8) (hg : ∀ k, k < 8 → g k = if dn.testBit k = true then wnF N R ws hn w k else R 31 k) (hmv : ∀ k, mv.testBit k = (dn.testBit k && decide (¬ wnF N R ws hn w k = R 31 k))) (hmv2 : ∀ k, mv2.testBit k = (mv.testBit k || (decide (k < k2) && ((lsF N R ws hn (r + 1) dn).2.testBit k && decide (¬ g k = nI w))))) : ∀ k, mv2.testBit k = ((dn ||| (lsF N R ws hn (r + 1) dn).2).testBit k && decide (¬ wnF N R ws hn (w + 1) k = R 31 k)) := by
  intro k
  have e : ws - w = r + 1 := by omega
  rw [hmv2 k, hmv k, wn_s, ← hdn, e, Nat.testBit_or]
  by_cases c : (lsF N R ws hn (r + 1) dn).2.testBit k = true
  · have hk8 : k < 8 := by
      rcases Nat.lt_or_ge k 8 with q | q
      · exact q
      · rw [Nat.testBit_lt_two_pow (Nat.lt_of_lt_of_le hcl (Nat.pow_le_pow_right (by decide) (by omega)))] at c
        cases c
    have hd : dn.testBit k = false := by
      have h9 : ((lsF N R ws hn (r + 1) dn).2 &&& dn).testBit k = false := by rw [hcd]; exact Nat.zero_testBit k
      rw [Nat.testBit_and, c, Bool.true_and] at h9
      exact h9
    rw [c, hd, hg k hk8, hd, if_neg Bool.false_ne_true, if_pos rfl, hk, decide_eq_true hk8, Bool.false_and, Bool.false_or, Bool.true_and, Bool.true_and, Bool.or_true, Bool.true_and]
    apply decide_eq_decide.mpr
    exact ⟨fun h q => h q.symm, fun h q => h q.symm⟩
  · rw [ts_nt c, Bool.false_and, Bool.and_false, Bool.or_false, Bool.or_false, if_neg Bool.false_ne_true]
theorem fw_ig0 {k2 w c : Nat} {g g2 : Nat → Int32} (h : ∀ k, k < 8 → g2 k = if k < k2 ∧ c.testBit k = true then nI w else g k) (hc : c.testBit k2 = false) : ∀ k, k < 8 → g2 k = if k < k2 + 1 ∧ c.testBit k = true then nI w else g k := by
  intro k hk
  rw [h k hk]
  by_cases e : k = k2
  · subst e
    rw [if_neg (fun q => Nat.lt_irrefl _ q.1), if_neg (fun q => by rw [hc] at q; exact Bool.false_ne_true q.2)]
  · by_cases q : k < k2 ∧ c.testBit k = true
    · rw [if_pos q, if_pos ⟨by omega, q.2⟩]
    · rw [if_neg q, if_neg (fun z => q ⟨by omega, z.2⟩)]
theorem fw_im0 {k2 w c mv mv2 : Nat} {g : Nat → Int32} (h : ∀ k, mv2.testBit k = (mv.testBit k || (decide (k < k2) && (c.testBit k && decide (¬ g k = nI w))))) (hc : c.testBit k2 = false) : ∀ k, mv2.testBit k = (mv.testBit k || (decide (k < k2 + 1) && (c.testBit k && decide (¬ g k = nI w)))) := by
  intro k
  rw [h k]
  by_cases e : k = k2
  · subst e
    rw [hc, Bool.false_and, Bool.and_false, Bool.and_false]
  · rw [show decide (k < k2 + 1) = decide (k < k2) from decide_eq_decide.mpr (by omega)]
theorem fw_ig1 {k2 w c : Nat} {g g2 : Nat → Int32} (h : ∀ k, k < 8 → g2 k = if k < k2 ∧ c.testBit k = true then nI w else g k) (hc : c.testBit k2 = true) : ∀ k, k < 8 → upd g2 k2 (nI w) k = if k < k2 + 1 ∧ c.testBit k = true then nI w else g k := by
  intro k hk
  by_cases e : k = k2
  · subst e
    rw [pk_us, if_pos ⟨Nat.lt_succ_self _, hc⟩]
  · rw [pk_un e, h k hk]
    by_cases q : k < k2 ∧ c.testBit k = true
    · rw [if_pos q, if_pos ⟨by omega, q.2⟩]
    · rw [if_neg q, if_neg (fun z => q ⟨by omega, z.2⟩)]
theorem fw_im1 {k2 w c mv mv2 m3 : Nat} {g g2 : Nat → Int32} (hg : ∀ k, k < 8 → g2 k = if k < k2 ∧ c.testBit k = true then nI w else g k) (h : ∀ k, mv2.testBit k = (mv.testBit k || (decide (k < k2) && (c.testBit k && decide (¬ g k = nI w))))) (hk2 : k2 < 8) (hc : c.testBit k2 = true) (hm : m3 = if g2 k2 = nI w then mv2 else mv2 ||| 2 ^ k2) : ∀ k, m3.testBit k = (mv.testBit k || (decide (k < k2 + 1) && (c.testBit k && decide (¬ g k = nI w)))) := by
  intro k
  have e2 : g2 k2 = g k2 := by rw [hg k2 hk2, if_neg (fun q => Nat.lt_irrefl _ q.1)]
  rw [e2] at hm
  by_cases e : k = k2
  · subst e
    rw [decide_eq_true (Nat.lt_succ_self k), hc, Bool.true_and, Bool.true_and, hm]
    by_cases q : g k = nI w
    · rw [if_pos q, h k, decide_eq_false (Nat.lt_irrefl k), Bool.false_and, decide_eq_false (fun z => z q)]
    · rw [if_neg q, Nat.testBit_or, Nat.testBit_two_pow, decide_eq_true rfl, decide_eq_true q, Bool.or_true, Bool.or_true]
  · rw [show decide (k < k2 + 1) = decide (k < k2) from decide_eq_decide.mpr (by omega), ← h k, hm]
    split
    · rfl
    · rw [Nat.testBit_or, Nat.testBit_two_pow, decide_eq_false (fun z => e z.symm), Bool.or_false]
theorem ite_s {k k3 : Nat} (e : ¬ k = k3) (a b : Int32) : (if k < k3 + 1 then a else b) = if k < k3 then a else b := by
  by_cases q : k < k3
  · rw [if_pos q, if_pos (by omega)]
  · rw [if_neg q, if_neg (by omega)]
section FWF
variable {k3 dn mv3 : Nat} {g3 w9 o9 : Nat → Int32}
theorem fw_fg0 (h : ∀ k, k < 8 → g3 k = if dn.testBit k = true then w9 k else if k < k3 then -4 else o9 k) (hc : dn.testBit k3 = true) : ∀ k, k < 8 → g3 k = if dn.testBit k = true then w9 k else if k < k3 + 1 then -4 else o9 k := by
  intro k hk
  rw [h k hk]
  by_cases e : k = k3
  · subst e; rw [if_pos hc, if_pos hc]
  · rw [ite_s e]
theorem fw_fm0 (h : ∀ k, mv3.testBit k = ((dn.testBit k && decide (¬ w9 k = o9 k)) || (decide (k < k3) && (!(dn.testBit k) && decide (¬ o9 k = -4))))) (hc : dn.testBit k3 = true) : ∀ k, mv3.testBit k = ((dn.testBit k && decide (¬ w9 k = o9 k)) || (decide (k < k3 + 1) && (!(dn.testBit k) && decide (¬ o9 k = -4)))) := by
  intro k
  rw [h k]
  by_cases e : k = k3
  · subst e; rw [hc, Bool.not_true, Bool.false_and, Bool.and_false, Bool.and_false]
  · rw [show decide (k < k3 + 1) = decide (k < k3) from decide_eq_decide.mpr (by omega)]
theorem fw_fg1 (h : ∀ k, k < 8 → g3 k = if dn.testBit k = true then w9 k else if k < k3 then -4 else o9 k) (hc : dn.testBit k3 = false) : ∀ k, k < 8 → upd g3 k3 (-4) k = if dn.testBit k = true then w9 k else if k < k3 + 1 then -4 else o9 k := by
  intro k hk
  by_cases e : k = k3
  · subst e; rw [pk_us, hc, if_neg Bool.false_ne_true, if_pos (Nat.lt_succ_self k)]
  · rw [pk_un e, h k hk, ite_s e]
theorem fw_fm1 {m4 : Nat} (hg : ∀ k, k < 8 → g3 k = if dn.testBit k = true then w9 k else if k < k3 then -4 else o9 k) (h : ∀ k, mv3.testBit k = ((dn.testBit k && decide (¬ w9 k = o9 k)) || (decide (k < k3) && (!(dn.testBit k) && decide (¬ o9 k = -4))))) (hk : k3 < 8) (hc : dn.testBit k3 = false) (hm : m4 = if g3 k3 = -4 then mv3 else mv3 ||| 2 ^ k3) : ∀ k, m4.testBit k = ((dn.testBit k && decide (¬ w9 k = o9 k)) || (decide (k < k3 + 1) && (!(dn.testBit k) && decide (¬ o9 k = -4)))) := by
  intro k
  have e2 : g3 k3 = o9 k3 := by rw [hg k3 hk, hc, if_neg Bool.false_ne_true, if_neg (Nat.lt_irrefl k3)]
  rw [e2] at hm
  by_cases e : k = k3
  · subst e
    rw [hc, decide_eq_true (Nat.lt_succ_self k), Bool.false_and, Bool.false_or, Bool.true_and, Bool.not_false, Bool.true_and, hm]
    by_cases q : o9 k = -4
    · rw [if_pos q, h k, hc, Bool.false_and, Bool.false_or, decide_eq_false (Nat.lt_irrefl k), Bool.false_and, decide_eq_false (fun z => z q)]
    · rw [if_neg q, Nat.testBit_or, Nat.testBit_two_pow, decide_eq_true rfl, decide_eq_true q, Bool.or_true]
  · rw [show decide (k < k3 + 1) = decide (k < k3) from decide_eq_decide.mpr (by omega), ← h k, hm]
    split
    · rfl
    · rw [Nat.testBit_or, Nat.testBit_two_pow, decide_eq_false (fun z => e z.symm), Bool.or_false]
end FWF
theorem wn_out {N : Nat → Nat} {R : Nat → Nat → Int32} {ws : Nat} {hn : Int32} {k : Nat} : ∀ w, (dnF N R ws hn w).testBit k = false → wnF N R ws hn w k = -4 := by
  intro w
  induction w with
  | zero => intro _; rfl
  | succ w ih =>
    intro h
    rw [dnF, Nat.testBit_or, Bool.or_eq_false_iff] at h
    rw [wn_s, h.2, if_neg Bool.false_ne_true]
    exact ih h.1
theorem fw_end {N : Nat → Nat} {R : Nat → Nat → Int32} {ws dn k3 : Nat} {hn : Int32} {g3 : Nat → Int32} (hdn : dn = dnF N R ws hn ws) (hk : k3 = 8) (h : ∀ k, k < 8 → g3 k = if dn.testBit k = true then wnF N R ws hn ws k else if k < k3 then -4 else R 31 k) : ∀ k, k < 8 → g3 k = wnF N R ws hn ws k := by
  intro k hk8
  rw [h k hk8]
  by_cases c : dn.testBit k = true
  · rw [if_pos c]
  · rw [if_neg c, if_pos (by omega), wn_out ws (by rw [← hdn]; exact ts_nt c)]
theorem fw_endm {N : Nat → Nat} {R : Nat → Nat → Int32} {ws dn k3 mv3 : Nat} {hn : Int32} (hdn : dn = dnF N R ws hn ws) (hk : k3 = 8) (hdl : dn < 2 ^ N 17) (b17 : N 17 ≤ 8) (h : ∀ k, mv3.testBit k = ((dn.testBit k && decide (¬ wnF N R ws hn ws k = R 31 k)) || (decide (k < k3) && (!(dn.testBit k) && decide (¬ R 31 k = -4))))) : mv3 < 256 ∧ ∀ k, k < 8 → mv3.testBit k = decide (¬ wnF N R ws hn ws k = R 31 k) := by
  refine ⟨?_, fun k hk8 => ?_⟩
  · refine Nat.lt_pow_two_of_testBit mv3 (n := 8) (fun i hi => ?_)
    rw [h i, show decide (i < k3) = false from decide_eq_false (by omega), Bool.false_and, Bool.or_false, Nat.testBit_lt_two_pow (Nat.lt_of_lt_of_le hdl (Nat.pow_le_pow_right (by decide) (by omega))), Bool.false_and]
  · rw [h k, show decide (k < k3) = true from decide_eq_true (by omega), Bool.true_and]
    by_cases c : dn.testBit k = true
    · rw [c, Bool.true_and, Bool.not_true, Bool.false_and, Bool.or_false]
    · rw [ts_nt c, Bool.false_and, Bool.false_or, Bool.not_false, Bool.true_and, wn_out ws (by rw [← hdn]; exact ts_nt c)]
      apply decide_eq_decide.mpr
      exact ⟨fun h q => h q.symm, fun h q => h q.symm⟩
set_option maxHeartbeats 4000000 in
set_option maxRecDepth 100000 in
theorem x_findSums (l : Launch) (D : va_G) (cy : Nat → ClassId) (q : Nat → Nat) (K : Nat → Nat) (C : Nat → Nat → Int32) (O : Nat → Nat → Option Nat) (L : List Nat) (f : Nat → va_E) (N : Nat → Nat) (R : Nat → Nat → Int32) (ws : Nat) (hn : Int32) (hW : WFm N R) (hws : ws ≤ 6) (hh : inB hn (nI 0) (nI 99) = true) (h15 : P15 N R ws C) (h16 : P16 N R ws hn C) (h18 : P18 N R ws C) (h19 : P19 N R ws C) : MS (α := (Nat → Nat → Int32)) l D cy yX6_findSums cX6_findSums 4 (Option.none : Option FieldType) rm_X6_findSums [.ref (q 4), .int (nI ws)] (wX cy q K C O L f) (fun v_ u_ => v_ = none ∧ (∀ j, j < 21 → u_ j = C j) ∧ ∀ j, j ≤ ws → P21 N R ws hn j u_) (fun u_ => wX cy q K u_ O L f) := by
  refine MS.mk2 (by decide) (Nat.le_of_ble_eq_true rfl) [(0, .ref (q 4)), (1, .int (nI ws))] rfl ?_
  intro p e s m args below meth c A ls Q hQ S hr hlk hnm hK hA I hl
  have hW0 := hW
  obtain ⟨hB, hPt, hBo, hH, hM, hQu⟩ := hW0
  have hB0 := hB
  obtain ⟨b0, b6, b17, b24, b30⟩ := hB0
  have hp2 := pow_256 b17
  have hp1 := Nat.two_pow_pos (N 17)
  refine lv_aload_n S.1 S.2.1 dX6_findSums_0 rfl (lv_at hl 0 rfl) ?_
  refine rg (ci := 6) (q0 := 4) (v := .ref (q 15)) 1 S hK I cl_X6 rfl wf_X6_9 (by decide) rfl rfl rfl dX6_findSums_1 ?_
  refine lv_iconst (v := nI 0) S.1 S.2.1 dX6_findSums_4 (by decide) ?_
  refine lv_aload_n S.1 S.2.1 dX6_findSums_5 rfl (lv_at hl 0 rfl) ?_
  refine rg (ci := 6) (q0 := 4) (v := .ref (q 17)) 3 S hK I cl_X6 rfl wf_X6_21 (by decide) rfl rfl rfl dX6_findSums_6 ?_
  refine lv_iload_n S.1 S.2.1 dX6_findSums_9 rfl (lv_at hl 1 rfl) ?_
  refine rs S hK I rfl (show ws < 7 by omega) dX6_findSums_10 ?_
  refine lv_iconst (v := nI 0) S.1 S.2.1 dX6_findSums_11 (by decide) ?_
  refine lv_sipush (v := nI 256) S.1 S.2.1 dX6_findSums_12 (by decide) ?_
  refine va_copyi (rest := []) (sp := nI 0) (dp := nI 0) (n := nI 256) S.1 S.2.1 (S.2.2.1.trans hl.1.symm) S.2.2.2.1 (S.2.2.2.2 _ (List.mem_cons_of_mem _ wm_X6_60)) (S.2.2.2.2 _ (List.mem_cons_of_mem _ wz_native)) (S.2.2.2.2 _ (List.mem_cons_of_mem _ wt_arraycopyName)) (S.2.2.2.2 _ (List.mem_cons_of_mem _ wn_J10)) hK.1 I.1 I.2.1 I.2.2 15 (21 + ws) 0 0 (ty := .int) (f := C 15) (g := C (21 + ws)) rfl (wXs (by omega)) rfl rfl rfl (by decide) (by decide) (by decide) (by decide) (by decide) (fun _ _ => rfl) (by decide) (by decide) dX6_findSums_15 (fun H locs i1 i2 i3 => ?_)
  have I : IX D A s.heap (wX cy q K (va_up C (21 + ws) (va_cpy (C 15) (C (21 + ws)) (nI 0).toNatClampNeg (nI 0).toNatClampNeg (nI 256).toNatClampNeg)) O L f) H locs := IXset (by omega) ⟨i1, i2, i3⟩
  refine lv_iload_n S.1 S.2.1 dX6_findSums_18 rfl (lv_at hl 1 rfl) ?_
  refine lv_iconst (v := nI 1) S.1 S.2.1 dX6_findSums_19 (by decide) ?_
  refine lv_isub S.1 S.2.1 dX6_findSums_20 ?_
  refine lv_istore_n (lv' := [(2, .int ((nI ws) - (nI 1))), (0, .ref (q 4)), (1, .int (nI ws))]) S.1 S.2.1 dX6_findSums_21 rfl hl (by decide) rfl (fun ls hl => ?_)
  have loop_22 : ∀ (k_ : Nat) (r : Nat) (C2 : Nat → Nat → Int32), ws - r < k_ → r ≤ ws → (∀ j, j < 21 → C2 j = C j) → (∀ j, j ≤ r → P21 N R ws hn j C2) → ∀ (H : Heap) (locs : List Loc) (ls : Array Slot), IX D A s.heap (wX cy q K C2 O L f) H locs → lv_has ls 4 [(0, .ref (q 4)), (1, .int (nI ws)), (2, .int (nI ws - nI (r + 1)))] → W p l e rm_X6_findSums s m args below meth c H locs 0 0 Q (F0 m 22 ls []) := by
    intro k_
    induction k_ with
    | zero => intro r C2 hm_; exact absurd hm_ (Nat.not_lt_zero _)
    | succ k_ ih_22 =>
      intro r C2 hm_ hrr hC2 hs2 H locs ls I hl
      refine lv_iload_n S.1 S.2.1 dX6_findSums_22 rfl (lv_at hl 2 rfl) ?_
      refine lv_if_lt (tgt := 105) S.1 S.2.1 dX6_findSums_23 (by decide) (fun c_23 => ?_) (fun c_23 => ?_)
      · skip
        exact ru_v hQ S hr hlk (u := C2) I (⟨rfl, hC2, by have e9 : r = ws := (by have := sub_neg (by omega) (by omega) c_23; omega); rw [e9] at hs2; exact hs2⟩) dX6_findSums_105
      · skip
        have hr3 : r + 1 ≤ ws := sub_nneg (by omega) (by omega) c_23
        obtain ⟨w, hw⟩ : ∃ w, ws = w + (r + 1) := ⟨ws - (r + 1), by omega⟩
        rw [pk_sub hr3, show ws - (r + 1) = w by omega] at hl
        have hahl := ah_lt (N := N) (R := R) w
        refine lv_iconst (v := nI 0) S.1 S.2.1 dX6_findSums_26 (by decide) ?_
        refine lv_istore_n (lv' := [(3, .int (nI 0)), (0, .ref (q 4)), (1, .int (nI ws)), (2, .int (nI w))]) S.1 S.2.1 dX6_findSums_27 rfl hl (by decide) rfl (fun ls hl => ?_)
        have loop_28 : ∀ (k_ : Nat) (d : Nat) (C3 : Nat → Nat → Int32), 256 - d < k_ → d ≤ 256 → (∀ j, j < 21 → C3 j = C j) → (∀ j, j ≤ r → P21 N R ws hn j C3) → (∀ z, z < d → sbN z (ahF N R w) → soB N R z = true → C3 (21 + w) z = (lsF N R ws hn (r + 1) z).1) → ∀ (H : Heap) (locs : List Loc) (ls : Array Slot), IX D A s.heap (wX cy q K C3 O L f) H locs → lv_has ls 4 [(0, .ref (q 4)), (1, .int (nI ws)), (2, .int (nI w)), (3, .int (nI d))] → W p l e rm_X6_findSums s m args below meth c H locs 0 0 Q (F0 m 28 ls []) := by
          intro k_
          induction k_ with
          | zero => intro d C3 hm_; exact absurd hm_ (Nat.not_lt_zero _)
          | succ k_ ih_28 =>
            intro d C3 hm_ hd hC3 hs3 hcur H locs ls I hl
            refine lv_iload_n S.1 S.2.1 dX6_findSums_28 rfl (lv_at hl 3 rfl) ?_
            refine lv_sipush (v := nI 256) S.1 S.2.1 dX6_findSums_29 (by decide) ?_
            refine lv_icmp_ge (tgt := 99) S.1 S.2.1 dX6_findSums_32 (by decide) (fun c_32 => ?_) (fun c_32 => ?_)
            · skip
              have c_32o := c_32
              have c_32 := nI_cgeT (by omega) (by omega) c_32
              refine lv_iinc (v := nI ws - nI (r + 1 + 1)) (lv' := [(2, .int (nI ws - nI (r + 1 + 1))), (0, .ref (q 4)), (1, .int (nI ws)), (3, .int (nI d))]) S.1 S.2.1 dX6_findSums_99 hl (k := 2) rfl (by rw [show nI w = nI ws - nI (r + 1) by rw [pk_sub hr3, show ws - (r + 1) = w by omega]]; exact sub_dec _ _) (by decide) rfl (fun ls hl => ?_)
              refine lv_goto (tgt := 22) S.1 S.2.1 dX6_findSums_102 (by decide) ?_
              exact ih_22 (r + 1) C3 (by omega) (by omega) hC3 (fs_up hs3 hw (fun z hz => hcur z (by omega))) _ _ _ I (lv_sub hl [1, 2, 0] rfl)
            · skip
              have c_32o := c_32
              have c_32 := nI_cgeF (by omega) (by omega) c_32
              refine lv_iload_n S.1 S.2.1 dX6_findSums_35 rfl (lv_at hl 3 rfl) ?_
              refine lv_aload_n S.1 S.2.1 dX6_findSums_36 rfl (lv_at hl 0 rfl) ?_
              refine rg (ci := 6) (q0 := 4) (v := .ref (q 19)) 5 S hK I cl_X6 rfl wf_X6_27 (by decide) rfl rfl rfl dX6_findSums_37 ?_
              refine lv_iload_n S.1 S.2.1 dX6_findSums_40 rfl (lv_at hl 2 rfl) ?_
              refine ri (q0 := 19) (n := 7) (f := C3 19) w S hK I rfl rfl (by omega) (by decide) dX6_findSums_41 ?_
              refine tI (y := nI (ahF N R w)) (by rw [hC3 19 (by decide)]; exact h19 w (by omega)) ?_
              refine lv_iconst (v := (-1)) S.1 S.2.1 dX6_findSums_42 (by decide) ?_
              refine lv_ixor S.1 S.2.1 dX6_findSums_43 ?_
              refine lv_iand S.1 S.2.1 dX6_findSums_44 ?_
              refine tI (y := nI (d ^^^ (d &&& ahF N R w))) (clr_A _ _) ?_
              have hxl := sb_le (clr_le d (ahF N R w))
              refine lv_if_ne (tgt := 93) S.1 S.2.1 dX6_findSums_45 (by decide) (fun c_45 => ?_) (fun c_45 => ?_)
              · skip
                have c_45o := c_45
                have c_45 := nI_zneT (by omega) c_45
                refine lv_iinc (v := nI (d + 1)) (lv' := [(3, .int (nI (d + 1))), (0, .ref (q 4)), (1, .int (nI ws)), (2, .int (nI w))]) S.1 S.2.1 dX6_findSums_93 hl (k := 3) rfl (nI_1 _) (by decide) rfl (fun ls hl => ?_)
                refine lv_goto (tgt := 28) S.1 S.2.1 dX6_findSums_96 (by decide) ?_
                exact ih_28 (d + 1) C3 (by omega) (by omega) hC3 hs3 (fs_no hcur (fun q => c_45 (clr_0.mpr q))) _ _ _ I (lv_sub hl [1, 2, 3, 0] rfl)
              · skip
                have c_45o := c_45
                have c_45 := nI_zneF (by omega) c_45
                have hsub : sbN d (ahF N R w) := clr_0.mp c_45
                have hdl := sb_le hsub
                refine lv_aload_n S.1 S.2.1 dX6_findSums_48 rfl (lv_at hl 0 rfl) ?_
                refine rg (ci := 6) (q0 := 4) (v := .ref (q 15)) 1 S hK I cl_X6 rfl wf_X6_9 (by decide) rfl rfl rfl dX6_findSums_49 ?_
                refine lv_iload_n S.1 S.2.1 dX6_findSums_52 rfl (lv_at hl 3 rfl) ?_
                refine ri (q0 := 15) (n := 256) (f := C3 15) d S hK I rfl rfl (by omega) (by decide) dX6_findSums_53 ?_
                refine tI (y := if soB N R d = true then nI (rk N R d) else -1) (by rw [hC3 15 (by decide)]; exact h15 _ (by omega) (sb_tr hsub (ah_le (by omega)))) ?_
                refine lv_iconst (v := (-1)) S.1 S.2.1 dX6_findSums_54 (by decide) ?_
                refine lv_icmp_ne (tgt := 61) S.1 S.2.1 dX6_findSums_55 (by decide) (fun c_55 => ?_) (fun c_55 => ?_)
                · skip
                  have hso1 : soB N R d = true := by cases e9 : soB N R d with | true => rfl | false => rw [e9, if_neg Bool.false_ne_true] at c_55; exact absurd rfl c_55
                  have hlo := (ls_ok (ws := ws) hPt hB hh (r + 1) (by omega) d (by omega) hso1).2
                  have hfs := (ls_sub hPt hB hh (by omega) hw (by omega) hso1).1
                  have hsc := sb_or (sb_tr hsub (ah_le (N := N) (R := R) (Nat.le_succ w))) (fre_ah hfs)
                  have hrow1 : ∀ z, z < 256 → sbN z (ahF N R (w + 1)) → soB N R z = true → C3 (21 + (w + 1)) z = (lsF N R ws hn r z).1 := by have h9 := hs3 r (Nat.le_refl r); unfold P21 at h9; rw [show ws - r = w + 1 by omega] at h9; exact h9
                  have hol := or_lt2 (show d < 2 ^ N 17 by omega) hlo.1
                  refine lv_aload_n S.1 S.2.1 dX6_findSums_61 rfl (lv_at hl 0 rfl) ?_
                  refine rg (ci := 6) (q0 := 4) (v := .ref (q 17)) 3 S hK I cl_X6 rfl wf_X6_21 (by decide) rfl rfl rfl dX6_findSums_62 ?_
                  refine lv_iload_n S.1 S.2.1 dX6_findSums_65 rfl (lv_at hl 2 rfl) ?_
                  refine rs S hK I rfl (show w < 7 by omega) dX6_findSums_66 ?_
                  refine lv_iload_n S.1 S.2.1 dX6_findSums_67 rfl (lv_at hl 3 rfl) ?_
                  refine lv_aload_n S.1 S.2.1 dX6_findSums_68 rfl (lv_at hl 0 rfl) ?_
                  refine rg (ci := 6) (q0 := 4) (v := .ref (q 15)) 1 S hK I cl_X6 rfl wf_X6_9 (by decide) rfl rfl rfl dX6_findSums_69 ?_
                  refine lv_iload_n S.1 S.2.1 dX6_findSums_72 rfl (lv_at hl 3 rfl) ?_
                  refine ri (q0 := 15) (n := 256) (f := C3 15) d S hK I rfl rfl (by omega) (by decide) dX6_findSums_73 ?_
                  refine tI (y := nI (rk N R d)) (by rw [hC3 15 (by decide), h15 _ (by omega) (sb_tr hsub (ah_le (by omega))), hso1]; rfl) ?_
                  refine lv_aload_n S.1 S.2.1 dX6_findSums_74 rfl (lv_at hl 0 rfl) ?_
                  refine rg (ci := 6) (q0 := 4) (v := .ref (q 17)) 3 S hK I cl_X6 rfl wf_X6_21 (by decide) rfl rfl rfl dX6_findSums_75 ?_
                  refine lv_iload_n S.1 S.2.1 dX6_findSums_78 rfl (lv_at hl 2 rfl) ?_
                  refine lv_iconst (v := nI 1) S.1 S.2.1 dX6_findSums_79 (by decide) ?_
                  refine lv_iadd S.1 S.2.1 dX6_findSums_80 ?_
                  refine tI (y := nI (w + 1)) (nI_add _ _) ?_
                  refine rs S hK I rfl (show w + 1 < 7 by omega) dX6_findSums_81 ?_
                  refine lv_iload_n S.1 S.2.1 dX6_findSums_82 rfl (lv_at hl 3 rfl) ?_
                  refine lv_aload_n S.1 S.2.1 dX6_findSums_83 rfl (lv_at hl 0 rfl) ?_
                  refine lv_iload_n S.1 S.2.1 dX6_findSums_84 rfl (lv_at hl 2 rfl) ?_
                  refine lv_iload_n S.1 S.2.1 dX6_findSums_85 rfl (lv_at hl 3 rfl) ?_
                  refine cV (np := 2) (ci := 6) (q0 := 4) (As := [.int (nI w), .int (nI d)]) (rest := [.int (nI d), .ref (q (21 + (w + 1))), .int (nI (rk N R d)), .int (nI d), .ref (q (21 + (w)))]) S (x_bestSet l D cy q K C3 O L f N R w d r ws hn hW hw (by omega) hh (by omega) hso1 hsub (by rw [hC3 18 (by decide)]; exact h18 w (by omega)) (fun z hz hs => by rw [hC3 15 (by decide)]; exact h15 z hz hs) (fun z hz hs => by rw [hC3 16 (by decide)]; exact h16 z hz hs) hrow1) hK hA I wm_X6_66 wi_X6_bestSet ws_X6_X6_bestSet wn_X6 wk_X6_bestSet ⟨rfl, hd_X6_bestSet⟩ rfl ⟨by decide, by decide⟩ rfl rfl hl.1 rfl (Nat.le_of_ble_eq_true rfl) dX6_findSums_86 ⟨by decide, by decide⟩ (fun v_ u_ H locs h_ I => ?_)
                  obtain rfl := h_
                  have I : IX D A s.heap (wX cy q K C3 O L f) H locs := I
                  refine W.eq (g2 := F0 m 89 ls [.int (nI ((lsF N R ws hn (r + 1) d).2)), .int (nI d), .ref (q (21 + (w + 1))), .int (nI (rk N R d)), .int (nI d), .ref (q (21 + (w)))]) rfl ?_
                  refine lv_ior S.1 S.2.1 dX6_findSums_89 ?_
                  refine tI (y := nI (d ||| ((lsF N R ws hn (r + 1) d).2))) (fa_or _ _) ?_
                  refine ri (q0 := 21 + (w + 1)) (n := 256) (f := C3 (21 + (w + 1))) (d ||| ((lsF N R ws hn (r + 1) d).2)) S hK I (wXs (by omega)) rfl (by omega) (by decide) dX6_findSums_90 ?_
                  refine tI (y := (lsF N R ws hn r (d ||| (lsF N R ws hn (r + 1) d).2)).1) (hrow1 _ (by omega) hsc hlo.2.2) ?_
                  refine lv_iadd S.1 S.2.1 dX6_findSums_91 ?_
                  refine si (q0 := 21 + w) (n := 256) (f := C3 (21 + w)) d S hK I (wXs (by omega)) rfl (by omega) (by decide) dX6_findSums_92 (fun H locs I => ?_)
                  have I : IX D A s.heap (wX cy q K (va_up C3 (21 + w) (upd (C3 (21 + w)) d ((nI (rk N R d)) + ((lsF N R ws hn r (d ||| (lsF N R ws hn (r + 1) d).2)).1)))) O L f) H locs := IXset (by omega) I
                  refine lv_iinc (v := nI (d + 1)) (lv' := [(3, .int (nI (d + 1))), (0, .ref (q 4)), (1, .int (nI ws)), (2, .int (nI w))]) S.1 S.2.1 dX6_findSums_93 hl (k := 3) rfl (nI_1 _) (by decide) rfl (fun ls hl => ?_)
                  refine lv_goto (tgt := 28) S.1 S.2.1 dX6_findSums_96 (by decide) ?_
                  exact ih_28 (d + 1) (va_up C3 (21 + w) (upd (C3 (21 + w)) d ((nI (rk N R d)) + ((lsF N R ws hn r (d ||| (lsF N R ws hn (r + 1) d).2)).1)))) (by omega) (by omega) (fun j hj => (va_upN (by omega)).trans (hC3 j hj)) (fun j hj z hz h1 h2 => (congrFun (va_upN (by omega)) z).trans (hs3 j hj z hz h1 h2)) (fs_yes hcur (ls_sub hPt hB hh (by omega) hw (by omega) hso1).2.symm) _ _ _ I (lv_sub hl [1, 2, 3, 0] rfl)
                · skip
                  have hso0 : soB N R d = false := by cases e9 : soB N R d with | false => rfl | true => rw [e9, if_pos rfl] at c_55; exact absurd c_55 (nI_m1 (Nat.lt_of_le_of_lt (rsk_le hPt hB) (by decide)))
                  refine lv_goto (tgt := 93) S.1 S.2.1 dX6_findSums_58 (by decide) ?_
                  refine lv_iinc (v := nI (d + 1)) (lv' := [(3, .int (nI (d + 1))), (0, .ref (q 4)), (1, .int (nI ws)), (2, .int (nI w))]) S.1 S.2.1 dX6_findSums_93 hl (k := 3) rfl (nI_1 _) (by decide) rfl (fun ls hl => ?_)
                  refine lv_goto (tgt := 28) S.1 S.2.1 dX6_findSums_96 (by decide) ?_
                  exact ih_28 (d + 1) C3 (by omega) (by omega) hC3 hs3 (fs_no2 hcur hso0) _ _ _ I (lv_sub hl [1, 2, 3, 0] rfl)
        exact loop_28 _ 0 C2 (Nat.lt_succ_self _) (Nat.zero_le _) hC2 hs2 (fun z hz => absurd hz (Nat.not_lt_zero z)) _ _ _ I (lv_sub hl [1, 2, 3, 0] rfl)
  exact loop_22 _ 0 (va_up C (21 + ws) (va_cpy (C 15) (C (21 + ws)) (nI 0).toNatClampNeg (nI 0).toNatClampNeg (nI 256).toNatClampNeg)) (Nat.lt_succ_self _) (Nat.zero_le _) (fun j hj => va_upN (by omega)) (fs_0 h15 (by omega)) _ _ _ I (lv_sub hl [1, 2, 0] rfl)
set_option maxHeartbeats 4000000 in
set_option maxRecDepth 100000 in
theorem x_leastSum (l : Launch) (D : va_G) (cy : Nat → ClassId) (q : Nat → Nat) (K : Nat → Nat) (C : Nat → Nat → Int32) (O : Nat → Nat → Option Nat) (L : List Nat) (f : Nat → va_E) : MS (α := Unit) l D cy yX6_leastSum cX6_leastSum 1 (Option.some FieldType.int) rm_X6_leastSum [.ref (q 4)] (wX cy q K C O L f) (fun v_ (_ : Unit) => v_ = some (.int (C 21 0))) (fun _ => wX cy q K C O L f) := by
  refine MS.mk2 (by decide) (Nat.le_of_ble_eq_true rfl) [(0, .ref (q 4))] rfl ?_
  intro p e s m args below meth c A ls Q hQ S hr hlk hnm hK hA I hl
  refine lv_aload_n S.1 S.2.1 dX6_leastSum_0 rfl (lv_at hl 0 rfl) ?_
  refine rg (ci := 6) (q0 := 4) (v := .ref (q 17)) 3 S hK I cl_X6 rfl wf_X6_21 (by decide) rfl rfl rfl dX6_leastSum_1 ?_
  refine lv_iconst (v := nI 0) S.1 S.2.1 dX6_leastSum_4 (by decide) ?_
  refine rs S hK I rfl (show 0 < 7 by omega) dX6_leastSum_5 ?_
  refine lv_iconst (v := nI 0) S.1 S.2.1 dX6_leastSum_6 (by decide) ?_
  refine ri (q0 := 21 + 0) (n := 256) (f := C (21 + 0)) 0 S hK I (wXs (by omega)) rfl (by omega) (by decide) dX6_leastSum_7 ?_
  exact ru_i hQ S hr hlk (u := ()) I rfl dX6_leastSum_8
set_option maxHeartbeats 4000000 in
set_option maxRecDepth 100000 in
theorem x_fixWeeks (l : Launch) (D : va_G) (cy : Nat → ClassId) (q : Nat → Nat) (K : Nat → Nat) (C : Nat → Nat → Int32) (O : Nat → Nat → Option Nat) (L : List Nat) (f : Nat → va_E) (N : Nat → Nat) (R : Nat → Nat → Int32) (ws : Nat) (hn : Int32) (hW : WFm N R) (hws : ws ≤ 6) (hh : inB hn (nI 0) (nI 99) = true) (h0 : soB N R 0 = true) (h15 : P15 N R ws C) (h16 : P16 N R ws hn C) (h18 : P18 N R ws C) (h21 : ∀ j, j ≤ ws → P21 N R ws hn j C) (h20 : ∀ k, k < 8 → C 20 k = R 31 k) : MS (α := Nat × (Nat → Int32)) l D cy yX6_fixWeeks cX6_fixWeeks 6 (Option.none : Option FieldType) rm_X6_fixWeeks [.ref (q 4), .int (nI ws)] (wX cy q K C O L f) (fun v_ u_ => v_ = none ∧ (∀ k, k < 8 → u_.2 k = wnF N R ws hn ws k) ∧ (u_.1 < 256 ∧ ∀ k, k < 8 → u_.1.testBit k = decide (¬ wnF N R ws hn ws k = R 31 k))) (fun u_ => wX cy q (va_up (va_up K 9 (K 9 + 1)) 10 u_.1) (va_up C 20 u_.2) O L f) := by
  refine MS.mk2 (by decide) (Nat.le_of_ble_eq_true rfl) [(0, .ref (q 4)), (1, .int (nI ws))] rfl ?_
  intro p e s m args below meth c A ls Q hQ S hr hlk hnm hK hA I hl
  have hW0 := hW
  obtain ⟨hB, hPt, hBo, hH, hM, hQu⟩ := hW0
  have hB0 := hB
  obtain ⟨b0, b6, b17, b24, b30⟩ := hB0
  have hp2 := pow_256 b17
  have hp1 := Nat.two_pow_pos (N 17)
  refine lv_aload_n S.1 S.2.1 dX6_fixWeeks_0 rfl (lv_at hl 0 rfl) ?_
  refine lv_iconst (v := nI 0) S.1 S.2.1 dX6_fixWeeks_1 (by decide) ?_
  refine rp (ci := 6) (q0 := 4) (v := .int (nI 0)) (ty := .int) 8 S hK I cl_X6 rfl wf_X6_70 (by decide) rfl tyX6_ok nmX6 rfl (by decide +kernel) rfl rfl (by exact Nat.le_of_ble_eq_true rfl) rfl dX6_fixWeeks_2 (fun H locs I => ?_)
  have I : IX D A s.heap (wX cy q (va_up K 10 0) C O L f) H locs := I
  refine lv_iconst (v := nI 0) S.1 S.2.1 dX6_fixWeeks_5 (by decide) ?_
  refine lv_istore_n (lv' := [(2, .int (nI 0)), (0, .ref (q 4)), (1, .int (nI ws))]) S.1 S.2.1 dX6_fixWeeks_6 rfl hl (by decide) rfl (fun ls hl => ?_)
  refine lv_iconst (v := nI 0) S.1 S.2.1 dX6_fixWeeks_7 (by decide) ?_
  refine lv_istore_n (lv' := [(3, .int (nI 0)), (2, .int (nI 0)), (0, .ref (q 4)), (1, .int (nI ws))]) S.1 S.2.1 dX6_fixWeeks_8 rfl hl (by decide) rfl (fun ls hl => ?_)
  have loop_9 : ∀ (k_ : Nat) (w : Nat) (dn : Nat) (g : Nat → Int32) (mv : Nat), ws - w < k_ → w ≤ ws → dn = dnF N R ws hn w → (∀ k, k < 8 → g k = if dn.testBit k = true then wnF N R ws hn w k else R 31 k) → (∀ k, mv.testBit k = (dn.testBit k && decide (¬ wnF N R ws hn w k = R 31 k))) → ∀ (H : Heap) (locs : List Loc) (ls : Array Slot), IX D A s.heap (wX cy q (va_up K 10 mv) (va_up C 20 g) O L f) H locs → lv_has ls 6 [(0, .ref (q 4)), (1, .int (nI ws)), (2, .int (nI dn)), (3, .int (nI w))] → W p l e rm_X6_fixWeeks s m args below meth c H locs 0 0 Q (F0 m 9 ls []) := by
    intro k_
    induction k_ with
    | zero => intro w dn g mv hm_; exact absurd hm_ (Nat.not_lt_zero _)
    | succ k_ ih_9 =>
      intro w dn g mv hm_ hw hdn hg hmv H locs ls I hl
      refine lv_iload_n S.1 S.2.1 dX6_fixWeeks_9 rfl (lv_at hl 3 rfl) ?_
      refine lv_iload_n S.1 S.2.1 dX6_fixWeeks_10 rfl (lv_at hl 1 rfl) ?_
      refine lv_icmp_ge (tgt := 66) S.1 S.2.1 dX6_fixWeeks_11 (by decide) (fun c_11 => ?_) (fun c_11 => ?_)
      · skip
        have c_11o := c_11
        have c_11 := nI_cgeT (by omega) (by omega) c_11
        have hdn9 : dn = dnF N R ws hn ws := by rw [hdn, show w = ws by omega]
        have hdk := dn_ok (ws := ws) hPt hB hh (by omega) h0 ws
        rw [← hdn9] at hdk
        refine lv_iconst (v := nI 0) S.1 S.2.1 dX6_fixWeeks_66 (by decide) ?_
        refine lv_istore_n (lv' := [(3, .int (nI 0)), (0, .ref (q 4)), (1, .int (nI ws)), (2, .int (nI dn))]) S.1 S.2.1 dX6_fixWeeks_67 rfl hl (by decide) rfl (fun ls hl => ?_)
        have loop_68 : ∀ (k_ : Nat) (k3 : Nat) (g3 : Nat → Int32) (mv3 : Nat), 8 - k3 < k_ → k3 ≤ 8 → (∀ k, k < 8 → g3 k = if dn.testBit k = true then wnF N R ws hn ws k else if k < k3 then -4 else R 31 k) → (∀ k, mv3.testBit k = ((dn.testBit k && decide (¬ wnF N R ws hn ws k = R 31 k)) || (decide (k < k3) && (!(dn.testBit k) && decide (¬ R 31 k = -4))))) → ∀ (H : Heap) (locs : List Loc) (ls : Array Slot), IX D A s.heap (wX cy q (va_up K 10 mv3) (va_up C 20 g3) O L f) H locs → lv_has ls 6 [(0, .ref (q 4)), (1, .int (nI ws)), (2, .int (nI dn)), (3, .int (nI k3))] → W p l e rm_X6_fixWeeks s m args below meth c H locs 0 0 Q (F0 m 68 ls []) := by
          intro k_
          induction k_ with
          | zero => intro k3 g3 mv3 hm_; exact absurd hm_ (Nat.not_lt_zero _)
          | succ k_ ih_68 =>
            intro k3 g3 mv3 hm_ hk3 hg3 hmv3 H locs ls I hl
            refine lv_iload_n S.1 S.2.1 dX6_fixWeeks_68 rfl (lv_at hl 3 rfl) ?_
            refine lv_bipush (v := nI 8) S.1 S.2.1 dX6_fixWeeks_69 (by decide) ?_
            refine lv_icmp_ge (tgt := 95) S.1 S.2.1 dX6_fixWeeks_71 (by decide) (fun c_71 => ?_) (fun c_71 => ?_)
            · skip
              have c_71o := c_71
              have c_71 := nI_cgeT (by omega) (by omega) c_71
              refine lv_aload_n S.1 S.2.1 dX6_fixWeeks_95 rfl (lv_at hl 0 rfl) ?_
              refine lv_dup S.1 S.2.1 dX6_fixWeeks_96 rfl ?_
              refine rg (ci := 6) (q0 := 4) (v := .int (nI (K 9))) 7 S hK I cl_X6 rfl wf_X6_82 (by decide) rfl rfl rfl dX6_fixWeeks_97 ?_
              refine lv_iconst (v := nI 1) S.1 S.2.1 dX6_fixWeeks_100 (by decide) ?_
              refine lv_iadd S.1 S.2.1 dX6_fixWeeks_101 ?_
              refine tI (y := nI ((K 9) + 1)) (nI_add _ _) ?_
              refine rp (ci := 6) (q0 := 4) (v := .int (nI ((K 9) + 1))) (ty := .int) 7 S hK I cl_X6 rfl wf_X6_82 (by decide) rfl tyX6_ok nmX6 rfl (by decide +kernel) rfl rfl (by exact Nat.le_of_ble_eq_true rfl) rfl dX6_fixWeeks_102 (fun H locs I => ?_)
              have I : IX D A s.heap (wX cy q (va_up (va_up K 9 ((K 9) + 1)) 10 mv3) (va_up C 20 g3) O L f) H locs := I
              exact ru_v hQ S hr hlk (u := (mv3, g3)) I (⟨rfl, fw_end hdn9 (show k3 = 8 by omega) hg3, fw_endm hdn9 (show k3 = 8 by omega) hdk.1 b17 hmv3⟩) dX6_fixWeeks_105
            · skip
              have c_71o := c_71
              have c_71 := nI_cgeF (by omega) (by omega) c_71
              refine lv_iload_n S.1 S.2.1 dX6_fixWeeks_74 rfl (lv_at hl 2 rfl) ?_
              refine lv_iload_n S.1 S.2.1 dX6_fixWeeks_75 rfl (lv_at hl 3 rfl) ?_
              refine cN (np := 2) (As := [.int (nI dn), .int (nI k3)]) (rest := []) S (x_isIn l D cy (wX cy q (va_up K 10 mv3) (va_up C 20 g3) O L f) dn k3 (by omega)) hK hA I (by decide +kernel) wt_X11_isIn wn_X11 wk_X11_isIn hd_X11_isIn rfl ⟨by decide, by decide⟩ hl.1 rfl (Nat.le_of_ble_eq_true rfl) dX6_fixWeeks_76 ⟨by decide, by decide⟩ (fun v_ u_ H locs h_ I => ?_)
              obtain rfl := h_
              have I : IX D A s.heap (wX cy q (va_up K 10 mv3) (va_up C 20 g3) O L f) H locs := I
              refine W.eq (g2 := F0 m 79 ls [.int (bI (dn.testBit k3))]) rfl ?_
              refine lv_if_ne (tgt := 89) S.1 S.2.1 dX6_fixWeeks_79 (by decide) (fun c_79 => ?_) (fun c_79 => ?_)
              · skip
                have c_79 := bI_t c_79
                refine lv_iinc (v := nI (k3 + 1)) (lv' := [(3, .int (nI (k3 + 1))), (0, .ref (q 4)), (1, .int (nI ws)), (2, .int (nI dn))]) S.1 S.2.1 dX6_fixWeeks_89 hl (k := 3) rfl (nI_1 _) (by decide) rfl (fun ls hl => ?_)
                refine lv_goto (tgt := 68) S.1 S.2.1 dX6_fixWeeks_92 (by decide) ?_
                exact ih_68 (k3 + 1) g3 mv3 (by omega) (by omega) (fw_fg0 hg3 c_79) (fw_fm0 hmv3 c_79) _ _ _ I (lv_sub hl [1, 2, 3, 0] rfl)
              · skip
                have c_79 := bI_f c_79
                refine lv_aload_n S.1 S.2.1 dX6_fixWeeks_82 rfl (lv_at hl 0 rfl) ?_
                refine lv_iload_n S.1 S.2.1 dX6_fixWeeks_83 rfl (lv_at hl 3 rfl) ?_
                refine lv_bipush (v := (-4)) S.1 S.2.1 dX6_fixWeeks_84 (by decide) ?_
                refine cV (np := 2) (ci := 6) (q0 := 4) (As := [.int (nI k3), .int (-4)]) (rest := []) S (x_putInWeek l D cy q (va_up K 10 mv3) (va_up C 20 g3) O L f k3 (-4) (by omega)) hK hA I wm_X6_78 wi_X6_putInWeek ws_X6_X6_putInWeek wn_X6 wk_X6_putInWeek ⟨rfl, hd_X6_putInWeek⟩ rfl ⟨by decide, by decide⟩ rfl rfl hl.1 rfl (Nat.le_of_ble_eq_true rfl) dX6_fixWeeks_86 ⟨by decide, by decide⟩ (fun v_ u_ H locs h_ I => ?_)
                obtain ⟨rfl, e20_86, e10_86⟩ := h_
                obtain ⟨m10_86, g20_86⟩ := u_
                obtain rfl : g20_86 = upd g3 k3 (-4) := e20_86
                have e10_86 : m10_86 = if g3 k3 = (-4) then mv3 else mv3 ||| 2 ^ k3 := e10_86
                have I : IX D A s.heap (wX cy q (va_up K 10 m10_86) (va_up C 20 (upd g3 k3 (-4))) O L f) H locs := I
                refine W.eq (g2 := F0 m 89 ls []) rfl ?_
                refine lv_iinc (v := nI (k3 + 1)) (lv' := [(3, .int (nI (k3 + 1))), (0, .ref (q 4)), (1, .int (nI ws)), (2, .int (nI dn))]) S.1 S.2.1 dX6_fixWeeks_89 hl (k := 3) rfl (nI_1 _) (by decide) rfl (fun ls hl => ?_)
                refine lv_goto (tgt := 68) S.1 S.2.1 dX6_fixWeeks_92 (by decide) ?_
                exact ih_68 (k3 + 1) (upd g3 k3 (-4)) m10_86 (by omega) (by omega) (fw_fg1 hg3 c_79) (fw_fm1 hg3 hmv3 (by omega) c_79 e10_86) _ _ _ I (lv_sub hl [1, 2, 3, 0] rfl)
        exact loop_68 _ 0 g mv (Nat.lt_succ_self _) (Nat.zero_le _) (fun k hk => by rw [if_neg (Nat.not_lt_zero k), hg k hk, show w = ws by omega]) (fun k => by rw [decide_eq_false (Nat.not_lt_zero k), Bool.false_and, Bool.or_false, hmv k, show w = ws by omega]) _ _ _ I (lv_sub hl [1, 2, 3, 0] rfl)
      · skip
        have c_11o := c_11
        have c_11 := nI_cgeF (by omega) (by omega) c_11
        obtain ⟨r, hrw⟩ : ∃ r, ws = w + (r + 1) := ⟨ws - w - 1, by omega⟩
        have hdk := dn_ok (ws := ws) hPt hB hh (by omega) h0 w
        rw [← hdn] at hdk
        have hda := dn_ah (ws := ws) hPt hB hh (by omega) h0 w (by omega)
        rw [← hdn] at hda
        have hlo := (ls_ok (ws := ws) hPt hB hh (r + 1) (by omega) dn hdk.1 hdk.2).2
        have hcl := hlo.1
        have hcd := hlo.2.1
        refine lv_aload_n S.1 S.2.1 dX6_fixWeeks_14 rfl (lv_at hl 0 rfl) ?_
        refine lv_iload_n S.1 S.2.1 dX6_fixWeeks_15 rfl (lv_at hl 3 rfl) ?_
        refine lv_iload_n S.1 S.2.1 dX6_fixWeeks_16 rfl (lv_at hl 2 rfl) ?_
        refine cV (np := 2) (ci := 6) (q0 := 4) (As := [.int (nI w), .int (nI dn)]) (rest := []) S (x_bestSet l D cy q (va_up K 10 mv) (va_up C 20 g) O L f N R w dn r ws hn hW hrw (by omega) hh hdk.1 hdk.2 hda (h18 w (by omega)) h15 h16 (by have h9 := h21 r (by omega); unfold P21 at h9; rw [show ws - r = w + 1 by omega] at h9; intro z hz h1 h2; exact (congrFun (va_upN (by omega)) z).trans (h9 z hz h1 h2))) hK hA I wm_X6_66 wi_X6_bestSet ws_X6_X6_bestSet wn_X6 wk_X6_bestSet ⟨rfl, hd_X6_bestSet⟩ rfl ⟨by decide, by decide⟩ rfl rfl hl.1 rfl (Nat.le_of_ble_eq_true rfl) dX6_fixWeeks_17 ⟨by decide, by decide⟩ (fun v_ u_ H locs h_ I => ?_)
        obtain rfl := h_
        have I : IX D A s.heap (wX cy q (va_up K 10 mv) (va_up C 20 g) O L f) H locs := I
        refine W.eq (g2 := F0 m 20 ls [.int (nI ((lsF N R ws hn (r + 1) dn).2))]) rfl ?_
        refine lv_istore (lv' := [(4, .int (nI ((lsF N R ws hn (r + 1) dn).2))), (0, .ref (q 4)), (1, .int (nI ws)), (2, .int (nI dn)), (3, .int (nI w))]) S.1 S.2.1 dX6_fixWeeks_20 hl (by decide) rfl (fun ls hl => ?_)
        refine lv_iload_n S.1 S.2.1 dX6_fixWeeks_22 rfl (lv_at hl 3 rfl) ?_
        refine lv_iload S.1 S.2.1 dX6_fixWeeks_23 (lv_at hl 0 rfl) ?_
        refine lv_ior S.1 S.2.1 dX6_fixWeeks_25 ?_
        refine tI (y := nI (dn ||| ((lsF N R ws hn (r + 1) dn).2))) (fa_or _ _) ?_
        refine lv_istore_n (lv' := [(2, .int (nI (dn ||| ((lsF N R ws hn (r + 1) dn).2)))), (4, .int (nI ((lsF N R ws hn (r + 1) dn).2))), (0, .ref (q 4)), (1, .int (nI ws)), (3, .int (nI w))]) S.1 S.2.1 dX6_fixWeeks_26 rfl hl (by decide) rfl (fun ls hl => ?_)
        refine lv_iconst (v := nI 0) S.1 S.2.1 dX6_fixWeeks_27 (by decide) ?_
        refine lv_istore (lv' := [(5, .int (nI 0)), (2, .int (nI (dn ||| ((lsF N R ws hn (r + 1) dn).2)))), (4, .int (nI ((lsF N R ws hn (r + 1) dn).2))), (0, .ref (q 4)), (1, .int (nI ws)), (3, .int (nI w))]) S.1 S.2.1 dX6_fixWeeks_28 hl (by decide) rfl (fun ls hl => ?_)
        have loop_30 : ∀ (k_ : Nat) (k2 : Nat) (g2 : Nat → Int32) (mv2 : Nat), 8 - k2 < k_ → k2 ≤ 8 → (∀ k, k < 8 → g2 k = if k < k2 ∧ (lsF N R ws hn (r + 1) dn).2.testBit k = true then nI w else g k) → (∀ k, mv2.testBit k = (mv.testBit k || (decide (k < k2) && ((lsF N R ws hn (r + 1) dn).2.testBit k && decide (¬ g k = nI w))))) → ∀ (H : Heap) (locs : List Loc) (ls : Array Slot), IX D A s.heap (wX cy q (va_up K 10 mv2) (va_up C 20 g2) O L f) H locs → lv_has ls 6 [(0, .ref (q 4)), (1, .int (nI ws)), (2, .int (nI (dn ||| (lsF N R ws hn (r + 1) dn).2))), (3, .int (nI w)), (4, .int (nI ((lsF N R ws hn (r + 1) dn).2))), (5, .int (nI k2))] → W p l e rm_X6_fixWeeks s m args below meth c H locs 0 0 Q (F0 m 30 ls []) := by
          intro k_
          induction k_ with
          | zero => intro k2 g2 mv2 hm_; exact absurd hm_ (Nat.not_lt_zero _)
          | succ k_ ih_30 =>
            intro k2 g2 mv2 hm_ hk2 hg2 hmv2 H locs ls I hl
            refine lv_iload S.1 S.2.1 dX6_fixWeeks_30 (lv_at hl 5 rfl) ?_
            refine lv_bipush (v := nI 8) S.1 S.2.1 dX6_fixWeeks_32 (by decide) ?_
            refine lv_icmp_ge (tgt := 60) S.1 S.2.1 dX6_fixWeeks_34 (by decide) (fun c_34 => ?_) (fun c_34 => ?_)
            · skip
              have c_34o := c_34
              have c_34 := nI_cgeT (by omega) (by omega) c_34
              refine lv_iinc (v := nI (w + 1)) (lv' := [(3, .int (nI (w + 1))), (0, .ref (q 4)), (1, .int (nI ws)), (2, .int (nI (dn ||| (lsF N R ws hn (r + 1) dn).2))), (4, .int (nI ((lsF N R ws hn (r + 1) dn).2))), (5, .int (nI k2))]) S.1 S.2.1 dX6_fixWeeks_60 hl (k := 3) rfl (nI_1 _) (by decide) rfl (fun ls hl => ?_)
              refine lv_goto (tgt := 9) S.1 S.2.1 dX6_fixWeeks_63 (by decide) ?_
              exact ih_9 (w + 1) (dn ||| (lsF N R ws hn (r + 1) dn).2) g2 mv2 (by omega) (by omega) (by rw [dnF, ← hdn, show r + 1 = ws - w by omega]) (fw_g (by omega) hrw hdn hcd hg hg2) (fw_m (by omega) hrw hdn hcl hcd b17 hg hmv hmv2) _ _ _ I (lv_sub hl [1, 2, 3, 0] rfl)
            · skip
              have c_34o := c_34
              have c_34 := nI_cgeF (by omega) (by omega) c_34
              refine lv_iload S.1 S.2.1 dX6_fixWeeks_37 (lv_at hl 4 rfl) ?_
              refine lv_iload S.1 S.2.1 dX6_fixWeeks_39 (lv_at hl 5 rfl) ?_
              refine cN (np := 2) (As := [.int (nI ((lsF N R ws hn (r + 1) dn).2)), .int (nI k2)]) (rest := []) S (x_isIn l D cy (wX cy q (va_up K 10 mv2) (va_up C 20 g2) O L f) ((lsF N R ws hn (r + 1) dn).2) k2 (by omega)) hK hA I (by decide +kernel) wt_X11_isIn wn_X11 wk_X11_isIn hd_X11_isIn rfl ⟨by decide, by decide⟩ hl.1 rfl (Nat.le_of_ble_eq_true rfl) dX6_fixWeeks_41 ⟨by decide, by decide⟩ (fun v_ u_ H locs h_ I => ?_)
              obtain rfl := h_
              have I : IX D A s.heap (wX cy q (va_up K 10 mv2) (va_up C 20 g2) O L f) H locs := I
              refine W.eq (g2 := F0 m 44 ls [.int (bI (((lsF N R ws hn (r + 1) dn).2).testBit k2))]) rfl ?_
              refine lv_if_eq (tgt := 54) S.1 S.2.1 dX6_fixWeeks_44 (by decide) (fun c_44 => ?_) (fun c_44 => ?_)
              · skip
                have c_44 := bI_f c_44
                refine lv_iinc (v := nI (k2 + 1)) (lv' := [(5, .int (nI (k2 + 1))), (0, .ref (q 4)), (1, .int (nI ws)), (2, .int (nI (dn ||| (lsF N R ws hn (r + 1) dn).2))), (3, .int (nI w)), (4, .int (nI ((lsF N R ws hn (r + 1) dn).2)))]) S.1 S.2.1 dX6_fixWeeks_54 hl (k := 5) rfl (nI_1 _) (by decide) rfl (fun ls hl => ?_)
                refine lv_goto (tgt := 30) S.1 S.2.1 dX6_fixWeeks_57 (by decide) ?_
                exact ih_30 (k2 + 1) g2 mv2 (by omega) (by omega) (fw_ig0 hg2 c_44) (fw_im0 hmv2 c_44) _ _ _ I (lv_sub hl [1, 2, 3, 4, 5, 0] rfl)
              · skip
                have c_44 := bI_t c_44
                refine lv_aload_n S.1 S.2.1 dX6_fixWeeks_47 rfl (lv_at hl 0 rfl) ?_
                refine lv_iload S.1 S.2.1 dX6_fixWeeks_48 (lv_at hl 5 rfl) ?_
                refine lv_iload_n S.1 S.2.1 dX6_fixWeeks_50 rfl (lv_at hl 3 rfl) ?_
                refine cV (np := 2) (ci := 6) (q0 := 4) (As := [.int (nI k2), .int (nI w)]) (rest := []) S (x_putInWeek l D cy q (va_up K 10 mv2) (va_up C 20 g2) O L f k2 (nI w) (by omega)) hK hA I wm_X6_78 wi_X6_putInWeek ws_X6_X6_putInWeek wn_X6 wk_X6_putInWeek ⟨rfl, hd_X6_putInWeek⟩ rfl ⟨by decide, by decide⟩ rfl rfl hl.1 rfl (Nat.le_of_ble_eq_true rfl) dX6_fixWeeks_51 ⟨by decide, by decide⟩ (fun v_ u_ H locs h_ I => ?_)
                obtain ⟨rfl, e20_51, e10_51⟩ := h_
                obtain ⟨m10_51, g20_51⟩ := u_
                obtain rfl : g20_51 = upd g2 k2 (nI w) := e20_51
                have e10_51 : m10_51 = if g2 k2 = (nI w) then mv2 else mv2 ||| 2 ^ k2 := e10_51
                have I : IX D A s.heap (wX cy q (va_up K 10 m10_51) (va_up C 20 (upd g2 k2 (nI w))) O L f) H locs := I
                refine W.eq (g2 := F0 m 54 ls []) rfl ?_
                refine lv_iinc (v := nI (k2 + 1)) (lv' := [(5, .int (nI (k2 + 1))), (0, .ref (q 4)), (1, .int (nI ws)), (2, .int (nI (dn ||| (lsF N R ws hn (r + 1) dn).2))), (3, .int (nI w)), (4, .int (nI ((lsF N R ws hn (r + 1) dn).2)))]) S.1 S.2.1 dX6_fixWeeks_54 hl (k := 5) rfl (nI_1 _) (by decide) rfl (fun ls hl => ?_)
                refine lv_goto (tgt := 30) S.1 S.2.1 dX6_fixWeeks_57 (by decide) ?_
                exact ih_30 (k2 + 1) (upd g2 k2 (nI w)) m10_51 (by omega) (by omega) (fw_ig1 hg2 c_44) (fw_im1 hg2 hmv2 (by omega) c_44 e10_51) _ _ _ I (lv_sub hl [1, 2, 3, 4, 5, 0] rfl)
        exact loop_30 _ 0 g mv (Nat.lt_succ_self _) (Nat.zero_le _) (fun k hk => by rw [if_neg (fun q => Nat.not_lt_zero k q.1)]) (fun k => by rw [decide_eq_false (Nat.not_lt_zero k), Bool.false_and, Bool.or_false]) _ _ _ I (lv_sub hl [3, 4, 1, 5, 2, 0] rfl)
  exact loop_9 _ 0 0 (C 20) 0 (Nat.lt_succ_self _) (Nat.zero_le _) rfl (fun k hk => by rw [Nat.zero_testBit, if_neg Bool.false_ne_true]; exact h20 k hk) (fun k => by rw [Nat.zero_testBit, Bool.false_and]) _ _ _ I (lv_sub hl [2, 3, 1, 0] rfl)
