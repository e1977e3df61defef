def P15 (N : Nat → Nat) (R : Nat → Nat → Int32) (ws : Nat) (C : Nat → Nat → Int32) : Prop := ∀ d, d < 256 → sbN d (ahF N R ws) → C 15 d = (if soB N R d = true then nI (rk N R d) else -1)
def P16 (N : Nat → Nat) (R : Nat → Nat → Int32) (ws : Nat) (hn : Int32) (C : Nat → Nat → Int32) : Prop := ∀ d, d < 256 → sbN d (ahF N R ws) → C 16 d = bI (decide (nI (haF R d (N 17)) ≤ hn))
def P18 (N : Nat → Nat) (R : Nat → Nat → Int32) (ws : Nat) (C : Nat → Nat → Int32) : Prop := ∀ w, w < ws → C 18 w = nI (alF N R w)
def P19 (N : Nat → Nat) (R : Nat → Nat → Int32) (ws : Nat) (C : Nat → Nat → Int32) : Prop := ∀ w, w ≤ ws → C 19 w = nI (ahF N R w)
def P21 (N : Nat → Nat) (R : Nat → Nat → Int32) (ws : Nat) (hn : Int32) (j : Nat) (C : Nat → Nat → Int32) : Prop := ∀ d, d < 256 → sbN d (ahF N R (ws - j)) → soB N R d = true → C (21 + (ws - j)) d = (lsF N R ws hn j d).1
section XPL
variable {p : Program} {l : Launch} {e : Env} {R : Room} {s : State} {m : MethodId} {args : Array Value} {below : List Frame} {meth : Method} {c : Code} {H : Heap} {locs : List Loc} {cells slots mc ms : Nat} {Q : State → Prop}
variable {cc : ByteArray} {nL pc : Nat} {ls : Array Slot} {rest st : List Value} {D : va_G} {cy : Nat → ClassId} {A : Nat → Prop} {Ts : List Cond} {own : String} {ws : va_W}
variable {q : Nat → Nat} {K : Nat → Nat} {C : Nat → Nat → Int32} {O : Nat → Nat → Option Nat} {L : List Nat} {f : Nat → va_E}
theorem w7 {w : Nat} (h : w < 7) : w = 0 ∨ w = 1 ∨ w = 2 ∨ w = 3 ∨ w = 4 ∨ w = 5 ∨ w = 6 := by omega
theorem wXs {w : Nat} (h : w < 7) : (wX cy q K C O L f)[21 + w]? = some (q (21 + w), .inl (cy 0, 256, .inl (C (21 + w)))) := by
  rcases w7 h with rfl | rfl | rfl | rfl | rfl | rfl | rfl <;> rfl
theorem wXset {w : Nat} {r : Nat → Int32} (h : w < 7) : (wX cy q K C O L f).set (21 + w) (q (21 + w), .inl (cy 0, 256, .inl r)) = wX cy q K (va_up C (21 + w) r) O L f := by
  rcases w7 h with rfl | rfl | rfl | rfl | rfl | rfl | rfl <;> rfl
/-- a row of the sums -/
theorem rs {w : Nat} {i : Int32} (S : CallFix p m c cc nL s args Ts own) (hK : KX D cy s) (I : IX D A s.heap (wX cy q K C O L f) H locs) (hi : i = nI w) (hw : w < 7) (hdg : decode cc pc = .ok (.aaload, 1))
    (kk : W p l e R s m args below meth c H locs cells slots Q (F0 m (pc + 1) ls (.ref (q (21 + w)) :: rest))) : W p l e R s m args below meth c H locs cells slots Q (F0 m pc ls (.int i :: .ref (q 17) :: rest)) := by
  subst hi
  have hcl : (nI w).toNatClampNeg = w := nI_clamp (by omega)
  have hlt : (nI w).toNatClampNeg < 7 := by rw [hcl]; exact hw
  have hin : vp_in (nI w) 7 := vp_in_nI hw (by decide)
  have ha : (wX cy q K C O L f)[17]? = some (q 17, .inl (cy 5, 7, .inr (.inr (.inr (.inr (fun i => if i < 7 then some (q (21 + i)) else none)))))) := rfl
  have hv : va_rf ((fun i => if i < 7 then some (q (21 + i)) else none) (nI w).toNatClampNeg) = .ref (q (21 + w)) := by
    rw [hcl]
    show va_rf (if w < 7 then some (q (21 + w)) else none) = _
    rw [if_pos hw]
    rfl
  refine W.aald (v := va_rf ((fun i => if i < 7 then some (q (21 + i)) else none) (nI w).toNatClampNeg)) (ty := .array .int) S.1 S.2.1 (I.1 17 _ ha) ((hK.1.2 5 _ rfl).1 7 (fun j => va_rf ((fun i => if i < 7 then some (q (21 + i)) else none) j))) rfl (fun q => by cases q) (by show ¬ (nI w < 0 ∨ (arrV _ _ _).slots.size ≤ _); rw [arrV_size]; exact hin) (by show (arrV _ _ _).slots[_]? = _; rw [arrV_read _ _ hlt]) rfl rfl hdg ?_
  rw [hv]
  exact kk
theorem IXset {w : Nat} {r : Nat → Int32} (h : w < 7) (I : IX D A s.heap ((wX cy q K C O L f).set (21 + w) (q (21 + w), .inl (cy 0, 256, .inl r))) H locs) : IX D A s.heap (wX cy q K (va_up C (21 + w) r) O L f) H locs := by
  rw [wXset h] at I
  exact I
end XPL
theorem cpy256 {f g : Nat → Int32} {p : Nat} (h : p < 256) : va_cpy f g (nI 0).toNatClampNeg (nI 0).toNatClampNeg (nI 256).toNatClampNeg p = f p := by
  have e0 : (nI 0).toNatClampNeg = 0 := rfl
  have e8 : (nI 256).toNatClampNeg = 256 := rfl
  rw [e0, e8, pk_cpy_in (Nat.zero_le p) (by omega), Nat.zero_add, Nat.sub_zero]
theorem va_upN {α : Type} {f : Nat → α} {k j : Nat} {v : α} (h : j ≠ k) : va_up f k v j = f j := if_neg h
theorem va_upS {α : Type} {f : Nat → α} {k : Nat} {v : α} : va_up f k v k = v := if_pos rfl
/-- the best set, as the class finds it -/
theorem bst_next {N : Nat → Nat} {R : Nat → Nat → Int32} {ws r w : Nat} {hd : Int32} {d se : Nat} (hb : 2 ^ N 17 ≤ 256) (hse : sbN se (freF N R w d)) (h0 : ¬ nxs se (freF N R w d) = 0) : (bsF N R w hd (fun z => (lsF N R ws hd r z).1) d (nxs se (freF N R w d))).2 = (bsF N R w hd (fun z => (lsF N R ws hd r z).1) d (se + 1)).2 ∧ se < nxs se (freF N R w d) ∧ nxs se (freF N R w d) < 2 ^ N 17 ∧ sbN (nxs se (freF N R w d)) (freF N R w d) := by
  have hfl : freF N R w d < 2 ^ N 17 := fre_lt
  rcases nxs_prop (by omega) hse with h | ⟨h1, h2, h3, h4, h5⟩
  · exact absurd h.1 h0
  · have h6 := sb_le h4
    refine ⟨?_, h2, by omega, h4⟩
    have h7 := bs_skip (N := N) (R := R) (w := w) (hd := hd) (rest := fun z => (lsF N R ws hd r z).1) (d := d) (a := se + 1) (nxs se (freF N R w d) - (se + 1)) (by omega) (fun n h8 h9 => h5 n (by omega) (by omega))
    rw [show se + 1 + (nxs se (freF N R w d) - (se + 1)) = nxs se (freF N R w d) by omega] at h7
    rw [h7]
theorem bst_end {N : Nat → Nat} {R : Nat → Nat → Int32} {ws r w : Nat} {hd : Int32} {d se : Nat} (hb : 2 ^ N 17 ≤ 256) (hse : sbN se (freF N R w d)) (h0 : nxs se (freF N R w d) = 0) (hw : ws = w + (r + 1)) : (lsF N R ws hd (r + 1) d).2 = (bsF N R w hd (fun z => (lsF N R ws hd r z).1) d (se + 1)).2 := by
  have hfl : freF N R w d < 2 ^ N 17 := fre_lt
  have hsl := sb_le hse
  rcases nxs_prop (by omega) hse with h | h
  · have e : lsF N R ws hd (r + 1) d = bsF N R w hd (fun z => (lsF N R ws hd r z).1) d (2 ^ N 17) := by
      rw [lsF, show ws - (r + 1) = w by omega]
    have h7 := bs_skip (N := N) (R := R) (w := w) (hd := hd) (rest := fun z => (lsF N R ws hd r z).1) (d := d) (a := se + 1) (2 ^ N 17 - (se + 1)) (by omega) (fun n h8 h9 => h.2 n (by omega) (by omega))
    rw [show se + 1 + (2 ^ N 17 - (se + 1)) = 2 ^ N 17 by omega] at h7
    rw [e, h7]
  · exact absurd h0 h.1
/-- what is known of the best set of those below se -/
theorem bst_fact {N : Nat → Nat} {R : Nat → Nat → Int32} {ws r w : Nat} {hd : Int32} {d se : Nat} (hP : WPt N R) (hB : Bd N) (hh : inB hd (nI 0) (nI 99) = true) (hr : r ≤ 100) (hd2 : d < 2 ^ N 17) (hs : soB N R d = true) (hse : se < 2 ^ N 17) : (bsF N R w hd (fun z => (lsF N R ws hd r z).1) d se).2 < 2 ^ N 17 ∧ soB N R (d ||| (bsF N R w hd (fun z => (lsF N R ws hd r z).1) d se).2) = true ∧ sbN (bsF N R w hd (fun z => (lsF N R ws hd r z).1) d se).2 (freF N R w d) := by
  cases Nat.eq_zero_or_pos se with
  | inl e =>
    subst e
    exact ⟨Nat.two_pow_pos _, by show soB N R (d ||| 0) = true; rw [Nat.or_zero]; exact hs, sb_0 _⟩
  | inr e =>
    have h0 := ls_ok (ws := ws) hP hB hh r (by omega) d hd2 hs
    obtain ⟨b1, b2, b3, b4, b5, b6⟩ := bs_1 (rest := fun z => (lsF N R ws hd r z).1) (w := w) hs (may0 hh) (nneg h0.1.1) se e
    refine ⟨by omega, b3, (fre_iff (by omega)).mpr ⟨b2, ?_⟩⟩
    unfold mayB at b4
    rw [Bool.and_eq_true] at b4
    exact b4.1
theorem fre_ah {N : Nat → Nat} {R : Nat → Nat → Int32} {w d n : Nat} (h : sbN n (freF N R w d)) : sbN n (ahF N R (w + 1)) := sb_tr h (sb_tr (clr_le _ _) (sb_r _ _))
/-- the set chosen lies in the weeks so far -/
theorem ls_sub {N : Nat → Nat} {R : Nat → Nat → Int32} {ws r w : Nat} {hd : Int32} {d : Nat} (hP : WPt N R) (hB : Bd N) (hh : inB hd (nI 0) (nI 99) = true) (hr : r ≤ 100) (hw : ws = w + (r + 1)) (hd2 : d < 2 ^ N 17) (hs : soB N R d = true) : sbN (lsF N R ws hd (r + 1) d).2 (freF N R w d) ∧ (lsF N R ws hd (r + 1) d).1 = nI (rk N R d) + (lsF N R ws hd r (d ||| (lsF N R ws hd (r + 1) d).2)).1 := by
  have e : lsF N R ws hd (r + 1) d = bsF N R w hd (fun z => (lsF N R ws hd r z).1) d (2 ^ N 17) := by
    rw [lsF, show ws - (r + 1) = w by omega]
  have h0 := ls_ok (ws := ws) hP hB hh r (by omega) d hd2 hs
  obtain ⟨b1, b2, b3, b4, b5, b6⟩ := bs_1 (rest := fun z => (lsF N R ws hd r z).1) (w := w) hs (may0 hh) (nneg h0.1.1) (2 ^ N 17) (Nat.two_pow_pos _)
  rw [e]
  refine ⟨(fre_iff b1).mpr ⟨b2, ?_⟩, by rw [b6, Int32.add_comm]⟩
  unfold mayB at b4
  rw [Bool.and_eq_true] at b4
  exact b4.1
theorem dn_ah {N : Nat → Nat} {R : Nat → Nat → Int32} {ws : Nat} {hd : Int32} (hP : WPt N R) (hB : Bd N) (hh : inB hd (nI 0) (nI 99) = true) (hws : ws ≤ 100) (h0 : soB N R 0 = true) : ∀ w, w ≤ ws → sbN (dnF N R ws hd w) (ahF N R w) := by
  intro w
  induction w with
  | zero => intro _; exact sb_0 _
  | succ w ih =>
    intro hw
    have hd := dn_ok (ws := ws) hP hB hh (by omega) h0 w
    have h1 := (ls_sub (r := ws - w - 1) hP hB hh (by omega) (show ws = w + (ws - w - 1 + 1) by omega) hd.1 hd.2).1
    rw [show ws - w - 1 + 1 = ws - w by omega] at h1
    exact sb_or (sb_tr (ih (by omega)) (sb_l _ _)) (fre_ah h1)
theorem fa_18 {N : Nat → Nat} {R : Nat → Nat → Int32} {w k2 : Nat} {t18 : Nat → Int32} (h : ∀ j, j < w → t18 j = nI (alF N R j)) (h2 : t18 w = nI (msk (fun k => inB (nI w) (R 22 k) (R 23 k)) k2)) (hk : k2 = N 17) : ∀ j, j < w + 1 → t18 j = nI (alF N R j) := by
  intro j hj
  by_cases e : j = w
  · rw [e, h2, hk]; rfl
  · exact h j (by omega)
theorem fa_19 {N : Nat → Nat} {R : Nat → Nat → Int32} {w : Nat} {r19 : Nat → Int32} (h : ∀ j, j ≤ w → r19 j = nI (ahF N R j)) : ∀ j, j ≤ w + 1 → upd r19 (w + 1) (nI (ahF N R w ||| alF N R w)) j = nI (ahF N R j) := by
  intro j hj
  by_cases e : j = w + 1
  · rw [e, pk_us]; rfl
  · rw [pk_un e]; exact h j (by omega)
theorem ws_no {N : Nat → Nat} {R : Nat → Nat → Int32} {ws se : Nat} {hn : Int32} {r15 r16 : Nat → Int32} (h : ∀ d, d < se → sbN d (ahF N R ws) → r15 d = (if soB N R d = true then nI (rk N R d) else -1) ∧ r16 d = bI (decide (nI (haF R d (N 17)) ≤ hn))) (hs : ¬ sbN se (ahF N R ws)) : ∀ d, d < se + 1 → sbN d (ahF N R ws) → r15 d = (if soB N R d = true then nI (rk N R d) else -1) ∧ r16 d = bI (decide (nI (haF R d (N 17)) ≤ hn)) := by
  intro d hd h2
  by_cases e : d = se
  · rw [e] at h2; exact absurd h2 hs
  · exact h d (by omega) h2
theorem ws_yes {N : Nat → Nat} {R : Nat → Nat → Int32} {ws se : Nat} {hn : Int32} {r15 r16 : Nat → Int32} {v : Int32} (h : ∀ d, d < se → sbN d (ahF N R ws) → r15 d = (if soB N R d = true then nI (rk N R d) else -1) ∧ r16 d = bI (decide (nI (haF R d (N 17)) ≤ hn))) (hv : v = if soB N R se = true then nI (rk N R se) else -1) : ∀ d, d < se + 1 → sbN d (ahF N R ws) → upd r15 se v d = (if soB N R d = true then nI (rk N R d) else -1) ∧ upd r16 se (bI (decide (nI (haF R se (N 17)) ≤ hn))) d = bI (decide (nI (haF R d (N 17)) ≤ hn)) := by
  intro d hd h2
  by_cases e : d = se
  · subst e
    rw [pk_us, pk_us]
    exact ⟨hv, rfl⟩
  · rw [pk_un e, pk_un e]
    exact h d (by omega) h2
section RPL
variable {K : Nat → Nat} {C : Nat → Nat → Int32} {O : Nat → Nat → Option Nat} {L : List Nat} {f : Nat → va_E} {N : Nat → Nat} {R : Nat → Nat → Int32} {a b d : Nat} {x9 x10 x11 x14 x15 x16 x18 x19 : Nat → Int32}
theorem RelN_pl0 (h : RelN K C O L f N R) : RelN (va_up (va_up (va_up K 4 a) 5 b) 6 d) (va_up (va_up (va_up (va_up (va_up (va_up (va_up (va_up C 9 x9) 10 x10) 11 x11) 14 x14) 15 x15) 16 x16) 18 x18) 19 x19) O L f N R := h
theorem RelM_pl0 (h : RelM K O L f N R) : RelM (va_up (va_up (va_up K 4 a) 5 b) 6 d) O L f N R := h
theorem RelG_pl0 (h : RelG K C R) : RelG (va_up (va_up (va_up K 4 a) 5 b) 6 d) (va_up (va_up (va_up (va_up (va_up (va_up (va_up (va_up C 9 x9) 10 x10) 11 x11) 14 x14) 15 x15) 16 x16) 18 x18) 19 x19) R := h
end RPL
set_option maxHeartbeats 4000000 in
set_option maxRecDepth 100000 in
theorem x_putInWeek (l : Launch) (D : va_G) (cy : Nat → ClassId) (q : Nat → Nat) (K : Nat → Nat) (C : Nat → Nat → Int32) (O : Nat → Nat → Option Nat) (L : List Nat) (f : Nat → va_E) (k : Nat) (w : Int32) (hk : k < 8) : MS (α := Nat × (Nat → Int32)) l D cy yX6_putInWeek cX6_putInWeek 3 (Option.none : Option FieldType) rm_X6_putInWeek [.ref (q 4), .int (nI k), .int w] (wX cy q K C O L f) (fun v_ u_ => v_ = none ∧ u_.2 = upd (C 20) k w ∧ u_.1 = if C 20 k = w then K 10 else K 10 ||| 2 ^ k) (fun u_ => wX cy q (va_up K 10 u_.1) (va_up C 20 u_.2) O L f) := by
  refine MS.mk2 (by decide) (Nat.le_of_ble_eq_true rfl) [(0, .ref (q 4)), (1, .int (nI k)), (2, .int w)] rfl ?_
  intro p e s m args below meth c A ls Q hQ S hr hlk hnm hK hA I hl
  refine lv_aload_n S.1 S.2.1 dX6_putInWeek_0 rfl (lv_at hl 0 rfl) ?_
  refine rg (ci := 6) (q0 := 4) (v := .ref (q 20)) 6 S hK I cl_X6 rfl wf_X6_30 (by decide) rfl rfl rfl dX6_putInWeek_1 ?_
  refine lv_iload_n S.1 S.2.1 dX6_putInWeek_4 rfl (lv_at hl 1 rfl) ?_
  refine ri (q0 := 20) (n := 8) (f := C 20) k S hK I rfl rfl (by omega) (by decide) dX6_putInWeek_5 ?_
  refine lv_iload_n S.1 S.2.1 dX6_putInWeek_6 rfl (lv_at hl 2 rfl) ?_
  refine lv_icmp_eq (tgt := 23) S.1 S.2.1 dX6_putInWeek_7 (by decide) (fun c_7 => ?_) (fun c_7 => ?_)
  · skip
    refine lv_aload_n S.1 S.2.1 dX6_putInWeek_23 rfl (lv_at hl 0 rfl) ?_
    refine rg (ci := 6) (q0 := 4) (v := .ref (q 20)) 6 S hK I cl_X6 rfl wf_X6_30 (by decide) rfl rfl rfl dX6_putInWeek_24 ?_
    refine lv_iload_n S.1 S.2.1 dX6_putInWeek_27 rfl (lv_at hl 1 rfl) ?_
    refine lv_iload_n S.1 S.2.1 dX6_putInWeek_28 rfl (lv_at hl 2 rfl) ?_
    refine si (q0 := 20) (n := 8) (f := C 20) k S hK I rfl rfl (by omega) (by decide) dX6_putInWeek_29 (fun H locs I => ?_)
    have I : IX D A s.heap (wX cy q K (va_up C 20 (upd (C 20) k w)) O L f) H locs := I
    exact ru_v hQ S hr hlk (u := (K 10, upd (C 20) k w)) I (⟨rfl, rfl, by rw [if_pos c_7]⟩) dX6_putInWeek_30
  · skip
    refine lv_aload_n S.1 S.2.1 dX6_putInWeek_10 rfl (lv_at hl 0 rfl) ?_
    refine lv_dup S.1 S.2.1 dX6_putInWeek_11 rfl ?_
    refine rg (ci := 6) (q0 := 4) (v := .int (nI (K 10))) 8 S hK I cl_X6 rfl wf_X6_70 (by decide) rfl rfl rfl dX6_putInWeek_12 ?_
    refine lv_iload_n S.1 S.2.1 dX6_putInWeek_15 rfl (lv_at hl 1 rfl) ?_
    refine cN (np := 1) (As := [.int (nI k)]) (rest := [.int (nI (K 10)), .ref (q 4)]) S (x_bit l D cy (wX cy q K C O L f) k (by omega)) hK hA I (by decide +kernel) wt_X11_bit wn_X11 wk_X11_bit hd_X11_bit rfl ⟨by decide, by decide⟩ hl.1 rfl (Nat.le_of_ble_eq_true rfl) dX6_putInWeek_16 ⟨by decide, by decide⟩ (fun v_ u_ H locs h_ I => ?_)
    obtain rfl := h_
    have I : IX D A s.heap (wX cy q K C O L f) H locs := I
    refine W.eq (g2 := F0 m 19 ls [.int (nI (2 ^ k)), .int (nI (K 10)), .ref (q 4)]) rfl ?_
    refine lv_ior S.1 S.2.1 dX6_putInWeek_19 ?_
    refine tI (y := nI ((K 10) ||| (2 ^ k))) (fa_or _ _) ?_
    refine rp (ci := 6) (q0 := 4) (v := .int (nI ((K 10) ||| (2 ^ k)))) (ty := .int) 8 S hK I cl_X6 rfl wf_X6_70 (by decide) rfl tyX6_ok nmX6 rfl (by decide +kernel) rfl rfl (by exact Nat.le_of_ble_eq_true rfl) rfl dX6_putInWeek_20 (fun H locs I => ?_)
    have I : IX D A s.heap (wX cy q (va_up K 10 ((K 10) ||| (2 ^ k))) C O L f) H locs := I
    refine lv_aload_n S.1 S.2.1 dX6_putInWeek_23 rfl (lv_at hl 0 rfl) ?_
    refine rg (ci := 6) (q0 := 4) (v := .ref (q 20)) 6 S hK I cl_X6 rfl wf_X6_30 (by decide) rfl rfl rfl dX6_putInWeek_24 ?_
    refine lv_iload_n S.1 S.2.1 dX6_putInWeek_27 rfl (lv_at hl 1 rfl) ?_
    refine lv_iload_n S.1 S.2.1 dX6_putInWeek_28 rfl (lv_at hl 2 rfl) ?_
    refine si (q0 := 20) (n := 8) (f := C 20) k S hK I rfl rfl (by omega) (by decide) dX6_putInWeek_29 (fun H locs I => ?_)
    have I : IX D A s.heap (wX cy q (va_up K 10 ((K 10) ||| (2 ^ k))) (va_up C 20 (upd (C 20) k w)) O L f) H locs := I
    exact ru_v hQ S hr hlk (u := ((K 10) ||| (2 ^ k), upd (C 20) k w)) I (⟨rfl, rfl, by rw [if_neg c_7]⟩) dX6_putInWeek_30
set_option maxHeartbeats 4000000 in
set_option maxRecDepth 100000 in
theorem x_handsOf (l : Launch) (D : va_G) (cy : Nat → ClassId) (q : Nat → Nat) (K : Nat → Nat) (C : Nat → Nat → Int32) (O : Nat → Nat → Option Nat) (L : List Nat) (f : Nat → va_E) (N : Nat → Nat) (R : Nat → Nat → Int32) (d : Nat) (hW : WFm N R) (hrm : RelM K O L f N R) : MS (α := Unit) l D cy yX6_handsOf cX6_handsOf 5 (Option.some FieldType.int) rm_X6_handsOf [.ref (q 4), .int (nI d)] (wX cy q K C O L f) (fun v_ (_ : Unit) => v_ = some (.int (nI (haF R d (N 17))))) (fun _ => wX cy q K C O L f) := by
  refine MS.mk2 (by decide) (Nat.le_of_ble_eq_true rfl) [(0, .ref (q 4)), (1, .int (nI d))] rfl ?_
  intro p e s m args below meth c A ls Q hQ S hr hlk hnm hK hA I hl
  have hW0 := hW
  obtain ⟨hB, hPt, hBo, hH, hM, hQu⟩ := hW0
  have hB0 := hB
  obtain ⟨b0, b6, b17, b24, b30⟩ := hB0
  have hrm0 := hrm
  obtain ⟨k7, k8, hMe, hQe⟩ := hrm0
  refine lv_iconst (v := nI 0) S.1 S.2.1 dX6_handsOf_0 (by decide) ?_
  refine lv_istore_n (lv' := [(2, .int (nI 0)), (0, .ref (q 4)), (1, .int (nI d))]) S.1 S.2.1 dX6_handsOf_1 rfl hl (by decide) rfl (fun ls hl => ?_)
  refine lv_iconst (v := nI 0) S.1 S.2.1 dX6_handsOf_2 (by decide) ?_
  refine lv_istore_n (lv' := [(3, .int (nI 0)), (2, .int (nI 0)), (0, .ref (q 4)), (1, .int (nI d))]) S.1 S.2.1 dX6_handsOf_3 rfl hl (by decide) rfl (fun ls hl => ?_)
  have loop_4 : ∀ (k_ : Nat) (i : Nat) (su : Nat), N 17 - i < k_ → i ≤ N 17 → su = haF R d i → ∀ (H : Heap) (locs : List Loc) (ls : Array Slot), IX D A s.heap (wX cy q K C O L f) H locs → lv_has ls 5 [(0, .ref (q 4)), (1, .int (nI d)), (2, .int (nI su)), (3, .int (nI i))] → W p l e rm_X6_handsOf s m args below meth c H locs 0 0 Q (F0 m 4 ls []) := by
    intro k_
    induction k_ with
    | zero => intro i su hm_; exact absurd hm_ (Nat.not_lt_zero _)
    | succ k_ ih_4 =>
      intro i su hm_ hi hsu H locs ls I hl
      refine lv_iload_n S.1 S.2.1 dX6_handsOf_4 rfl (lv_at hl 3 rfl) ?_
      refine lv_aload_n S.1 S.2.1 dX6_handsOf_5 rfl (lv_at hl 0 rfl) ?_
      refine rg (ci := 6) (q0 := 4) (v := .ref (q 3)) 0 S hK I cl_X6 rfl wf_X6_33 (by decide) rfl rfl rfl dX6_handsOf_6 ?_
      refine rg (ci := 4) (q0 := 3) (v := .int (nI (K 7))) 5 S hK I cl_X4 rfl wf_X6_88 (by decide) rfl rfl rfl dX6_handsOf_9 ?_
      refine lv_icmp_ge (tgt := 52) S.1 S.2.1 dX6_handsOf_12 (by decide) (fun c_12 => ?_) (fun c_12 => ?_)
      · skip
        have c_12o := c_12
        have c_12 := nI_cgeT (by omega) (by omega) c_12
        refine lv_iload_n S.1 S.2.1 dX6_handsOf_52 rfl (lv_at hl 2 rfl) ?_
        exact ru_i hQ S hr hlk (u := ()) I (congrArg (fun z => some (Value.int z)) (by rw [hsu, show i = N 17 by omega])) dX6_handsOf_53
      · skip
        have c_12o := c_12
        have c_12 := nI_cgeF (by omega) (by omega) c_12
        refine lv_aload_n S.1 S.2.1 dX6_handsOf_15 rfl (lv_at hl 0 rfl) ?_
        refine rg (ci := 6) (q0 := 4) (v := .ref (q 3)) 0 S hK I cl_X6 rfl wf_X6_33 (by decide) rfl rfl rfl dX6_handsOf_16 ?_
        refine lv_iload_n S.1 S.2.1 dX6_handsOf_19 rfl (lv_at hl 3 rfl) ?_
        obtain ⟨a, ho12, ha, hf⟩ := hMe i (by omega)
        refine cV (np := 1) (ci := 4) (q0 := 3) (As := [.int (nI i)]) (rest := []) S (x_mendAt l D cy q K C O L f (nI i) (show K 7 ≤ 8 by omega)) hK hA I wm_X6_91 wi_X4_mendAt ws_X4_X4_mendAt wn_X4 wk_X4_mendAt ⟨rfl, hd_X4_mendAt⟩ rfl ⟨by decide, by decide⟩ rfl rfl hl.1 rfl (Nat.le_of_ble_eq_true rfl) dX6_handsOf_20 ⟨by decide, by decide⟩ (fun v_ u_ H locs h_ I => ?_)
        obtain rfl := h_
        have I : IX D A s.heap (wX cy q K C O L f) H locs := I
        refine W.eq (g2 := F0 m 23 ls (va_rf (if isP (K 7) (nI i) = true then O 12 (nI i).toNatClampNeg else none) :: [])) rfl ?_
        refine tV (y := .ref a) (mat_some (K := K) (O := O) rfl (show i < K 7 by omega) (show K 7 ≤ 8 by omega) ho12) ?_
        refine lv_astore (lv' := [(4, .ref a), (0, .ref (q 4)), (1, .int (nI d)), (2, .int (nI su)), (3, .int (nI i))]) S.1 S.2.1 dX6_handsOf_23 hl (by decide) rfl (fun ls hl => ?_)
        refine lv_aload S.1 S.2.1 dX6_handsOf_25 (lv_at hl 0 rfl) ?_
        refine lv_ifnull S.1 S.2.1 dX6_handsOf_27 ?_
        refine lv_iload_n S.1 S.2.1 dX6_handsOf_30 rfl (lv_at hl 2 rfl) ?_
        refine lv_iload_n S.1 S.2.1 dX6_handsOf_31 rfl (lv_at hl 4 rfl) ?_
        refine cN (np := 2) (As := [.int (nI d), .int (nI i)]) (rest := []) S (x_isIn l D cy (wX cy q K C O L f) d i (by omega)) hK hA I (by decide +kernel) wt_X11_isIn wn_X11 wk_X11_isIn hd_X11_isIn rfl ⟨by decide, by decide⟩ hl.1 rfl (Nat.le_of_ble_eq_true rfl) dX6_handsOf_32 ⟨by decide, by decide⟩ (fun v_ u_ H locs h_ I => ?_)
        obtain rfl := h_
        have I : IX D A s.heap (wX cy q K C O L f) H locs := I
        refine W.eq (g2 := F0 m 35 ls [.int (bI (d.testBit i))]) rfl ?_
        refine lv_if_eq (tgt := 46) S.1 S.2.1 dX6_handsOf_35 (by decide) (fun c_35 => ?_) (fun c_35 => ?_)
        · skip
          have c_35 := bI_f c_35
          refine lv_iinc (v := nI (i + 1)) (lv' := [(3, .int (nI (i + 1))), (4, .ref a), (0, .ref (q 4)), (1, .int (nI d)), (2, .int (nI su))]) S.1 S.2.1 dX6_handsOf_46 hl (k := 4) rfl (nI_1 _) (by decide) rfl (fun ls hl => ?_)
          refine lv_goto (tgt := 4) S.1 S.2.1 dX6_handsOf_49 (by decide) ?_
          exact ih_4 (i + 1) su (by omega) (by omega) (by rw [haF, ← hsu, c_35]; rfl) _ _ _ I (lv_sub hl [2, 3, 4, 0] rfl)
        · skip
          have c_35 := bI_t c_35
          refine lv_iload_n S.1 S.2.1 dX6_handsOf_38 rfl (lv_at hl 3 rfl) ?_
          refine lv_aload S.1 S.2.1 dX6_handsOf_39 (lv_at hl 0 rfl) ?_
          refine rgP (ci := 3) (T := TX3) (fs := [.int (R 18 i), .int (R 19 i), .int (R 20 i), .int (R 21 i), .int (R 22 i), .int (R 23 i)]) 2 S hK I cl_X3 rfl wf_X6_107 (by decide) rfl ha hf rfl dX6_handsOf_41 ?_
          refine tI (y := nI (mh R i)) ((hM i (by omega)).2.2.1) ?_
          refine lv_iadd S.1 S.2.1 dX6_handsOf_44 ?_
          refine tI (y := nI (su + (mh R i))) (nI_add _ _) ?_
          refine lv_istore_n (lv' := [(2, .int (nI (su + (mh R i)))), (4, .ref a), (0, .ref (q 4)), (1, .int (nI d)), (3, .int (nI i))]) S.1 S.2.1 dX6_handsOf_45 rfl hl (by decide) rfl (fun ls hl => ?_)
          refine lv_iinc (v := nI (i + 1)) (lv' := [(3, .int (nI (i + 1))), (2, .int (nI (su + (mh R i)))), (4, .ref a), (0, .ref (q 4)), (1, .int (nI d))]) S.1 S.2.1 dX6_handsOf_46 hl (k := 4) rfl (nI_1 _) (by decide) rfl (fun ls hl => ?_)
          refine lv_goto (tgt := 4) S.1 S.2.1 dX6_handsOf_49 (by decide) ?_
          exact ih_4 (i + 1) (su + (mh R i)) (by omega) (by omega) (by rw [haF, ← hsu, c_35]; rfl) _ _ _ I (lv_sub hl [3, 4, 1, 0] rfl)
  exact loop_4 _ 0 0 (Nat.lt_succ_self _) (Nat.zero_le _) rfl _ _ _ I (lv_sub hl [2, 3, 1, 0] rfl)
set_option maxHeartbeats 4000000 in
set_option maxRecDepth 100000 in
theorem x_findAllowed (l : Launch) (D : va_G) (cy : Nat → ClassId) (q : Nat → Nat) (K : Nat → Nat) (C : Nat → Nat → Int32) (O : Nat → Nat → Option Nat) (L : List Nat) (f : Nat → va_E) (N : Nat → Nat) (R : Nat → Nat → Int32) (ws : Nat) (hW : WFm N R) (hrm : RelM K O L f N R) (hws : ws ≤ 6) : MS (α := (Nat → Int32) × (Nat → Int32)) l D cy yX6_findAllowed cX6_findAllowed 5 (Option.none : Option FieldType) rm_X6_findAllowed [.ref (q 4), .int (nI ws)] (wX cy q K C O L f) (fun v_ u_ => v_ = none ∧ (∀ j, j < ws → u_.1 j = nI (alF N R j)) ∧ (∀ j, j ≤ ws → u_.2 j = nI (ahF N R j))) (fun u_ => wX cy q K (va_up (va_up C 18 u_.1) 19 u_.2) O L f) := by
  refine MS.mk2 (by decide) (Nat.le_of_ble_eq_true rfl) [(0, .ref (q 4)), (1, .int (nI ws))] rfl ?_
  intro p e s m args below meth c A ls Q hQ S hr hlk hnm hK hA I hl
  have hW0 := hW
  obtain ⟨hB, hPt, hBo, hH, hM, hQu⟩ := hW0
  have hB0 := hB
  obtain ⟨b0, b6, b17, b24, b30⟩ := hB0
  have hrm0 := hrm
  obtain ⟨k7, k8, hMe, hQe⟩ := hrm0
  refine lv_aload_n S.1 S.2.1 dX6_findAllowed_0 rfl (lv_at hl 0 rfl) ?_
  refine rg (ci := 6) (q0 := 4) (v := .ref (q 19)) 5 S hK I cl_X6 rfl wf_X6_27 (by decide) rfl rfl rfl dX6_findAllowed_1 ?_
  refine lv_iconst (v := nI 0) S.1 S.2.1 dX6_findAllowed_4 (by decide) ?_
  refine lv_iconst (v := nI 0) S.1 S.2.1 dX6_findAllowed_5 (by decide) ?_
  refine si (q0 := 19) (n := 7) (f := C 19) 0 S hK I rfl rfl (by omega) (by decide) dX6_findAllowed_6 (fun H locs I => ?_)
  have I : IX D A s.heap (wX cy q K (va_up C 19 (upd (C 19) 0 (nI 0))) O L f) H locs := I
  refine lv_iconst (v := nI 0) S.1 S.2.1 dX6_findAllowed_7 (by decide) ?_
  refine lv_istore_n (lv' := [(2, .int (nI 0)), (0, .ref (q 4)), (1, .int (nI ws))]) S.1 S.2.1 dX6_findAllowed_8 rfl hl (by decide) rfl (fun ls hl => ?_)
  have loop_9 : ∀ (k_ : Nat) (w : Nat) (r18 : Nat → Int32) (r19 : Nat → Int32), ws - w < k_ → w ≤ ws → (∀ j, j < w → r18 j = nI (alF N R j)) → (∀ j, j ≤ w → r19 j = nI (ahF N R j)) → ∀ (H : Heap) (locs : List Loc) (ls : Array Slot), IX D A s.heap (wX cy q K (va_up (va_up C 18 r18) 19 r19) O L f) H locs → lv_has ls 5 [(0, .ref (q 4)), (1, .int (nI ws)), (2, .int (nI w))] → W p l e rm_X6_findAllowed s m args below meth c H locs 0 0 Q (F0 m 9 ls []) := by
    intro k_
    induction k_ with
    | zero => intro w r18 r19 hm_; exact absurd hm_ (Nat.not_lt_zero _)
    | succ k_ ih_9 =>
      intro w r18 r19 hm_ hw h18 h19 H locs ls I hl
      refine lv_iload_n S.1 S.2.1 dX6_findAllowed_9 rfl (lv_at hl 2 rfl) ?_
      refine lv_iload_n S.1 S.2.1 dX6_findAllowed_10 rfl (lv_at hl 1 rfl) ?_
      refine lv_icmp_ge (tgt := 112) S.1 S.2.1 dX6_findAllowed_11 (by decide) (fun c_11 => ?_) (fun c_11 => ?_)
      · skip
        have c_11o := c_11
        have c_11 := nI_cgeT (by omega) (by omega) c_11
        exact ru_v hQ S hr hlk (u := (r18, r19)) I (⟨rfl, fun j hj => h18 j (by omega), fun j hj => h19 j (by omega)⟩) dX6_findAllowed_112
      · skip
        have c_11o := c_11
        have c_11 := nI_cgeF (by omega) (by omega) c_11
        refine lv_aload_n S.1 S.2.1 dX6_findAllowed_14 rfl (lv_at hl 0 rfl) ?_
        refine rg (ci := 6) (q0 := 4) (v := .ref (q 18)) 4 S hK I cl_X6 rfl wf_X6_24 (by decide) rfl rfl rfl dX6_findAllowed_15 ?_
        refine lv_iload_n S.1 S.2.1 dX6_findAllowed_18 rfl (lv_at hl 2 rfl) ?_
        refine lv_iconst (v := nI 0) S.1 S.2.1 dX6_findAllowed_19 (by decide) ?_
        refine si (q0 := 18) (n := 6) (f := r18) w S hK I rfl rfl (by omega) (by decide) dX6_findAllowed_20 (fun H locs I => ?_)
        have I : IX D A s.heap (wX cy q K (va_up (va_up C 18 (upd r18 w (nI 0))) 19 r19) O L f) H locs := I
        refine lv_iconst (v := nI 0) S.1 S.2.1 dX6_findAllowed_21 (by decide) ?_
        refine lv_istore_n (lv' := [(3, .int (nI 0)), (0, .ref (q 4)), (1, .int (nI ws)), (2, .int (nI w))]) S.1 S.2.1 dX6_findAllowed_22 rfl hl (by decide) rfl (fun ls hl => ?_)
        have loop_23 : ∀ (k_ : Nat) (k2 : Nat) (t18 : Nat → Int32), N 17 - k2 < k_ → k2 ≤ N 17 → (∀ j, j < w → t18 j = nI (alF N R j)) → t18 w = nI (msk (fun k => inB (nI w) (R 22 k) (R 23 k)) k2) → ∀ (H : Heap) (locs : List Loc) (ls : Array Slot), IX D A s.heap (wX cy q K (va_up (va_up C 18 t18) 19 r19) O L f) H locs → lv_has ls 5 [(0, .ref (q 4)), (1, .int (nI ws)), (2, .int (nI w)), (3, .int (nI k2))] → W p l e rm_X6_findAllowed s m args below meth c H locs 0 0 Q (F0 m 23 ls []) := by
          intro k_
          induction k_ with
          | zero => intro k2 t18 hm_; exact absurd hm_ (Nat.not_lt_zero _)
          | succ k_ ih_23 =>
            intro k2 t18 hm_ hk2 ht ht2 H locs ls I hl
            refine lv_iload_n S.1 S.2.1 dX6_findAllowed_23 rfl (lv_at hl 3 rfl) ?_
            refine lv_aload_n S.1 S.2.1 dX6_findAllowed_24 rfl (lv_at hl 0 rfl) ?_
            refine rg (ci := 6) (q0 := 4) (v := .ref (q 3)) 0 S hK I cl_X6 rfl wf_X6_33 (by decide) rfl rfl rfl dX6_findAllowed_25 ?_
            refine rg (ci := 4) (q0 := 3) (v := .int (nI (K 7))) 5 S hK I cl_X4 rfl wf_X6_88 (by decide) rfl rfl rfl dX6_findAllowed_28 ?_
            refine lv_icmp_ge (tgt := 85) S.1 S.2.1 dX6_findAllowed_31 (by decide) (fun c_31 => ?_) (fun c_31 => ?_)
            · skip
              have c_31o := c_31
              have c_31 := nI_cgeT (by omega) (by omega) c_31
              refine lv_aload_n S.1 S.2.1 dX6_findAllowed_85 rfl (lv_at hl 0 rfl) ?_
              refine rg (ci := 6) (q0 := 4) (v := .ref (q 19)) 5 S hK I cl_X6 rfl wf_X6_27 (by decide) rfl rfl rfl dX6_findAllowed_86 ?_
              refine lv_iload_n S.1 S.2.1 dX6_findAllowed_89 rfl (lv_at hl 2 rfl) ?_
              refine lv_iconst (v := nI 1) S.1 S.2.1 dX6_findAllowed_90 (by decide) ?_
              refine lv_iadd S.1 S.2.1 dX6_findAllowed_91 ?_
              refine tI (y := nI (w + 1)) (nI_add _ _) ?_
              refine lv_aload_n S.1 S.2.1 dX6_findAllowed_92 rfl (lv_at hl 0 rfl) ?_
              refine rg (ci := 6) (q0 := 4) (v := .ref (q 19)) 5 S hK I cl_X6 rfl wf_X6_27 (by decide) rfl rfl rfl dX6_findAllowed_93 ?_
              refine lv_iload_n S.1 S.2.1 dX6_findAllowed_96 rfl (lv_at hl 2 rfl) ?_
              refine ri (q0 := 19) (n := 7) (f := r19) w S hK I rfl rfl (by omega) (by decide) dX6_findAllowed_97 ?_
              refine tI (y := nI (ahF N R w)) (h19 w (Nat.le_refl w)) ?_
              refine lv_aload_n S.1 S.2.1 dX6_findAllowed_98 rfl (lv_at hl 0 rfl) ?_
              refine rg (ci := 6) (q0 := 4) (v := .ref (q 18)) 4 S hK I cl_X6 rfl wf_X6_24 (by decide) rfl rfl rfl dX6_findAllowed_99 ?_
              refine lv_iload_n S.1 S.2.1 dX6_findAllowed_102 rfl (lv_at hl 2 rfl) ?_
              refine ri (q0 := 18) (n := 6) (f := t18) w S hK I rfl rfl (by omega) (by decide) dX6_findAllowed_103 ?_
              refine tI (y := nI (alF N R w)) (by rw [ht2, show k2 = N 17 by omega]; rfl) ?_
              refine lv_ior S.1 S.2.1 dX6_findAllowed_104 ?_
              refine tI (y := nI ((ahF N R w) ||| (alF N R w))) (fa_or _ _) ?_
              refine si (q0 := 19) (n := 7) (f := r19) (w + 1) S hK I rfl rfl (by omega) (by decide) dX6_findAllowed_105 (fun H locs I => ?_)
              have I : IX D A s.heap (wX cy q K (va_up (va_up C 18 t18) 19 (upd r19 (w + 1) (nI ((ahF N R w) ||| (alF N R w))))) O L f) H locs := I
              refine lv_iinc (v := nI (w + 1)) (lv' := [(2, .int (nI (w + 1))), (0, .ref (q 4)), (1, .int (nI ws)), (3, .int (nI k2))]) S.1 S.2.1 dX6_findAllowed_106 hl (k := 2) rfl (nI_1 _) (by decide) rfl (fun ls hl => ?_)
              refine lv_goto (tgt := 9) S.1 S.2.1 dX6_findAllowed_109 (by decide) ?_
              exact ih_9 (w + 1) t18 (upd r19 (w + 1) (nI ((ahF N R w) ||| (alF N R w)))) (by omega) (by omega) (fa_18 ht ht2 (by omega)) (fa_19 h19) _ _ _ I (lv_sub hl [1, 2, 0] rfl)
            · skip
              have c_31o := c_31
              have c_31 := nI_cgeF (by omega) (by omega) c_31
              refine lv_aload_n S.1 S.2.1 dX6_findAllowed_34 rfl (lv_at hl 0 rfl) ?_
              refine rg (ci := 6) (q0 := 4) (v := .ref (q 3)) 0 S hK I cl_X6 rfl wf_X6_33 (by decide) rfl rfl rfl dX6_findAllowed_35 ?_
              refine lv_iload_n S.1 S.2.1 dX6_findAllowed_38 rfl (lv_at hl 3 rfl) ?_
              obtain ⟨a, ho12, ha, hf⟩ := hMe k2 (by omega)
              refine cV (np := 1) (ci := 4) (q0 := 3) (As := [.int (nI k2)]) (rest := []) S (x_mendAt l D cy q K (va_up (va_up C 18 t18) 19 r19) O L f (nI k2) (show K 7 ≤ 8 by omega)) hK hA I wm_X6_91 wi_X4_mendAt ws_X4_X4_mendAt wn_X4 wk_X4_mendAt ⟨rfl, hd_X4_mendAt⟩ rfl ⟨by decide, by decide⟩ rfl rfl hl.1 rfl (Nat.le_of_ble_eq_true rfl) dX6_findAllowed_39 ⟨by decide, by decide⟩ (fun v_ u_ H locs h_ I => ?_)
              obtain rfl := h_
              have I : IX D A s.heap (wX cy q K (va_up (va_up C 18 t18) 19 r19) O L f) H locs := I
              refine W.eq (g2 := F0 m 42 ls (va_rf (if isP (K 7) (nI k2) = true then O 12 (nI k2).toNatClampNeg else none) :: [])) rfl ?_
              refine tV (y := .ref a) (mat_some (K := K) (O := O) rfl (show k2 < K 7 by omega) (show K 7 ≤ 8 by omega) ho12) ?_
              refine lv_astore (lv' := [(4, .ref a), (0, .ref (q 4)), (1, .int (nI ws)), (2, .int (nI w)), (3, .int (nI k2))]) S.1 S.2.1 dX6_findAllowed_42 hl (by decide) rfl (fun ls hl => ?_)
              refine lv_aload S.1 S.2.1 dX6_findAllowed_44 (lv_at hl 0 rfl) ?_
              refine lv_ifnull S.1 S.2.1 dX6_findAllowed_46 ?_
              refine lv_iload_n S.1 S.2.1 dX6_findAllowed_49 rfl (lv_at hl 3 rfl) ?_
              refine lv_aload S.1 S.2.1 dX6_findAllowed_50 (lv_at hl 0 rfl) ?_
              refine rgP (ci := 3) (T := TX3) (fs := [.int (R 18 k2), .int (R 19 k2), .int (R 20 k2), .int (R 21 k2), .int (R 22 k2), .int (R 23 k2)]) 4 S hK I cl_X3 rfl wf_X6_95 (by decide) rfl ha hf rfl dX6_findAllowed_52 ?_
              refine lv_aload S.1 S.2.1 dX6_findAllowed_55 (lv_at hl 0 rfl) ?_
              refine rgP (ci := 3) (T := TX3) (fs := [.int (R 18 k2), .int (R 19 k2), .int (R 20 k2), .int (R 21 k2), .int (R 22 k2), .int (R 23 k2)]) 5 S hK I cl_X3 rfl wf_X6_100 (by decide) rfl ha hf rfl dX6_findAllowed_57 ?_
              refine cN (np := 3) (As := [.int (nI w), .int (R 22 k2), .int (R 23 k2)]) (rest := []) S (x_isBetween l D cy (wX cy q K (va_up (va_up C 18 t18) 19 r19) O L f) (nI w) (R 22 k2) (R 23 k2)) hK hA I (by decide +kernel) wt_X11_isBetween wn_X11 wk_X11_isBetween hd_X11_isBetween rfl ⟨by decide, by decide⟩ hl.1 rfl (Nat.le_of_ble_eq_true rfl) dX6_findAllowed_60 ⟨by decide, by decide⟩ (fun v_ u_ H locs h_ I => ?_)
              obtain rfl := h_
              have I : IX D A s.heap (wX cy q K (va_up (va_up C 18 t18) 19 r19) O L f) H locs := I
              refine W.eq (g2 := F0 m 63 ls [.int (bI (inB (nI w) (R 22 k2) (R 23 k2)))]) rfl ?_
              refine lv_if_eq (tgt := 79) S.1 S.2.1 dX6_findAllowed_63 (by decide) (fun c_63 => ?_) (fun c_63 => ?_)
              · skip
                have c_63 := bI_f c_63
                refine lv_iinc (v := nI (k2 + 1)) (lv' := [(3, .int (nI (k2 + 1))), (4, .ref a), (0, .ref (q 4)), (1, .int (nI ws)), (2, .int (nI w))]) S.1 S.2.1 dX6_findAllowed_79 hl (k := 4) rfl (nI_1 _) (by decide) rfl (fun ls hl => ?_)
                refine lv_goto (tgt := 23) S.1 S.2.1 dX6_findAllowed_82 (by decide) ?_
                exact ih_23 (k2 + 1) t18 (by omega) (by omega) ht (by rw [ht2, msk, c_63]; simp) _ _ _ I (lv_sub hl [2, 3, 4, 0] rfl)
              · skip
                have c_63 := bI_t c_63
                refine lv_aload_n S.1 S.2.1 dX6_findAllowed_66 rfl (lv_at hl 1 rfl) ?_
                refine rg (ci := 6) (q0 := 4) (v := .ref (q 18)) 4 S hK I cl_X6 rfl wf_X6_24 (by decide) rfl rfl rfl dX6_findAllowed_67 ?_
                refine lv_iload_n S.1 S.2.1 dX6_findAllowed_70 rfl (lv_at hl 3 rfl) ?_
                refine lv_dup2_11 S.1 S.2.1 dX6_findAllowed_71 rfl rfl ?_
                refine ri (q0 := 18) (n := 6) (f := t18) w S hK I rfl rfl (by omega) (by decide) dX6_findAllowed_72 ?_
                refine tI (y := nI (msk (fun k => inB (nI w) (R 22 k) (R 23 k)) k2)) ht2 ?_
                refine lv_iload_n S.1 S.2.1 dX6_findAllowed_73 rfl (lv_at hl 4 rfl) ?_
                refine cN (np := 1) (As := [.int (nI k2)]) (rest := [.int (nI (msk (fun k => inB (nI w) (R 22 k) (R 23 k)) k2)), .int (nI w), .ref (q 18)]) S (x_bit l D cy (wX cy q K (va_up (va_up C 18 t18) 19 r19) O L f) k2 (by omega)) hK hA I (by decide +kernel) wt_X11_bit wn_X11 wk_X11_bit hd_X11_bit rfl ⟨by decide, by decide⟩ hl.1 rfl (Nat.le_of_ble_eq_true rfl) dX6_findAllowed_74 ⟨by decide, by decide⟩ (fun v_ u_ H locs h_ I => ?_)
                obtain rfl := h_
                have I : IX D A s.heap (wX cy q K (va_up (va_up C 18 t18) 19 r19) O L f) H locs := I
                refine W.eq (g2 := F0 m 77 ls [.int (nI (2 ^ k2)), .int (nI (msk (fun k => inB (nI w) (R 22 k) (R 23 k)) k2)), .int (nI w), .ref (q 18)]) rfl ?_
                refine lv_ior S.1 S.2.1 dX6_findAllowed_77 ?_
                refine tI (y := nI ((msk (fun k => inB (nI w) (R 22 k) (R 23 k)) k2) ||| (2 ^ k2))) (fa_or _ _) ?_
                refine si (q0 := 18) (n := 6) (f := t18) w S hK I rfl rfl (by omega) (by decide) dX6_findAllowed_78 (fun H locs I => ?_)
                have I : IX D A s.heap (wX cy q K (va_up (va_up C 18 (upd t18 w (nI ((msk (fun k => inB (nI w) (R 22 k) (R 23 k)) k2) ||| (2 ^ k2))))) 19 r19) O L f) H locs := I
                refine lv_iinc (v := nI (k2 + 1)) (lv' := [(3, .int (nI (k2 + 1))), (4, .ref a), (0, .ref (q 4)), (1, .int (nI ws)), (2, .int (nI w))]) S.1 S.2.1 dX6_findAllowed_79 hl (k := 4) rfl (nI_1 _) (by decide) rfl (fun ls hl => ?_)
                refine lv_goto (tgt := 23) S.1 S.2.1 dX6_findAllowed_82 (by decide) ?_
                exact ih_23 (k2 + 1) (upd t18 w (nI ((msk (fun k => inB (nI w) (R 22 k) (R 23 k)) k2) ||| (2 ^ k2)))) (by omega) (by omega) (fun j hj => by rw [pk_un (by omega)]; exact ht j hj) (by rw [pk_us, msk, c_63, if_pos rfl]) _ _ _ I (lv_sub hl [2, 3, 4, 0] rfl)
        exact loop_23 _ 0 (upd r18 w (nI 0)) (Nat.lt_succ_self _) (Nat.zero_le _) (fun j hj => by rw [pk_un (by omega)]; exact h18 j hj) pk_us _ _ _ I (lv_sub hl [1, 2, 3, 0] rfl)
  exact loop_9 _ 0 (C 18) (upd (C 19) 0 (nI 0)) (Nat.lt_succ_self _) (Nat.zero_le _) (fun j hj => absurd hj (Nat.not_lt_zero j)) (fun j hj => by rw [show j = 0 by omega]; exact pk_us) _ _ _ I (lv_sub hl [1, 2, 0] rfl)
set_option maxHeartbeats 4000000 in
set_option maxRecDepth 100000 in
theorem x_weighSets (l : Launch) (D : va_G) (cy : Nat → ClassId) (q : Nat → Nat) (K : Nat → Nat) (C : Nat → Nat → Int32) (O : Nat → Nat → Option Nat) (L : List Nat) (f : Nat → va_E) (N : Nat → Nat) (R : Nat → Nat → Int32) (ws : Nat) (hn : Int32) (hW : WFm N R) (hrel : RelN K C O L f N R) (hrm : RelM K O L f N R) (hrg : RelG K C R) (hws : ws ≤ 6) : MS (α := (Nat → Int32) × (Nat → Int32) × (Nat → Int32) × (Nat → Int32) × Nat × Nat × Nat × (Nat → Int32) × (Nat → Int32) × (Nat → Int32) × (Nat → Int32)) l D cy yX6_weighSets cX6_weighSets 4 (Option.none : Option FieldType) rm_X6_weighSets [.ref (q 4), .int (nI ws), .int hn] (wX cy q K C O L f) (fun v_ u_ => v_ = none ∧ (∀ d, d < 256 → sbN d (ahF N R ws) → u_.1 d = (if soB N R d = true then nI (rk N R d) else -1)) ∧ (∀ d, d < 256 → sbN d (ahF N R ws) → u_.2.1 d = bI (decide (nI (haF R d (N 17)) ≤ hn))) ∧ (∀ j, j < ws → u_.2.2.1 j = nI (alF N R j)) ∧ (∀ j, j ≤ ws → u_.2.2.2.1 j = nI (ahF N R j))) (fun u_ => wX cy q (va_up (va_up (va_up K 4 u_.2.2.2.2.1) 5 u_.2.2.2.2.2.1) 6 u_.2.2.2.2.2.2.1) (va_up (va_up (va_up (va_up (va_up (va_up (va_up (va_up C 9 u_.2.2.2.2.2.2.2.1) 10 u_.2.2.2.2.2.2.2.2.1) 11 u_.2.2.2.2.2.2.2.2.2.1) 14 u_.2.2.2.2.2.2.2.2.2.2) 15 u_.1) 16 u_.2.1) 18 u_.2.2.1) 19 u_.2.2.2.1) O L f) := by
  refine MS.mk2 (by decide) (Nat.le_of_ble_eq_true rfl) [(0, .ref (q 4)), (1, .int (nI ws)), (2, .int hn)] rfl ?_
  intro p e s m args below meth c A ls Q hQ S hr hlk hnm hK hA I hl
  have hW0 := hW
  obtain ⟨hB, hPt, hBo, hH, hM, hQu⟩ := hW0
  have hB0 := hB
  obtain ⟨b0, b6, b17, b24, b30⟩ := hB0
  have hrm0 := hrm
  obtain ⟨k7, k8, hMe, hQe⟩ := hrm0
  have hrg0 := hrg
  obtain ⟨hC5, hG, hG3, hG2⟩ := hrg0
  refine lv_aload_n S.1 S.2.1 dX6_weighSets_0 rfl (lv_at hl 0 rfl) ?_
  refine lv_iload_n S.1 S.2.1 dX6_weighSets_1 rfl (lv_at hl 1 rfl) ?_
  refine cV (np := 1) (ci := 6) (q0 := 4) (As := [.int (nI ws)]) (rest := []) S (x_findAllowed l D cy q K C O L f N R ws hW hrm (by omega)) hK hA I wm_X6_43 wi_X6_findAllowed ws_X6_X6_findAllowed wn_X6 wk_X6_findAllowed ⟨rfl, hd_X6_findAllowed⟩ rfl ⟨by decide, by decide⟩ rfl rfl hl.1 rfl (Nat.le_of_ble_eq_true rfl) dX6_weighSets_2 ⟨by decide, by decide⟩ (fun v_ u_ H locs h_ I => ?_)
  obtain ⟨rfl, h18, h19⟩ := h_
  obtain ⟨r18, r19⟩ := u_
  have h18 : ∀ j, j < ws → r18 j = nI (alF N R j) := h18
  have h19 : ∀ j, j ≤ ws → r19 j = nI (ahF N R j) := h19
  have I : IX D A s.heap (wX cy q K (va_up (va_up C 18 r18) 19 r19) O L f) H locs := I
  refine W.eq (g2 := F0 m 5 ls []) rfl ?_
  refine lv_iconst (v := nI 0) S.1 S.2.1 dX6_weighSets_5 (by decide) ?_
  refine lv_istore_n (lv' := [(3, .int (nI 0)), (0, .ref (q 4)), (1, .int (nI ws)), (2, .int hn)]) S.1 S.2.1 dX6_weighSets_6 rfl hl (by decide) rfl (fun ls hl => ?_)
  have loop_7 : ∀ (k_ : Nat) (se : Nat) (r15 : Nat → Int32) (r16 : Nat → Int32) (z4 : Nat) (z5 : Nat) (z6 : Nat) (z9 : Nat → Int32) (z10 : Nat → Int32) (z11 : Nat → Int32) (z14 : Nat → Int32), 256 - se < k_ → se ≤ 256 → (∀ d, d < se → sbN d (ahF N R ws) → r15 d = (if soB N R d = true then nI (rk N R d) else -1) ∧ r16 d = bI (decide (nI (haF R d (N 17)) ≤ hn))) → ∀ (H : Heap) (locs : List Loc) (ls : Array Slot), IX D A s.heap (wX cy q (va_up (va_up (va_up K 4 z4) 5 z5) 6 z6) (va_up (va_up (va_up (va_up (va_up (va_up (va_up (va_up C 9 z9) 10 z10) 11 z11) 14 z14) 15 r15) 16 r16) 18 r18) 19 r19) O L f) H locs → lv_has ls 4 [(0, .ref (q 4)), (1, .int (nI ws)), (2, .int hn), (3, .int (nI se))] → W p l e rm_X6_weighSets s m args below meth c H locs 0 0 Q (F0 m 7 ls []) := by
    intro k_
    induction k_ with
    | zero => intro se r15 r16 z4 z5 z6 z9 z10 z11 z14 hm_; exact absurd hm_ (Nat.not_lt_zero _)
    | succ k_ ih_7 =>
      intro se r15 r16 z4 z5 z6 z9 z10 z11 z14 hm_ hse hrr H locs ls I hl
      refine lv_iload_n S.1 S.2.1 dX6_weighSets_7 rfl (lv_at hl 3 rfl) ?_
      refine lv_sipush (v := nI 256) S.1 S.2.1 dX6_weighSets_8 (by decide) ?_
      refine lv_icmp_ge (tgt := 85) S.1 S.2.1 dX6_weighSets_11 (by decide) (fun c_11 => ?_) (fun c_11 => ?_)
      · skip
        have c_11o := c_11
        have c_11 := nI_cgeT (by omega) (by omega) c_11
        exact ru_v hQ S hr hlk (u := (r15, r16, r18, r19, z4, z5, z6, z9, z10, z11, z14)) I (⟨rfl, fun d hd hs => (hrr d (by omega) hs).1, fun d hd hs => (hrr d (by omega) hs).2, h18, h19⟩) dX6_weighSets_85
      · skip
        have c_11o := c_11
        have c_11 := nI_cgeF (by omega) (by omega) c_11
        refine lv_iload_n S.1 S.2.1 dX6_weighSets_14 rfl (lv_at hl 3 rfl) ?_
        refine lv_aload_n S.1 S.2.1 dX6_weighSets_15 rfl (lv_at hl 0 rfl) ?_
        refine rg (ci := 6) (q0 := 4) (v := .ref (q 19)) 5 S hK I cl_X6 rfl wf_X6_27 (by decide) rfl rfl rfl dX6_weighSets_16 ?_
        refine lv_iload_n S.1 S.2.1 dX6_weighSets_19 rfl (lv_at hl 1 rfl) ?_
        refine ri (q0 := 19) (n := 7) (f := r19) ws S hK I rfl rfl (by omega) (by decide) dX6_weighSets_20 ?_
        refine tI (y := nI (ahF N R ws)) (h19 ws (Nat.le_refl ws)) ?_
        refine lv_iconst (v := (-1)) S.1 S.2.1 dX6_weighSets_21 (by decide) ?_
        refine lv_ixor S.1 S.2.1 dX6_weighSets_22 ?_
        refine lv_iand S.1 S.2.1 dX6_weighSets_23 ?_
        refine tI (y := nI (se ^^^ (se &&& ahF N R ws))) (clr_A _ _) ?_
        have hxl := sb_le (clr_le se (ahF N R ws))
        refine lv_if_eq (tgt := 30) S.1 S.2.1 dX6_weighSets_24 (by decide) (fun c_24 => ?_) (fun c_24 => ?_)
        · skip
          have c_24o := c_24
          have c_24 := nI_zeqT (by omega) c_24
          refine lv_aload_n S.1 S.2.1 dX6_weighSets_30 rfl (lv_at hl 0 rfl) ?_
          refine rg (ci := 6) (q0 := 4) (v := .ref (q 16)) 2 S hK I cl_X6 rfl wf_X6_15 (by decide) rfl rfl rfl dX6_weighSets_31 ?_
          refine lv_iload_n S.1 S.2.1 dX6_weighSets_34 rfl (lv_at hl 3 rfl) ?_
          refine lv_aload_n S.1 S.2.1 dX6_weighSets_35 rfl (lv_at hl 0 rfl) ?_
          refine lv_iload_n S.1 S.2.1 dX6_weighSets_36 rfl (lv_at hl 3 rfl) ?_
          refine cV (np := 1) (ci := 6) (q0 := 4) (As := [.int (nI se)]) (rest := [.int (nI se), .ref (q 16)]) S (x_handsOf l D cy q (va_up (va_up (va_up K 4 z4) 5 z5) 6 z6) (va_up (va_up (va_up (va_up (va_up (va_up (va_up (va_up C 9 z9) 10 z10) 11 z11) 14 z14) 15 r15) 16 r16) 18 r18) 19 r19) O L f N R se hW (RelM_pl0 hrm)) hK hA I wm_X6_47 wi_X6_handsOf ws_X6_X6_handsOf wn_X6 wk_X6_handsOf ⟨rfl, hd_X6_handsOf⟩ rfl ⟨by decide, by decide⟩ rfl rfl hl.1 rfl (Nat.le_of_ble_eq_true rfl) dX6_weighSets_37 ⟨by decide, by decide⟩ (fun v_ u_ H locs h_ I => ?_)
          obtain rfl := h_
          have I : IX D A s.heap (wX cy q (va_up (va_up (va_up K 4 z4) 5 z5) 6 z6) (va_up (va_up (va_up (va_up (va_up (va_up (va_up (va_up C 9 z9) 10 z10) 11 z11) 14 z14) 15 r15) 16 r16) 18 r18) 19 r19) O L f) H locs := I
          refine W.eq (g2 := F0 m 40 ls [.int (nI (haF R se (N 17))), .int (nI se), .ref (q 16)]) rfl ?_
          refine lv_iload_n S.1 S.2.1 dX6_weighSets_40 rfl (lv_at hl 2 rfl) ?_
          have join_49 : ∀ (_ : Unit), ∀ (H : Heap) (locs : List Loc) (ls : Array Slot), IX D A s.heap (wX cy q (va_up (va_up (va_up K 4 z4) 5 z5) 6 z6) (va_up (va_up (va_up (va_up (va_up (va_up (va_up (va_up C 9 z9) 10 z10) 11 z11) 14 z14) 15 r15) 16 r16) 18 r18) 19 r19) O L f) H locs → lv_has ls 4 [(0, .ref (q 4)), (1, .int (nI ws)), (2, .int hn), (3, .int (nI se))] → W p l e rm_X6_weighSets s m args below meth c H locs 0 0 Q (F0 m 49 ls [.int (bI (decide (nI (haF R se (N 17)) ≤ hn))), .int (nI se), .ref (q 16)]) := by
            intro _  H locs ls I hl
            refine sz (q0 := 16) (n := 256) (f := r16) se S hK I rfl rfl (by omega) (by decide) (bI_01 _) dX6_weighSets_49 (fun H locs I => ?_)
            have I : IX D A s.heap (wX cy q (va_up (va_up (va_up K 4 z4) 5 z5) 6 z6) (va_up (va_up (va_up (va_up (va_up (va_up (va_up (va_up C 9 z9) 10 z10) 11 z11) 14 z14) 15 r15) 16 (upd r16 se (bI (decide (nI (haF R se (N 17)) ≤ hn))))) 18 r18) 19 r19) O L f) H locs := I
            refine lv_aload_n S.1 S.2.1 dX6_weighSets_50 rfl (lv_at hl 0 rfl) ?_
            refine rg (ci := 6) (q0 := 4) (v := .ref (q 15)) 1 S hK I cl_X6 rfl wf_X6_9 (by decide) rfl rfl rfl dX6_weighSets_51 ?_
            refine lv_iload_n S.1 S.2.1 dX6_weighSets_54 rfl (lv_at hl 3 rfl) ?_
            refine lv_aload_n S.1 S.2.1 dX6_weighSets_55 rfl (lv_at hl 0 rfl) ?_
            refine rg (ci := 6) (q0 := 4) (v := .ref (q 3)) 0 S hK I cl_X6 rfl wf_X6_33 (by decide) rfl rfl rfl dX6_weighSets_56 ?_
            refine lv_iload_n S.1 S.2.1 dX6_weighSets_59 rfl (lv_at hl 3 rfl) ?_
            refine cV (np := 1) (ci := 4) (q0 := 3) (As := [.int (nI se)]) (rest := [.int (nI se), .ref (q 15)]) S (x_isSound l D cy q (va_up (va_up (va_up K 4 z4) 5 z5) 6 z6) (va_up (va_up (va_up (va_up (va_up (va_up (va_up (va_up C 9 z9) 10 z10) 11 z11) 14 z14) 15 r15) 16 (upd r16 se (bI (decide (nI (haF R se (N 17)) ≤ hn))))) 18 r18) 19 r19) O L f N R se hW (RelM_pl0 hrm) hC5) hK hA I wm_X6_51 wi_X4_isSound ws_X4_X4_isSound wn_X4 wk_X4_isSound ⟨rfl, hd_X4_isSound⟩ rfl ⟨by decide, by decide⟩ rfl rfl hl.1 rfl (Nat.le_of_ble_eq_true rfl) dX6_weighSets_60 ⟨by decide, by decide⟩ (fun v_ u_ H locs h_ I => ?_)
            obtain rfl := h_
            generalize u_ = f14_60 at I
            have I : IX D A s.heap (wX cy q (va_up (va_up (va_up K 4 z4) 5 z5) 6 z6) (va_up (va_up (va_up (va_up (va_up (va_up (va_up (va_up C 9 z9) 10 z10) 11 z11) 14 f14_60) 15 r15) 16 (upd r16 se (bI (decide (nI (haF R se (N 17)) ≤ hn))))) 18 r18) 19 r19) O L f) H locs := I
            refine W.eq (g2 := F0 m 63 ls [.int (bI (soB N R se)), .int (nI se), .ref (q 15)]) rfl ?_
            refine lv_if_eq (tgt := 77) S.1 S.2.1 dX6_weighSets_63 (by decide) (fun c_63 => ?_) (fun c_63 => ?_)
            · skip
              have c_63 := bI_f c_63
              refine lv_iconst (v := (-1)) S.1 S.2.1 dX6_weighSets_77 (by decide) ?_
              refine si (q0 := 15) (n := 256) (f := r15) se S hK I rfl rfl (by omega) (by decide) dX6_weighSets_78 (fun H locs I => ?_)
              have I : IX D A s.heap (wX cy q (va_up (va_up (va_up K 4 z4) 5 z5) 6 z6) (va_up (va_up (va_up (va_up (va_up (va_up (va_up (va_up C 9 z9) 10 z10) 11 z11) 14 f14_60) 15 (upd r15 se (-1))) 16 (upd r16 se (bI (decide (nI (haF R se (N 17)) ≤ hn))))) 18 r18) 19 r19) O L f) H locs := I
              refine lv_iinc (v := nI (se + 1)) (lv' := [(3, .int (nI (se + 1))), (0, .ref (q 4)), (1, .int (nI ws)), (2, .int hn)]) S.1 S.2.1 dX6_weighSets_79 hl (k := 3) rfl (nI_1 _) (by decide) rfl (fun ls hl => ?_)
              refine lv_goto (tgt := 7) S.1 S.2.1 dX6_weighSets_82 (by decide) ?_
              exact ih_7 (se + 1) (upd r15 se (-1)) (upd r16 se (bI (decide (nI (haF R se (N 17)) ≤ hn)))) z4 z5 z6 z9 z10 z11 f14_60 (by omega) (by omega) (ws_yes hrr (by rw [c_63]; rfl)) _ _ _ I (lv_sub hl [1, 2, 3, 0] rfl)
            · skip
              have c_63 := bI_t c_63
              refine lv_aload_n S.1 S.2.1 dX6_weighSets_66 rfl (lv_at hl 0 rfl) ?_
              refine rg (ci := 6) (q0 := 4) (v := .ref (q 3)) 0 S hK I cl_X6 rfl wf_X6_33 (by decide) rfl rfl rfl dX6_weighSets_67 ?_
              refine lv_iload_n S.1 S.2.1 dX6_weighSets_70 rfl (lv_at hl 3 rfl) ?_
              refine cV (np := 1) (ci := 4) (q0 := 3) (As := [.int (nI se)]) (rest := [.int (nI se), .ref (q 15)]) S (x_riskAfter l D cy q (va_up (va_up (va_up K 4 z4) 5 z5) 6 z6) (va_up (va_up (va_up (va_up (va_up (va_up (va_up (va_up C 9 z9) 10 z10) 11 z11) 14 f14_60) 15 r15) 16 (upd r16 se (bI (decide (nI (haF R se (N 17)) ≤ hn))))) 18 r18) 19 r19) O L f N R se hW (RelN_pl0 hrel) (RelM_pl0 hrm) (RelG_pl0 hrg)) hK hA I wm_X6_57 wi_X4_riskAfter ws_X4_X4_riskAfter wn_X4 wk_X4_riskAfter ⟨rfl, hd_X4_riskAfter⟩ rfl ⟨by decide, by decide⟩ rfl rfl hl.1 rfl (Nat.le_of_ble_eq_true rfl) dX6_weighSets_71 ⟨by decide, by decide⟩ (fun v_ u_ H locs h_ I => ?_)
              obtain rfl := h_
              obtain ⟨v4_71, v5_71, v6_71, v9_71, v10_71, v11_71, v14_71⟩ := u_
              have I : IX D A s.heap (wX cy q (va_up (va_up (va_up K 4 v4_71) 5 v5_71) 6 v6_71) (va_up (va_up (va_up (va_up (va_up (va_up (va_up (va_up C 9 v9_71) 10 v10_71) 11 v11_71) 14 v14_71) 15 r15) 16 (upd r16 se (bI (decide (nI (haF R se (N 17)) ≤ hn))))) 18 r18) 19 r19) O L f) H locs := I
              refine W.eq (g2 := F0 m 74 ls [.int (nI (rsk N R (vtF R se (N 17)))), .int (nI se), .ref (q 15)]) rfl ?_
              refine lv_goto (tgt := 78) S.1 S.2.1 dX6_weighSets_74 (by decide) ?_
              refine si (q0 := 15) (n := 256) (f := r15) se S hK I rfl rfl (by omega) (by decide) dX6_weighSets_78 (fun H locs I => ?_)
              have I : IX D A s.heap (wX cy q (va_up (va_up (va_up K 4 v4_71) 5 v5_71) 6 v6_71) (va_up (va_up (va_up (va_up (va_up (va_up (va_up (va_up C 9 v9_71) 10 v10_71) 11 v11_71) 14 v14_71) 15 (upd r15 se (nI (rsk N R (vtF R se (N 17)))))) 16 (upd r16 se (bI (decide (nI (haF R se (N 17)) ≤ hn))))) 18 r18) 19 r19) O L f) H locs := I
              refine lv_iinc (v := nI (se + 1)) (lv' := [(3, .int (nI (se + 1))), (0, .ref (q 4)), (1, .int (nI ws)), (2, .int hn)]) S.1 S.2.1 dX6_weighSets_79 hl (k := 3) rfl (nI_1 _) (by decide) rfl (fun ls hl => ?_)
              refine lv_goto (tgt := 7) S.1 S.2.1 dX6_weighSets_82 (by decide) ?_
              exact ih_7 (se + 1) (upd r15 se (nI (rsk N R (vtF R se (N 17))))) (upd r16 se (bI (decide (nI (haF R se (N 17)) ≤ hn)))) v4_71 v5_71 v6_71 v9_71 v10_71 v11_71 v14_71 (by omega) (by omega) (ws_yes hrr (by rw [c_63]; rfl)) _ _ _ I (lv_sub hl [1, 2, 3, 0] rfl)
          refine lv_icmp_gt (tgt := 48) S.1 S.2.1 dX6_weighSets_41 (by decide) (fun c_41 => ?_) (fun c_41 => ?_)
          · skip
            refine lv_iconst (v := nI 0) S.1 S.2.1 dX6_weighSets_48 (by decide) ?_
            refine tI (y := bI (decide (nI (haF R se (N 17)) ≤ hn))) (bI_0 (decide_eq_false (fa_of_lt c_41).2.1)) ?_
            exact join_49 ()  _ _ _ I (lv_sub hl [0, 1, 2, 3] rfl)
          · skip
            refine lv_iconst (v := nI 1) S.1 S.2.1 dX6_weighSets_44 (by decide) ?_
            refine lv_goto (tgt := 49) S.1 S.2.1 dX6_weighSets_45 (by decide) ?_
            refine tI (y := bI (decide (nI (haF R se (N 17)) ≤ hn))) (bI_1 (decide_eq_true (fa_of_nlt c_41))) ?_
            exact join_49 ()  _ _ _ I (lv_sub hl [0, 1, 2, 3] rfl)
        · skip
          have c_24o := c_24
          have c_24 := nI_zeqF (by omega) c_24
          refine lv_goto (tgt := 79) S.1 S.2.1 dX6_weighSets_27 (by decide) ?_
          refine lv_iinc (v := nI (se + 1)) (lv' := [(3, .int (nI (se + 1))), (0, .ref (q 4)), (1, .int (nI ws)), (2, .int hn)]) S.1 S.2.1 dX6_weighSets_79 hl (k := 3) rfl (nI_1 _) (by decide) rfl (fun ls hl => ?_)
          refine lv_goto (tgt := 7) S.1 S.2.1 dX6_weighSets_82 (by decide) ?_
          exact ih_7 (se + 1) r15 r16 z4 z5 z6 z9 z10 z11 z14 (by omega) (by omega) (ws_no hrr (fun q => c_24 (clr_0.mpr q))) _ _ _ I (lv_sub hl [1, 2, 3, 0] rfl)
  exact loop_7 _ 0 (C 15) (C 16) (K 4) (K 5) (K 6) (C 9) (C 10) (C 11) (C 14) (Nat.lt_succ_self _) (Nat.zero_le _) (fun d hd => absurd hd (Nat.not_lt_zero d)) _ _ _ I (lv_sub hl [1, 2, 3, 0] rfl)
set_option maxHeartbeats 4000000 in
set_option maxRecDepth 100000 in
theorem x_bestSet (l : Launch) (D : va_G) (cy : Nat → ClassId) (q : Nat → Nat) (K : Nat → Nat) (C : Nat → Nat → Int32) (O : Nat → Nat → Option Nat) (L : List Nat) (f : Nat → va_E) (N : Nat → Nat) (R : Nat → Nat → Int32) (w d r ws : Nat) (hn : Int32) (hW : WFm N R) (hw : ws = w + (r + 1)) (hws : ws ≤ 6) (hh : inB hn (nI 0) (nI 99) = true) (hd2 : d < 2 ^ N 17) (hso : soB N R d = true) (hsub : sbN d (ahF N R w)) (h18 : C 18 w = nI (alF N R w)) (h15 : P15 N R ws C) (h16 : P16 N R ws hn C) (h21 : ∀ z, z < 256 → sbN z (ahF N R (w + 1)) → soB N R z = true → C (21 + (w + 1)) z = (lsF N R ws hn r z).1) : MS (α := Unit) l D cy yX6_bestSet cX6_bestSet 9 (Option.some FieldType.int) rm_X6_bestSet [.ref (q 4), .int (nI w), .int (nI d)] (wX cy q K C O L f) (fun v_ (_ : Unit) => v_ = some (.int (nI (lsF N R ws hn (r + 1) d).2))) (fun _ => wX cy q K C O L f) := by
  refine MS.mk2 (by decide) (Nat.le_of_ble_eq_true rfl) [(0, .ref (q 4)), (1, .int (nI w)), (2, .int (nI d))] rfl ?_
  intro p e s m args below meth c A ls Q hQ S hr hlk hnm hK hA I hl
  have hW0 := hW
  obtain ⟨hB, hPt, hBo, hH, hM, hQu⟩ := hW0
  have hB0 := hB
  obtain ⟨b0, b6, b17, b24, b30⟩ := hB0
  have hp2 := pow_256 b17
  have hp1 := Nat.two_pow_pos (N 17)
  have hsub1 := sb_tr hsub (ah_le (N := N) (R := R) (Nat.le_succ w))
  refine lv_aload_n S.1 S.2.1 dX6_bestSet_0 rfl (lv_at hl 0 rfl) ?_
  refine rg (ci := 6) (q0 := 4) (v := .ref (q 18)) 4 S hK I cl_X6 rfl wf_X6_24 (by decide) rfl rfl rfl dX6_bestSet_1 ?_
  refine lv_iload_n S.1 S.2.1 dX6_bestSet_4 rfl (lv_at hl 1 rfl) ?_
  refine ri (q0 := 18) (n := 6) (f := C 18) w S hK I rfl rfl (by omega) (by decide) dX6_bestSet_5 ?_
  refine tI (y := nI (alF N R w)) h18 ?_
  refine lv_iload_n S.1 S.2.1 dX6_bestSet_6 rfl (lv_at hl 2 rfl) ?_
  refine lv_iconst (v := (-1)) S.1 S.2.1 dX6_bestSet_7 (by decide) ?_
  refine lv_ixor S.1 S.2.1 dX6_bestSet_8 ?_
  refine lv_iand S.1 S.2.1 dX6_bestSet_9 ?_
  refine tI (y := nI (freF N R w d)) (clr_A _ _) ?_
  refine lv_istore_n (lv' := [(3, .int (nI (freF N R w d))), (0, .ref (q 4)), (1, .int (nI w)), (2, .int (nI d))]) S.1 S.2.1 dX6_bestSet_10 rfl hl (by decide) rfl (fun ls hl => ?_)
  refine lv_aload_n S.1 S.2.1 dX6_bestSet_11 rfl (lv_at hl 1 rfl) ?_
  refine rg (ci := 6) (q0 := 4) (v := .ref (q 17)) 3 S hK I cl_X6 rfl wf_X6_21 (by decide) rfl rfl rfl dX6_bestSet_12 ?_
  refine lv_iload_n S.1 S.2.1 dX6_bestSet_15 rfl (lv_at hl 2 rfl) ?_
  refine lv_iconst (v := nI 1) S.1 S.2.1 dX6_bestSet_16 (by decide) ?_
  refine lv_iadd S.1 S.2.1 dX6_bestSet_17 ?_
  refine tI (y := nI (w + 1)) (nI_add _ _) ?_
  refine rs S hK I rfl (show w + 1 < 7 by omega) dX6_bestSet_18 ?_
  refine lv_astore (lv' := [(4, .ref (q (21 + (w + 1)))), (3, .int (nI (freF N R w d))), (0, .ref (q 4)), (1, .int (nI w)), (2, .int (nI d))]) S.1 S.2.1 dX6_bestSet_19 hl (by decide) rfl (fun ls hl => ?_)
  refine lv_iconst (v := nI 0) S.1 S.2.1 dX6_bestSet_21 (by decide) ?_
  refine lv_istore (lv' := [(5, .int (nI 0)), (4, .ref (q (21 + (w + 1)))), (3, .int (nI (freF N R w d))), (0, .ref (q 4)), (1, .int (nI w)), (2, .int (nI d))]) S.1 S.2.1 dX6_bestSet_22 hl (by decide) rfl (fun ls hl => ?_)
  refine lv_iconst (v := nI 0) S.1 S.2.1 dX6_bestSet_24 (by decide) ?_
  refine lv_istore (lv' := [(6, .int (nI 0)), (5, .int (nI 0)), (4, .ref (q (21 + (w + 1)))), (3, .int (nI (freF N R w d))), (0, .ref (q 4)), (1, .int (nI w)), (2, .int (nI d))]) S.1 S.2.1 dX6_bestSet_25 hl (by decide) rfl (fun ls hl => ?_)
  refine lv_iconst (v := nI 0) S.1 S.2.1 dX6_bestSet_27 (by decide) ?_
  refine lv_istore (lv' := [(7, .int (nI 0)), (6, .int (nI 0)), (5, .int (nI 0)), (4, .ref (q (21 + (w + 1)))), (3, .int (nI (freF N R w d))), (0, .ref (q 4)), (1, .int (nI w)), (2, .int (nI d))]) S.1 S.2.1 dX6_bestSet_28 hl (by decide) rfl (fun ls hl => ?_)
  have loop_30 : ∀ (k_ : Nat) (t : Nat) (se : Nat) (be : Nat), 256 - t < k_ → t ≤ se → se < 2 ^ N 17 → sbN se (freF N R w d) → be = (bsF N R w hn (fun z => (lsF N R ws hn r z).1) d se).2 → ∀ (H : Heap) (locs : List Loc) (ls : Array Slot), IX D A s.heap (wX cy q K C O L f) H locs → lv_has ls 9 [(0, .ref (q 4)), (1, .int (nI w)), (2, .int (nI d)), (3, .int (nI (freF N R w d))), (4, .ref (q (21 + (w + 1)))), (5, .int (nI be)), (6, .int (nI se)), (7, .int (nI t))] → W p l e rm_X6_bestSet s m args below meth c H locs 0 0 Q (F0 m 30 ls []) := by
    intro k_
    induction k_ with
    | zero => intro t se be hm_; exact absurd hm_ (Nat.not_lt_zero _)
    | succ k_ ih_30 =>
      intro t se be hm_ hts hse hsb hbe H locs ls I hl
      have hfa := bst_fact (ws := ws) (r := r) (w := w) (se := se) hPt hB hh (by omega) hd2 hso hse
      rw [← hbe] at hfa
      have hsa := sb_or hsub1 (fre_ah hsb)
      have hor := or_lt2 hd2 hse
      have hor2 := or_lt2 hd2 hfa.1
      have hsa2 := sb_or hsub1 (fre_ah hfa.2.2)
      refine lv_iload S.1 S.2.1 dX6_bestSet_30 (lv_at hl 7 rfl) ?_
      refine lv_sipush (v := nI 256) S.1 S.2.1 dX6_bestSet_32 (by decide) ?_
      refine lv_icmp_ge (tgt := 106) S.1 S.2.1 dX6_bestSet_35 (by decide) (fun c_35 => ?_) (fun c_35 => ?_)
      · skip
        exact absurd c_35 (fun q => by have := (nI_leI (by omega) (by omega)).mp q; omega)
      · skip
        have c_35o := c_35
        have c_35 := nI_cgeF (by omega) (by omega) c_35
        refine lv_iload_n S.1 S.2.1 dX6_bestSet_38 rfl (lv_at hl 2 rfl) ?_
        refine lv_iload S.1 S.2.1 dX6_bestSet_39 (lv_at hl 6 rfl) ?_
        refine lv_ior S.1 S.2.1 dX6_bestSet_41 ?_
        refine tI (y := nI (d ||| se)) (fa_or _ _) ?_
        refine lv_istore (lv' := [(8, .int (nI (d ||| se))), (0, .ref (q 4)), (1, .int (nI w)), (2, .int (nI d)), (3, .int (nI (freF N R w d))), (4, .ref (q (21 + (w + 1)))), (5, .int (nI be)), (6, .int (nI se)), (7, .int (nI t))]) S.1 S.2.1 dX6_bestSet_42 hl (by decide) rfl (fun ls hl => ?_)
        refine lv_aload_n S.1 S.2.1 dX6_bestSet_44 rfl (lv_at hl 1 rfl) ?_
        refine rg (ci := 6) (q0 := 4) (v := .ref (q 16)) 2 S hK I cl_X6 rfl wf_X6_15 (by decide) rfl rfl rfl dX6_bestSet_45 ?_
        refine lv_iload S.1 S.2.1 dX6_bestSet_48 (lv_at hl 7 rfl) ?_
        refine rz (q0 := 16) (n := 256) (f := C 16) se S hK I rfl rfl (by omega) (by decide) dX6_bestSet_50 ?_
        refine tI (y := bI (decide (nI (haF R se (N 17)) ≤ hn))) (h16 se (by omega) (sb_tr (fre_ah hsb) (ah_le (by omega)))) ?_
        refine lv_if_eq (tgt := 84) S.1 S.2.1 dX6_bestSet_51 (by decide) (fun c_51 => ?_) (fun c_51 => ?_)
        · skip
          have c_51 := bI_f c_51
          refine lv_iload S.1 S.2.1 dX6_bestSet_84 (lv_at hl 7 rfl) ?_
          refine lv_iload_n S.1 S.2.1 dX6_bestSet_86 rfl (lv_at hl 4 rfl) ?_
          refine lv_isub S.1 S.2.1 dX6_bestSet_87 ?_
          refine lv_iload_n S.1 S.2.1 dX6_bestSet_88 rfl (lv_at hl 4 rfl) ?_
          refine lv_iand S.1 S.2.1 dX6_bestSet_89 ?_
          refine tI (y := nI (nxs se (freF N R w d))) (nxs_I (by omega) (by have := fre_lt (N := N) (R := R) (w := w) (d := d); omega)) ?_
          refine lv_istore (lv' := [(6, .int (nI (nxs se (freF N R w d)))), (8, .int (nI (d ||| se))), (0, .ref (q 4)), (1, .int (nI w)), (2, .int (nI d)), (3, .int (nI (freF N R w d))), (4, .ref (q (21 + (w + 1)))), (5, .int (nI be)), (7, .int (nI t))]) S.1 S.2.1 dX6_bestSet_90 hl (by decide) rfl (fun ls hl => ?_)
          refine lv_iload S.1 S.2.1 dX6_bestSet_92 (lv_at hl 0 rfl) ?_
          have hnl : nxs se (freF N R w d) ≤ freF N R w d := Nat.and_le_right
          have hfl := fre_lt (N := N) (R := R) (w := w) (d := d)
          refine lv_if_ne (tgt := 100) S.1 S.2.1 dX6_bestSet_94 (by decide) (fun c_94 => ?_) (fun c_94 => ?_)
          · skip
            have c_94o := c_94
            have c_94 := nI_zneT (by omega) c_94
            have hnx := bst_next (ws := ws) (r := r) (hd := hn) hp2 hsb c_94
            refine lv_iinc (v := nI (t + 1)) (lv' := [(7, .int (nI (t + 1))), (6, .int (nI (nxs se (freF N R w d)))), (8, .int (nI (d ||| se))), (0, .ref (q 4)), (1, .int (nI w)), (2, .int (nI d)), (3, .int (nI (freF N R w d))), (4, .ref (q (21 + (w + 1)))), (5, .int (nI be))]) S.1 S.2.1 dX6_bestSet_100 hl (k := 8) rfl (nI_1 _) (by decide) rfl (fun ls hl => ?_)
            refine lv_goto (tgt := 30) S.1 S.2.1 dX6_bestSet_103 (by decide) ?_
            exact ih_30 (t + 1) (nxs se (freF N R w d)) be (by omega) (by omega) hnx.2.2.1 hnx.2.2.2 (by rw [hnx.1, bst_step hPt hB hh (by omega) hd2 hso (by omega) hsb, ← hbe]; rw [if_neg (fun z => by rw [c_51] at z; exact Bool.false_ne_true z.1)]) _ _ _ I (lv_sub hl [3, 4, 5, 6, 7, 8, 1, 0] rfl)
          · skip
            have c_94o := c_94
            have c_94 := nI_zneF (by omega) c_94
            refine lv_goto (tgt := 106) S.1 S.2.1 dX6_bestSet_97 (by decide) ?_
            refine lv_iload S.1 S.2.1 dX6_bestSet_106 (lv_at hl 7 rfl) ?_
            exact ru_i hQ S hr hlk (u := ()) I (congrArg (fun z => some (Value.int z)) (by rw [bst_end hp2 hsb c_94 hw, bst_step hPt hB hh (by omega) hd2 hso (by omega) hsb, ← hbe, if_neg (fun z => by rw [c_51] at z; exact Bool.false_ne_true z.1)])) dX6_bestSet_108
        · skip
          have c_51 := bI_t c_51
          refine lv_aload_n S.1 S.2.1 dX6_bestSet_54 rfl (lv_at hl 1 rfl) ?_
          refine rg (ci := 6) (q0 := 4) (v := .ref (q 15)) 1 S hK I cl_X6 rfl wf_X6_9 (by decide) rfl rfl rfl dX6_bestSet_55 ?_
          refine lv_iload S.1 S.2.1 dX6_bestSet_58 (lv_at hl 0 rfl) ?_
          refine ri (q0 := 15) (n := 256) (f := C 15) (d ||| se) S hK I rfl rfl (by omega) (by decide) dX6_bestSet_60 ?_
          refine tI (y := if soB N R (d ||| se) = true then nI (rk N R (d ||| se)) else -1) (h15 _ (by omega) (sb_tr hsa (ah_le (by omega)))) ?_
          refine lv_iconst (v := (-1)) S.1 S.2.1 dX6_bestSet_61 (by decide) ?_
          refine lv_icmp_eq (tgt := 84) S.1 S.2.1 dX6_bestSet_62 (by decide) (fun c_62 => ?_) (fun c_62 => ?_)
          · skip
            have hso0 : soB N R (d ||| se) = false := by cases e9 : soB N R (d ||| se) with | false => rfl | true => rw [e9, if_pos rfl] at c_62; exact absurd c_62 (nI_m1 (Nat.lt_of_le_of_lt (rsk_le hPt hB) (by decide)))
            refine lv_iload S.1 S.2.1 dX6_bestSet_84 (lv_at hl 7 rfl) ?_
            refine lv_iload_n S.1 S.2.1 dX6_bestSet_86 rfl (lv_at hl 4 rfl) ?_
            refine lv_isub S.1 S.2.1 dX6_bestSet_87 ?_
            refine lv_iload_n S.1 S.2.1 dX6_bestSet_88 rfl (lv_at hl 4 rfl) ?_
            refine lv_iand S.1 S.2.1 dX6_bestSet_89 ?_
            refine tI (y := nI (nxs se (freF N R w d))) (nxs_I (by omega) (by have := fre_lt (N := N) (R := R) (w := w) (d := d); omega)) ?_
            refine lv_istore (lv' := [(6, .int (nI (nxs se (freF N R w d)))), (8, .int (nI (d ||| se))), (0, .ref (q 4)), (1, .int (nI w)), (2, .int (nI d)), (3, .int (nI (freF N R w d))), (4, .ref (q (21 + (w + 1)))), (5, .int (nI be)), (7, .int (nI t))]) S.1 S.2.1 dX6_bestSet_90 hl (by decide) rfl (fun ls hl => ?_)
            refine lv_iload S.1 S.2.1 dX6_bestSet_92 (lv_at hl 0 rfl) ?_
            have hnl : nxs se (freF N R w d) ≤ freF N R w d := Nat.and_le_right
            have hfl := fre_lt (N := N) (R := R) (w := w) (d := d)
            refine lv_if_ne (tgt := 100) S.1 S.2.1 dX6_bestSet_94 (by decide) (fun c_94 => ?_) (fun c_94 => ?_)
            · skip
              have c_94o := c_94
              have c_94 := nI_zneT (by omega) c_94
              have hnx := bst_next (ws := ws) (r := r) (hd := hn) hp2 hsb c_94
              refine lv_iinc (v := nI (t + 1)) (lv' := [(7, .int (nI (t + 1))), (6, .int (nI (nxs se (freF N R w d)))), (8, .int (nI (d ||| se))), (0, .ref (q 4)), (1, .int (nI w)), (2, .int (nI d)), (3, .int (nI (freF N R w d))), (4, .ref (q (21 + (w + 1)))), (5, .int (nI be))]) S.1 S.2.1 dX6_bestSet_100 hl (k := 8) rfl (nI_1 _) (by decide) rfl (fun ls hl => ?_)
              refine lv_goto (tgt := 30) S.1 S.2.1 dX6_bestSet_103 (by decide) ?_
              exact ih_30 (t + 1) (nxs se (freF N R w d)) be (by omega) (by omega) hnx.2.2.1 hnx.2.2.2 (by rw [hnx.1, bst_step hPt hB hh (by omega) hd2 hso (by omega) hsb, ← hbe]; rw [if_neg (fun z => by rw [hso0] at z; exact Bool.false_ne_true z.2.1)]) _ _ _ I (lv_sub hl [3, 4, 5, 6, 7, 8, 1, 0] rfl)
            · skip
              have c_94o := c_94
              have c_94 := nI_zneF (by omega) c_94
              refine lv_goto (tgt := 106) S.1 S.2.1 dX6_bestSet_97 (by decide) ?_
              refine lv_iload S.1 S.2.1 dX6_bestSet_106 (lv_at hl 7 rfl) ?_
              exact ru_i hQ S hr hlk (u := ()) I (congrArg (fun z => some (Value.int z)) (by rw [bst_end hp2 hsb c_94 hw, bst_step hPt hB hh (by omega) hd2 hso (by omega) hsb, ← hbe, if_neg (fun z => by rw [hso0] at z; exact Bool.false_ne_true z.2.1)])) dX6_bestSet_108
          · skip
            have hso1 : soB N R (d ||| se) = true := by cases e9 : soB N R (d ||| se) with | true => rfl | false => rw [e9, if_neg Bool.false_ne_true] at c_62; exact absurd rfl c_62
            refine lv_aload S.1 S.2.1 dX6_bestSet_65 (lv_at hl 5 rfl) ?_
            refine lv_iload S.1 S.2.1 dX6_bestSet_67 (lv_at hl 0 rfl) ?_
            refine ri (q0 := 21 + (w + 1)) (n := 256) (f := C (21 + (w + 1))) (d ||| se) S hK I (wXs (by omega)) rfl (by omega) (by decide) dX6_bestSet_69 ?_
            refine tI (y := (lsF N R ws hn r (d ||| se)).1) (h21 _ (by omega) hsa hso1) ?_
            refine lv_aload S.1 S.2.1 dX6_bestSet_70 (lv_at hl 5 rfl) ?_
            refine lv_iload_n S.1 S.2.1 dX6_bestSet_72 rfl (lv_at hl 3 rfl) ?_
            refine lv_iload S.1 S.2.1 dX6_bestSet_73 (lv_at hl 6 rfl) ?_
            refine lv_ior S.1 S.2.1 dX6_bestSet_75 ?_
            refine tI (y := nI (d ||| be)) (fa_or _ _) ?_
            refine ri (q0 := 21 + (w + 1)) (n := 256) (f := C (21 + (w + 1))) (d ||| be) S hK I (wXs (by omega)) rfl (by omega) (by decide) dX6_bestSet_76 ?_
            refine tI (y := (lsF N R ws hn r (d ||| be)).1) (h21 _ (by omega) hsa2 hfa.2.1) ?_
            refine lv_icmp_ge (tgt := 84) S.1 S.2.1 dX6_bestSet_77 (by decide) (fun c_77 => ?_) (fun c_77 => ?_)
            · skip
              refine lv_iload S.1 S.2.1 dX6_bestSet_84 (lv_at hl 7 rfl) ?_
              refine lv_iload_n S.1 S.2.1 dX6_bestSet_86 rfl (lv_at hl 4 rfl) ?_
              refine lv_isub S.1 S.2.1 dX6_bestSet_87 ?_
              refine lv_iload_n S.1 S.2.1 dX6_bestSet_88 rfl (lv_at hl 4 rfl) ?_
              refine lv_iand S.1 S.2.1 dX6_bestSet_89 ?_
              refine tI (y := nI (nxs se (freF N R w d))) (nxs_I (by omega) (by have := fre_lt (N := N) (R := R) (w := w) (d := d); omega)) ?_
              refine lv_istore (lv' := [(6, .int (nI (nxs se (freF N R w d)))), (8, .int (nI (d ||| se))), (0, .ref (q 4)), (1, .int (nI w)), (2, .int (nI d)), (3, .int (nI (freF N R w d))), (4, .ref (q (21 + (w + 1)))), (5, .int (nI be)), (7, .int (nI t))]) S.1 S.2.1 dX6_bestSet_90 hl (by decide) rfl (fun ls hl => ?_)
              refine lv_iload S.1 S.2.1 dX6_bestSet_92 (lv_at hl 0 rfl) ?_
              have hnl : nxs se (freF N R w d) ≤ freF N R w d := Nat.and_le_right
              have hfl := fre_lt (N := N) (R := R) (w := w) (d := d)
              refine lv_if_ne (tgt := 100) S.1 S.2.1 dX6_bestSet_94 (by decide) (fun c_94 => ?_) (fun c_94 => ?_)
              · skip
                have c_94o := c_94
                have c_94 := nI_zneT (by omega) c_94
                have hnx := bst_next (ws := ws) (r := r) (hd := hn) hp2 hsb c_94
                refine lv_iinc (v := nI (t + 1)) (lv' := [(7, .int (nI (t + 1))), (6, .int (nI (nxs se (freF N R w d)))), (8, .int (nI (d ||| se))), (0, .ref (q 4)), (1, .int (nI w)), (2, .int (nI d)), (3, .int (nI (freF N R w d))), (4, .ref (q (21 + (w + 1)))), (5, .int (nI be))]) S.1 S.2.1 dX6_bestSet_100 hl (k := 8) rfl (nI_1 _) (by decide) rfl (fun ls hl => ?_)
                refine lv_goto (tgt := 30) S.1 S.2.1 dX6_bestSet_103 (by decide) ?_
                exact ih_30 (t + 1) (nxs se (freF N R w d)) be (by omega) (by omega) hnx.2.2.1 hnx.2.2.2 (by rw [hnx.1, bst_step hPt hB hh (by omega) hd2 hso (by omega) hsb, ← hbe]; rw [if_neg (fun z => (fa_of_lt z.2.2).2.1 c_77)]) _ _ _ I (lv_sub hl [3, 4, 5, 6, 7, 8, 1, 0] rfl)
              · skip
                have c_94o := c_94
                have c_94 := nI_zneF (by omega) c_94
                refine lv_goto (tgt := 106) S.1 S.2.1 dX6_bestSet_97 (by decide) ?_
                refine lv_iload S.1 S.2.1 dX6_bestSet_106 (lv_at hl 7 rfl) ?_
                exact ru_i hQ S hr hlk (u := ()) I (congrArg (fun z => some (Value.int z)) (by rw [bst_end hp2 hsb c_94 hw, bst_step hPt hB hh (by omega) hd2 hso (by omega) hsb, ← hbe, if_neg (fun z => (fa_of_lt z.2.2).2.1 c_77)])) dX6_bestSet_108
            · skip
              refine lv_iload S.1 S.2.1 dX6_bestSet_80 (lv_at hl 7 rfl) ?_
              refine lv_istore (lv' := [(5, .int (nI se)), (8, .int (nI (d ||| se))), (0, .ref (q 4)), (1, .int (nI w)), (2, .int (nI d)), (3, .int (nI (freF N R w d))), (4, .ref (q (21 + (w + 1)))), (6, .int (nI se)), (7, .int (nI t))]) S.1 S.2.1 dX6_bestSet_82 hl (by decide) rfl (fun ls hl => ?_)
              refine lv_iload S.1 S.2.1 dX6_bestSet_84 (lv_at hl 7 rfl) ?_
              refine lv_iload_n S.1 S.2.1 dX6_bestSet_86 rfl (lv_at hl 5 rfl) ?_
              refine lv_isub S.1 S.2.1 dX6_bestSet_87 ?_
              refine lv_iload_n S.1 S.2.1 dX6_bestSet_88 rfl (lv_at hl 5 rfl) ?_
              refine lv_iand S.1 S.2.1 dX6_bestSet_89 ?_
              refine tI (y := nI (nxs se (freF N R w d))) (nxs_I (by omega) (by have := fre_lt (N := N) (R := R) (w := w) (d := d); omega)) ?_
              refine lv_istore (lv' := [(6, .int (nI (nxs se (freF N R w d)))), (5, .int (nI se)), (8, .int (nI (d ||| se))), (0, .ref (q 4)), (1, .int (nI w)), (2, .int (nI d)), (3, .int (nI (freF N R w d))), (4, .ref (q (21 + (w + 1)))), (7, .int (nI t))]) S.1 S.2.1 dX6_bestSet_90 hl (by decide) rfl (fun ls hl => ?_)
              refine lv_iload S.1 S.2.1 dX6_bestSet_92 (lv_at hl 0 rfl) ?_
              have hnl : nxs se (freF N R w d) ≤ freF N R w d := Nat.and_le_right
              have hfl := fre_lt (N := N) (R := R) (w := w) (d := d)
              refine lv_if_ne (tgt := 100) S.1 S.2.1 dX6_bestSet_94 (by decide) (fun c_94 => ?_) (fun c_94 => ?_)
              · skip
                have c_94o := c_94
                have c_94 := nI_zneT (by omega) c_94
                have hnx := bst_next (ws := ws) (r := r) (hd := hn) hp2 hsb c_94
                refine lv_iinc (v := nI (t + 1)) (lv' := [(7, .int (nI (t + 1))), (6, .int (nI (nxs se (freF N R w d)))), (5, .int (nI se)), (8, .int (nI (d ||| se))), (0, .ref (q 4)), (1, .int (nI w)), (2, .int (nI d)), (3, .int (nI (freF N R w d))), (4, .ref (q (21 + (w + 1))))]) S.1 S.2.1 dX6_bestSet_100 hl (k := 8) rfl (nI_1 _) (by decide) rfl (fun ls hl => ?_)
                refine lv_goto (tgt := 30) S.1 S.2.1 dX6_bestSet_103 (by decide) ?_
                exact ih_30 (t + 1) (nxs se (freF N R w d)) se (by omega) (by omega) hnx.2.2.1 hnx.2.2.2 (by rw [hnx.1, bst_step hPt hB hh (by omega) hd2 hso (by omega) hsb, ← hbe]; rw [if_pos ⟨c_51, hso1, fa_of_nle c_77⟩]) _ _ _ I (lv_sub hl [4, 5, 6, 7, 8, 2, 1, 0] rfl)
              · skip
                have c_94o := c_94
                have c_94 := nI_zneF (by omega) c_94
                refine lv_goto (tgt := 106) S.1 S.2.1 dX6_bestSet_97 (by decide) ?_
                refine lv_iload S.1 S.2.1 dX6_bestSet_106 (lv_at hl 1 rfl) ?_
                exact ru_i hQ S hr hlk (u := ()) I (congrArg (fun z => some (Value.int z)) (by rw [bst_end hp2 hsb c_94 hw, bst_step hPt hB hh (by omega) hd2 hso (by omega) hsb, ← hbe, if_pos ⟨c_51, hso1, fa_of_nle c_77⟩])) dX6_bestSet_108
  exact loop_30 _ 0 0 0 (Nat.lt_succ_self _) (Nat.le_refl 0) (Nat.two_pow_pos _) (sb_0 _) rfl _ _ _ I (lv_sub hl [5, 6, 7, 4, 3, 2, 1, 0] rfl)
