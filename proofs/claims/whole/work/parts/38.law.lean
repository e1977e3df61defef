/-! THE CLAIM OUT OF ONE WALK OF THE LAW'S BODY. Your part is whole_start (and what it stands on); all else here is the same for every law, but numbers. -/
def R_law : String := "MendDeskLaw"
def lw_P (b : Addr) (xs : List Int32) (args : Array Value) (s : State) : Prop := args = #[.ref b] ∧ s.IntsAt b xs ∧ xs.length ≤ 3584 ∧ (Jvm.Cond.and given_1 narrow_1).before args s = true
def lw_Q (_ : Array Value) (s : State) (o : Outcome) (t : State) : Prop := o = .returned (some (.int 1)) ∧ Framed s o t [] 600000 7302249
def lw_Z (below : List Frame) (a : Array Value) (s : State) : State → Prop := fun t => ∃ o, t.status = .running ∧ Ended t below o ∧ lw_Q a s o t
/-- the law's own end, with 1 on the stack, nothing written that was there before, its room as the claim has it -/
theorem lw_ret {p : Program} {l : Launch} {e : Env} {s : State} {m : MethodId} {below : List Frame} {meth : Method} {c : Code} {b : Nat} (hx : p.tables.exec = Jvm.exec) (hb : c.code = code) (hr : meth.sig.returnType = ret) (hlocks : meth.locks = false) {pc : Nat} {H : Heap} {ls : Array Slot} (hdg : decode code pc = .ok (.ireturn, 1)) : W p l e room_1 s m #[Value.ref b] below meth c H [] 600000 7302249 (lw_Z below #[Value.ref b] s) (F0 m pc ls [.int 1]) := by
  intro T hT X
  obtain ⟨fs, hret, hrun, hended, hW, hframe⟩ := X.leave (v := some (.int 1)) (hlocks := hlocks) (fun h => by rw [hr] at h; cases h)
  have hmeth' : T.vm.method? m = some meth := X.method'
  refine ⟨T.setFrames fs, ?_, .returned (some (.int 1)), hrun, hended, rfl, ⟨_, rfl⟩, hW, hframe⟩
  jvm_step X.here [X.here.top, hx, hb, hdg, hmeth', hr, ret, narrow_b1]
  (try refine ⟨rfl, ?_⟩); (try refine ⟨rfl, ?_⟩)
  first | (intro acts; rw [hret _ acts rfl rfl rfl]) | rw [hret _ _ rfl rfl rfl]
  exact Steps.refl _
/-- what holds at the law's entry: the machine, the code, the tables' words (any of lw_tbl by 'hts w (by decide +kernel)'), the script of L ints xs at the cell b, what the Statement gives of the start (any of its parts by flat_of_before) -/
def lw_At (p : Program) (s : State) (m : MethodId) (meth : Method) (c : Code) (b L : Nat) (xs : Nat → Int32) : Prop :=
  p.tables.exec = Jvm.exec ∧ c.code = code ∧ meth.sig.returnType = ret ∧ c.maxLocals = 4 ∧ s.vm.findClass R_law = some m.cls ∧ (∀ w ∈ lw_tbl, w.before #[Value.ref b] s = true) ∧ va_X b L xs s s.heap ∧ b < s.heap.size ∧ meth.locks = false ∧ (Jvm.Cond.and given_1 narrow_1).before #[Value.ref b] s = true
section LAW
variable {p : Program} {l : Launch} {e : Env} {s : State} {m : MethodId} {args : Array Value} {below : List Frame} {meth : Method} {c : Code} {H : Heap} {locs : List Loc} {cells slots : Nat} {Q : State → Prop} {ls : Array Slot} {rest : List Value} {D : va_G} {cy : Nat → ClassId} {A : Nat → Prop} {b Ln i n : Nat} {xs : Nat → Int32} {q1 q2 : Nat → Nat}
variable {K : Nat → Nat} {C : Nat → Nat → Int32} {O : Nat → Nat → Option Nat} {L : List Nat} {f : Nat → va_E} {N : Nat → Nat} {R X : Nat → Nat → Int32}
/-- an int of the script -/
theorem rS {R : Room} {cc : ByteArray} {nL pc k : Nat} {Ts : List Cond} {own : String} {ws : va_W} (S : CallFix p m c cc nL s args Ts own) (hX : va_X b Ln xs s s.heap) (hbl : b < s.heap.size) (hbA : ¬ A b) (I : IX D A s.heap ws H locs) (hk : k < Ln) (hL : Ln ≤ 3584) (hdg : decode cc pc = .ok (.iaload, 1)) (kk : W p l e R s m args below meth c H locs cells slots Q (F0 m (pc + 1) ls (.int (xs k) :: rest))) : W p l e R s m args below meth c H locs cells slots Q (F0 m pc ls (.int (nI k) :: .ref b :: rest)) := by
  refine va_sld S.1 S.2.1 hX hbl hbA I.2.2 (vp_in_nI hk (by omega)) hdg ?_
  rw [nI_clamp (by omega)]
  exact kk
set_option maxHeartbeats 4000000 in
set_option maxRecDepth 100000 in
theorem lw_k0 (S : CallFix p m c code 4 s args (Cond.initialized RL :: uT) RL) (hK : KX D cy s) (hA : ∀ q, s.heap.size ≤ q → A q) (I : IX D A s.heap (wX cy q1 K C O L f ++ wM cy q2 N R X) H locs) (hX : va_X b Ln xs s s.heap) (hbl : b < s.heap.size) (hbA : ¬ A b) (hi : i + 7 ≤ Ln) (hL : Ln ≤ 3584) (hc : cells ≤ 10000) (hs : slots ≤ 100000) (hn : n < 3584) (hl : lv_has ls 4 [(3, .int (nI i)), (2, .ref (q2 33)), (1, .ref (q1 0)), (0, .ref b)]) (hW : WFm N R) (h30 : N 30 ≤ n) (hrc : RelC K C O L f N R)
    (kk : ∀ (K2 : Nat → Nat) (C2 : Nat → Nat → Int32) (O2 : Nat → Nat → Option Nat) (L2 : List Nat) (f2 : Nat → va_E) (N2 : Nat → Nat) (R2 X2 : Nat → Nat → Int32) (H2 : Heap) (locs2 : List Loc), WFm N2 R2 → N2 30 ≤ n + 1 → RelC K2 C2 O2 L2 f2 N2 R2 → IX D A s.heap (wX cy q1 K2 C2 O2 L2 f2 ++ wM cy q2 N2 R2 X2) H2 locs2 → W p l e room_1 s m args below meth c H2 locs2 (cells + 1) (slots + 6) Q (F0 m 972 ls [])) : W p l e room_1 s m args below meth c H locs cells slots Q (F0 m 144 ls []) := by
  refine lv_aload_n S.1 S.2.1 dL_law_144 rfl (lv_at hl 2 rfl) ?_
  refine lv_aload_n S.1 S.2.1 dL_law_145 rfl (lv_at hl 3 rfl) ?_
  refine lv_iload_n S.1 S.2.1 dL_law_146 rfl (lv_at hl 0 rfl) ?_
  refine lv_iconst (v := nI 1) S.1 S.2.1 dL_law_147 (by decide) ?_
  refine lv_iadd S.1 S.2.1 dL_law_148 ?_
  refine tI (y := nI (i + 1)) (nI_add _ _) ?_
  refine rS (k := i + 1) S hX hbl hbA I (by omega) hL dL_law_149 ?_
  refine lv_aload_n S.1 S.2.1 dL_law_150 rfl (lv_at hl 3 rfl) ?_
  refine lv_iload_n S.1 S.2.1 dL_law_151 rfl (lv_at hl 0 rfl) ?_
  refine lv_iconst (v := nI 2) S.1 S.2.1 dL_law_152 (by decide) ?_
  refine lv_iadd S.1 S.2.1 dL_law_153 ?_
  refine tI (y := nI (i + 2)) (nI_add _ _) ?_
  refine rS (k := i + 2) S hX hbl hbA I (by omega) hL dL_law_154 ?_
  refine lv_aload_n S.1 S.2.1 dL_law_155 rfl (lv_at hl 3 rfl) ?_
  refine lv_iload_n S.1 S.2.1 dL_law_156 rfl (lv_at hl 0 rfl) ?_
  refine lv_iconst (v := nI 3) S.1 S.2.1 dL_law_157 (by decide) ?_
  refine lv_iadd S.1 S.2.1 dL_law_158 ?_
  refine tI (y := nI (i + 3)) (nI_add _ _) ?_
  refine rS (k := i + 3) S hX hbl hbA I (by omega) hL dL_law_159 ?_
  refine lv_if_eq (tgt := 167) S.1 S.2.1 dL_law_160 (by decide) (fun c_160 => ?_) (fun c_160 => ?_)
  · skip
    refine lv_iconst (v := nI 0) S.1 S.2.1 dL_law_167 (by decide) ?_
    refine cVF (np := 3) (ci := 11) (q0 := 0) (As := [.int (xs (i + 1)), .int (xs (i + 2)), .int (bI false)]) (rest := []) (w0 := wX cy q1 K C O L f) (wr := wM cy q2 N R X) S (x_part l D cy q1 K C O L f N R (xs (i + 1)) (xs (i + 2)) false hW hrc) hK hA I wm_L_13 wi_X11_part ws_X11_X11_part wn_X11 wk_X11_part ⟨rfl, hd_X11_part⟩ rfl ⟨by decide, by decide⟩ rfl rfl hl.1 rfl (Nat.le_of_ble_eq_true rfl) dL_law_168 ⟨by show cells + 0 ≤ 600000; omega, by show slots + 0 ≤ 7302249; omega⟩ (fun v_ u_ H locs h_ I => ?_)
    obtain ⟨rfl, hrc1⟩ := h_
    obtain ⟨K1, C1, O1, L1, f1⟩ := u_
    have I := IX.swap (w0 := wX cy q1 K1 C1 O1 L1 f1) (wr := wM cy q2 N R X) I
    have I : IX D A s.heap (wM cy q2 N R X ++ wX cy q1 K1 C1 O1 L1 f1) H locs := I
    refine W.eq (g2 := F0 m 171 ls [.int ((sp_part N R (xs (i + 1)) (xs (i + 2)) (bI false)).1)]) rfl ?_
    refine lv_aload_n S.1 S.2.1 dL_law_171 rfl (lv_at hl 1 rfl) ?_
    refine lv_aload_n S.1 S.2.1 dL_law_172 rfl (lv_at hl 3 rfl) ?_
    refine lv_iload_n S.1 S.2.1 dL_law_173 rfl (lv_at hl 0 rfl) ?_
    refine lv_iconst (v := nI 1) S.1 S.2.1 dL_law_174 (by decide) ?_
    refine lv_iadd S.1 S.2.1 dL_law_175 ?_
    refine tI (y := nI (i + 1)) (nI_add _ _) ?_
    refine rS (k := i + 1) S hX hbl hbA I (by omega) hL dL_law_176 ?_
    refine lv_aload_n S.1 S.2.1 dL_law_177 rfl (lv_at hl 3 rfl) ?_
    refine lv_iload_n S.1 S.2.1 dL_law_178 rfl (lv_at hl 0 rfl) ?_
    refine lv_iconst (v := nI 2) S.1 S.2.1 dL_law_179 (by decide) ?_
    refine lv_iadd S.1 S.2.1 dL_law_180 ?_
    refine tI (y := nI (i + 2)) (nI_add _ _) ?_
    refine rS (k := i + 2) S hX hbl hbA I (by omega) hL dL_law_181 ?_
    refine lv_aload_n S.1 S.2.1 dL_law_182 rfl (lv_at hl 3 rfl) ?_
    refine lv_iload_n S.1 S.2.1 dL_law_183 rfl (lv_at hl 0 rfl) ?_
    refine lv_iconst (v := nI 3) S.1 S.2.1 dL_law_184 (by decide) ?_
    refine lv_iadd S.1 S.2.1 dL_law_185 ?_
    refine tI (y := nI (i + 3)) (nI_add _ _) ?_
    refine rS (k := i + 3) S hX hbl hbA I (by omega) hL dL_law_186 ?_
    refine lv_if_eq (tgt := 194) S.1 S.2.1 dL_law_187 (by decide) (fun c_187 => ?_) (fun c_187 => ?_)
    · skip
      refine lv_iconst (v := nI 0) S.1 S.2.1 dL_law_194 (by decide) ?_
      refine cVF (np := 3) (ci := 12) (q0 := 0) (As := [.int (xs (i + 1)), .int (xs (i + 2)), .int (bI false)]) (rest := [.int ((sp_part N R (xs (i + 1)) (xs (i + 2)) (bI false)).1)]) (w0 := wM cy q2 N R X) (wr := wX cy q1 K1 C1 O1 L1 f1) S (c_part l D cy q2 N R X (xs (i + 1)) (xs (i + 2)) (bI false) (hW.1) (bI_01 _)) hK hA I wm_L_17 wi_X12_part ws_X12_X12_part wn_X12 wk_X12_part ⟨rfl, hd_X12_part⟩ rfl ⟨by decide, by decide⟩ rfl rfl hl.1 rfl (Nat.le_of_ble_eq_true rfl) dL_law_195 ⟨by show cells + 0 + 0 ≤ 600000; omega, by show slots + 0 + 0 ≤ 7302249; omega⟩ (fun v_ u_ H locs h_ I => ?_)
      obtain ⟨rfl, rfl⟩ := h_
      have I := IX.swap (w0 := wM cy q2 ((sp_part N R (xs (i + 1)) (xs (i + 2)) (bI false)).2.1) ((sp_part N R (xs (i + 1)) (xs (i + 2)) (bI false)).2.2) X) (wr := wX cy q1 K1 C1 O1 L1 f1) I
      have I : IX D A s.heap (wX cy q1 K1 C1 O1 L1 f1 ++ wM cy q2 ((sp_part N R (xs (i + 1)) (xs (i + 2)) (bI false)).2.1) ((sp_part N R (xs (i + 1)) (xs (i + 2)) (bI false)).2.2) X) H locs := I
      refine W.eq (g2 := F0 m 198 ls [.int ((sp_part N R (xs (i + 1)) (xs (i + 2)) (bI false)).1), .int ((sp_part N R (xs (i + 1)) (xs (i + 2)) (bI false)).1)]) rfl ?_
      refine lv_icmp_eq (tgt := 972) S.1 S.2.1 dL_law_198 (by decide) (fun c_198 => ?_) (fun c_198 => ?_)
      · skip
        refine W.widen (k := cells + 1) (n := slots + 6) (by show cells + 0 + 0 ≤ cells + 1; omega) (by show slots + 0 + 0 ≤ slots + 6; omega) ?_
        exact kk _ _ _ _ _ _ _ _ _ _ (WF_part (bI_01 _) hW) (by rw [n30_part]; omega) hrc1 I
      · skip
        exact absurd rfl c_198
    · skip
      exact absurd c_160 c_187
  · skip
    refine lv_iconst (v := nI 1) S.1 S.2.1 dL_law_163 (by decide) ?_
    refine lv_goto (tgt := 168) S.1 S.2.1 dL_law_164 (by decide) ?_
    refine cVF (np := 3) (ci := 11) (q0 := 0) (As := [.int (xs (i + 1)), .int (xs (i + 2)), .int (bI true)]) (rest := []) (w0 := wX cy q1 K C O L f) (wr := wM cy q2 N R X) S (x_part l D cy q1 K C O L f N R (xs (i + 1)) (xs (i + 2)) true hW hrc) hK hA I wm_L_13 wi_X11_part ws_X11_X11_part wn_X11 wk_X11_part ⟨rfl, hd_X11_part⟩ rfl ⟨by decide, by decide⟩ rfl rfl hl.1 rfl (Nat.le_of_ble_eq_true rfl) dL_law_168 ⟨by show cells + 0 ≤ 600000; omega, by show slots + 0 ≤ 7302249; omega⟩ (fun v_ u_ H locs h_ I => ?_)
    obtain ⟨rfl, hrc1⟩ := h_
    obtain ⟨K1, C1, O1, L1, f1⟩ := u_
    have I := IX.swap (w0 := wX cy q1 K1 C1 O1 L1 f1) (wr := wM cy q2 N R X) I
    have I : IX D A s.heap (wM cy q2 N R X ++ wX cy q1 K1 C1 O1 L1 f1) H locs := I
    refine W.eq (g2 := F0 m 171 ls [.int ((sp_part N R (xs (i + 1)) (xs (i + 2)) (bI true)).1)]) rfl ?_
    refine lv_aload_n S.1 S.2.1 dL_law_171 rfl (lv_at hl 1 rfl) ?_
    refine lv_aload_n S.1 S.2.1 dL_law_172 rfl (lv_at hl 3 rfl) ?_
    refine lv_iload_n S.1 S.2.1 dL_law_173 rfl (lv_at hl 0 rfl) ?_
    refine lv_iconst (v := nI 1) S.1 S.2.1 dL_law_174 (by decide) ?_
    refine lv_iadd S.1 S.2.1 dL_law_175 ?_
    refine tI (y := nI (i + 1)) (nI_add _ _) ?_
    refine rS (k := i + 1) S hX hbl hbA I (by omega) hL dL_law_176 ?_
    refine lv_aload_n S.1 S.2.1 dL_law_177 rfl (lv_at hl 3 rfl) ?_
    refine lv_iload_n S.1 S.2.1 dL_law_178 rfl (lv_at hl 0 rfl) ?_
    refine lv_iconst (v := nI 2) S.1 S.2.1 dL_law_179 (by decide) ?_
    refine lv_iadd S.1 S.2.1 dL_law_180 ?_
    refine tI (y := nI (i + 2)) (nI_add _ _) ?_
    refine rS (k := i + 2) S hX hbl hbA I (by omega) hL dL_law_181 ?_
    refine lv_aload_n S.1 S.2.1 dL_law_182 rfl (lv_at hl 3 rfl) ?_
    refine lv_iload_n S.1 S.2.1 dL_law_183 rfl (lv_at hl 0 rfl) ?_
    refine lv_iconst (v := nI 3) S.1 S.2.1 dL_law_184 (by decide) ?_
    refine lv_iadd S.1 S.2.1 dL_law_185 ?_
    refine tI (y := nI (i + 3)) (nI_add _ _) ?_
    refine rS (k := i + 3) S hX hbl hbA I (by omega) hL dL_law_186 ?_
    refine lv_if_eq (tgt := 194) S.1 S.2.1 dL_law_187 (by decide) (fun c_187 => ?_) (fun c_187 => ?_)
    · skip
      exact absurd c_187 c_160
    · skip
      refine lv_iconst (v := nI 1) S.1 S.2.1 dL_law_190 (by decide) ?_
      refine lv_goto (tgt := 195) S.1 S.2.1 dL_law_191 (by decide) ?_
      refine cVF (np := 3) (ci := 12) (q0 := 0) (As := [.int (xs (i + 1)), .int (xs (i + 2)), .int (bI true)]) (rest := [.int ((sp_part N R (xs (i + 1)) (xs (i + 2)) (bI true)).1)]) (w0 := wM cy q2 N R X) (wr := wX cy q1 K1 C1 O1 L1 f1) S (c_part l D cy q2 N R X (xs (i + 1)) (xs (i + 2)) (bI true) (hW.1) (bI_01 _)) hK hA I wm_L_17 wi_X12_part ws_X12_X12_part wn_X12 wk_X12_part ⟨rfl, hd_X12_part⟩ rfl ⟨by decide, by decide⟩ rfl rfl hl.1 rfl (Nat.le_of_ble_eq_true rfl) dL_law_195 ⟨by show cells + 0 + 0 ≤ 600000; omega, by show slots + 0 + 0 ≤ 7302249; omega⟩ (fun v_ u_ H locs h_ I => ?_)
      obtain ⟨rfl, rfl⟩ := h_
      have I := IX.swap (w0 := wM cy q2 ((sp_part N R (xs (i + 1)) (xs (i + 2)) (bI true)).2.1) ((sp_part N R (xs (i + 1)) (xs (i + 2)) (bI true)).2.2) X) (wr := wX cy q1 K1 C1 O1 L1 f1) I
      have I : IX D A s.heap (wX cy q1 K1 C1 O1 L1 f1 ++ wM cy q2 ((sp_part N R (xs (i + 1)) (xs (i + 2)) (bI true)).2.1) ((sp_part N R (xs (i + 1)) (xs (i + 2)) (bI true)).2.2) X) H locs := I
      refine W.eq (g2 := F0 m 198 ls [.int ((sp_part N R (xs (i + 1)) (xs (i + 2)) (bI true)).1), .int ((sp_part N R (xs (i + 1)) (xs (i + 2)) (bI true)).1)]) rfl ?_
      refine lv_icmp_eq (tgt := 972) S.1 S.2.1 dL_law_198 (by decide) (fun c_198 => ?_) (fun c_198 => ?_)
      · skip
        refine W.widen (k := cells + 1) (n := slots + 6) (by show cells + 0 + 0 ≤ cells + 1; omega) (by show slots + 0 + 0 ≤ slots + 6; omega) ?_
        exact kk _ _ _ _ _ _ _ _ _ _ (WF_part (bI_01 _) hW) (by rw [n30_part]; omega) hrc1 I
      · skip
        exact absurd rfl c_198
set_option maxHeartbeats 4000000 in
set_option maxRecDepth 100000 in
theorem lw_k1 (S : CallFix p m c code 4 s args (Cond.initialized RL :: uT) RL) (hK : KX D cy s) (hA : ∀ q, s.heap.size ≤ q → A q) (I : IX D A s.heap (wX cy q1 K C O L f ++ wM cy q2 N R X) H locs) (hX : va_X b Ln xs s s.heap) (hbl : b < s.heap.size) (hbA : ¬ A b) (hi : i + 7 ≤ Ln) (hL : Ln ≤ 3584) (hc : cells ≤ 10000) (hs : slots ≤ 100000) (hn : n < 3584) (hl : lv_has ls 4 [(3, .int (nI i)), (2, .ref (q2 33)), (1, .ref (q1 0)), (0, .ref b)]) (hW : WFm N R) (h30 : N 30 ≤ n) (hrc : RelC K C O L f N R)
    (kk : ∀ (K2 : Nat → Nat) (C2 : Nat → Nat → Int32) (O2 : Nat → Nat → Option Nat) (L2 : List Nat) (f2 : Nat → va_E) (N2 : Nat → Nat) (R2 X2 : Nat → Nat → Int32) (H2 : Heap) (locs2 : List Loc), WFm N2 R2 → N2 30 ≤ n + 1 → RelC K2 C2 O2 L2 f2 N2 R2 → IX D A s.heap (wX cy q1 K2 C2 O2 L2 f2 ++ wM cy q2 N2 R2 X2) H2 locs2 → W p l e room_1 s m args below meth c H2 locs2 (cells + 1) (slots + 6) Q (F0 m 972 ls [])) : W p l e room_1 s m args below meth c H locs cells slots Q (F0 m 203 ls []) := by
  refine lv_aload_n S.1 S.2.1 dL_law_203 rfl (lv_at hl 2 rfl) ?_
  refine lv_aload_n S.1 S.2.1 dL_law_204 rfl (lv_at hl 3 rfl) ?_
  refine lv_iload_n S.1 S.2.1 dL_law_205 rfl (lv_at hl 0 rfl) ?_
  refine lv_iconst (v := nI 1) S.1 S.2.1 dL_law_206 (by decide) ?_
  refine lv_iadd S.1 S.2.1 dL_law_207 ?_
  refine tI (y := nI (i + 1)) (nI_add _ _) ?_
  refine rS (k := i + 1) S hX hbl hbA I (by omega) hL dL_law_208 ?_
  refine lv_aload_n S.1 S.2.1 dL_law_209 rfl (lv_at hl 3 rfl) ?_
  refine lv_iload_n S.1 S.2.1 dL_law_210 rfl (lv_at hl 0 rfl) ?_
  refine lv_iconst (v := nI 2) S.1 S.2.1 dL_law_211 (by decide) ?_
  refine lv_iadd S.1 S.2.1 dL_law_212 ?_
  refine tI (y := nI (i + 2)) (nI_add _ _) ?_
  refine rS (k := i + 2) S hX hbl hbA I (by omega) hL dL_law_213 ?_
  refine lv_aload_n S.1 S.2.1 dL_law_214 rfl (lv_at hl 3 rfl) ?_
  refine lv_iload_n S.1 S.2.1 dL_law_215 rfl (lv_at hl 0 rfl) ?_
  refine lv_iconst (v := nI 3) S.1 S.2.1 dL_law_216 (by decide) ?_
  refine lv_iadd S.1 S.2.1 dL_law_217 ?_
  refine tI (y := nI (i + 3)) (nI_add _ _) ?_
  refine rS (k := i + 3) S hX hbl hbA I (by omega) hL dL_law_218 ?_
  refine lv_if_eq (tgt := 226) S.1 S.2.1 dL_law_219 (by decide) (fun c_219 => ?_) (fun c_219 => ?_)
  · skip
    refine lv_iconst (v := nI 0) S.1 S.2.1 dL_law_226 (by decide) ?_
    refine cVF (np := 3) (ci := 11) (q0 := 0) (As := [.int (xs (i + 1)), .int (xs (i + 2)), .int (bI false)]) (rest := []) (w0 := wX cy q1 K C O L f) (wr := wM cy q2 N R X) S (x_link l D cy q1 K C O L f N R (xs (i + 1)) (xs (i + 2)) false hW hrc) hK hA I wm_L_18 wi_X11_link ws_X11_X11_link wn_X11 wk_X11_link ⟨rfl, hd_X11_link⟩ rfl ⟨by decide, by decide⟩ rfl rfl hl.1 rfl (Nat.le_of_ble_eq_true rfl) dL_law_227 ⟨by show cells + 0 ≤ 600000; omega, by show slots + 0 ≤ 7302249; omega⟩ (fun v_ u_ H locs h_ I => ?_)
    obtain ⟨rfl, hrc1⟩ := h_
    obtain ⟨K1, C1, O1, L1, f1⟩ := u_
    have I := IX.swap (w0 := wX cy q1 K1 C1 O1 L1 f1) (wr := wM cy q2 N R X) I
    have I : IX D A s.heap (wM cy q2 N R X ++ wX cy q1 K1 C1 O1 L1 f1) H locs := I
    refine W.eq (g2 := F0 m 230 ls [.int ((sp_link N R (xs (i + 1)) (xs (i + 2)) (bI false)).1)]) rfl ?_
    refine lv_aload_n S.1 S.2.1 dL_law_230 rfl (lv_at hl 1 rfl) ?_
    refine lv_aload_n S.1 S.2.1 dL_law_231 rfl (lv_at hl 3 rfl) ?_
    refine lv_iload_n S.1 S.2.1 dL_law_232 rfl (lv_at hl 0 rfl) ?_
    refine lv_iconst (v := nI 1) S.1 S.2.1 dL_law_233 (by decide) ?_
    refine lv_iadd S.1 S.2.1 dL_law_234 ?_
    refine tI (y := nI (i + 1)) (nI_add _ _) ?_
    refine rS (k := i + 1) S hX hbl hbA I (by omega) hL dL_law_235 ?_
    refine lv_aload_n S.1 S.2.1 dL_law_236 rfl (lv_at hl 3 rfl) ?_
    refine lv_iload_n S.1 S.2.1 dL_law_237 rfl (lv_at hl 0 rfl) ?_
    refine lv_iconst (v := nI 2) S.1 S.2.1 dL_law_238 (by decide) ?_
    refine lv_iadd S.1 S.2.1 dL_law_239 ?_
    refine tI (y := nI (i + 2)) (nI_add _ _) ?_
    refine rS (k := i + 2) S hX hbl hbA I (by omega) hL dL_law_240 ?_
    refine lv_aload_n S.1 S.2.1 dL_law_241 rfl (lv_at hl 3 rfl) ?_
    refine lv_iload_n S.1 S.2.1 dL_law_242 rfl (lv_at hl 0 rfl) ?_
    refine lv_iconst (v := nI 3) S.1 S.2.1 dL_law_243 (by decide) ?_
    refine lv_iadd S.1 S.2.1 dL_law_244 ?_
    refine tI (y := nI (i + 3)) (nI_add _ _) ?_
    refine rS (k := i + 3) S hX hbl hbA I (by omega) hL dL_law_245 ?_
    refine lv_if_eq (tgt := 253) S.1 S.2.1 dL_law_246 (by decide) (fun c_246 => ?_) (fun c_246 => ?_)
    · skip
      refine lv_iconst (v := nI 0) S.1 S.2.1 dL_law_253 (by decide) ?_
      refine cVF (np := 3) (ci := 12) (q0 := 0) (As := [.int (xs (i + 1)), .int (xs (i + 2)), .int (bI false)]) (rest := [.int ((sp_link N R (xs (i + 1)) (xs (i + 2)) (bI false)).1)]) (w0 := wM cy q2 N R X) (wr := wX cy q1 K1 C1 O1 L1 f1) S (c_link l D cy q2 N R X (xs (i + 1)) (xs (i + 2)) (bI false) (hW.1) (bI_01 _)) hK hA I wm_L_21 wi_X12_link ws_X12_X12_link wn_X12 wk_X12_link ⟨rfl, hd_X12_link⟩ rfl ⟨by decide, by decide⟩ rfl rfl hl.1 rfl (Nat.le_of_ble_eq_true rfl) dL_law_254 ⟨by show cells + 0 + 0 ≤ 600000; omega, by show slots + 0 + 0 ≤ 7302249; omega⟩ (fun v_ u_ H locs h_ I => ?_)
      obtain ⟨rfl, rfl⟩ := h_
      have I := IX.swap (w0 := wM cy q2 ((sp_link N R (xs (i + 1)) (xs (i + 2)) (bI false)).2.1) ((sp_link N R (xs (i + 1)) (xs (i + 2)) (bI false)).2.2) X) (wr := wX cy q1 K1 C1 O1 L1 f1) I
      have I : IX D A s.heap (wX cy q1 K1 C1 O1 L1 f1 ++ wM cy q2 ((sp_link N R (xs (i + 1)) (xs (i + 2)) (bI false)).2.1) ((sp_link N R (xs (i + 1)) (xs (i + 2)) (bI false)).2.2) X) H locs := I
      refine W.eq (g2 := F0 m 257 ls [.int ((sp_link N R (xs (i + 1)) (xs (i + 2)) (bI false)).1), .int ((sp_link N R (xs (i + 1)) (xs (i + 2)) (bI false)).1)]) rfl ?_
      refine lv_icmp_eq (tgt := 972) S.1 S.2.1 dL_law_257 (by decide) (fun c_257 => ?_) (fun c_257 => ?_)
      · skip
        refine W.widen (k := cells + 1) (n := slots + 6) (by show cells + 0 + 0 ≤ cells + 1; omega) (by show slots + 0 + 0 ≤ slots + 6; omega) ?_
        exact kk _ _ _ _ _ _ _ _ _ _ (WF_link (bI_01 _) hW) (by rw [n30_link]; omega) hrc1 I
      · skip
        exact absurd rfl c_257
    · skip
      exact absurd c_219 c_246
  · skip
    refine lv_iconst (v := nI 1) S.1 S.2.1 dL_law_222 (by decide) ?_
    refine lv_goto (tgt := 227) S.1 S.2.1 dL_law_223 (by decide) ?_
    refine cVF (np := 3) (ci := 11) (q0 := 0) (As := [.int (xs (i + 1)), .int (xs (i + 2)), .int (bI true)]) (rest := []) (w0 := wX cy q1 K C O L f) (wr := wM cy q2 N R X) S (x_link l D cy q1 K C O L f N R (xs (i + 1)) (xs (i + 2)) true hW hrc) hK hA I wm_L_18 wi_X11_link ws_X11_X11_link wn_X11 wk_X11_link ⟨rfl, hd_X11_link⟩ rfl ⟨by decide, by decide⟩ rfl rfl hl.1 rfl (Nat.le_of_ble_eq_true rfl) dL_law_227 ⟨by show cells + 0 ≤ 600000; omega, by show slots + 0 ≤ 7302249; omega⟩ (fun v_ u_ H locs h_ I => ?_)
    obtain ⟨rfl, hrc1⟩ := h_
    obtain ⟨K1, C1, O1, L1, f1⟩ := u_
    have I := IX.swap (w0 := wX cy q1 K1 C1 O1 L1 f1) (wr := wM cy q2 N R X) I
    have I : IX D A s.heap (wM cy q2 N R X ++ wX cy q1 K1 C1 O1 L1 f1) H locs := I
    refine W.eq (g2 := F0 m 230 ls [.int ((sp_link N R (xs (i + 1)) (xs (i + 2)) (bI true)).1)]) rfl ?_
    refine lv_aload_n S.1 S.2.1 dL_law_230 rfl (lv_at hl 1 rfl) ?_
    refine lv_aload_n S.1 S.2.1 dL_law_231 rfl (lv_at hl 3 rfl) ?_
    refine lv_iload_n S.1 S.2.1 dL_law_232 rfl (lv_at hl 0 rfl) ?_
    refine lv_iconst (v := nI 1) S.1 S.2.1 dL_law_233 (by decide) ?_
    refine lv_iadd S.1 S.2.1 dL_law_234 ?_
    refine tI (y := nI (i + 1)) (nI_add _ _) ?_
    refine rS (k := i + 1) S hX hbl hbA I (by omega) hL dL_law_235 ?_
    refine lv_aload_n S.1 S.2.1 dL_law_236 rfl (lv_at hl 3 rfl) ?_
    refine lv_iload_n S.1 S.2.1 dL_law_237 rfl (lv_at hl 0 rfl) ?_
    refine lv_iconst (v := nI 2) S.1 S.2.1 dL_law_238 (by decide) ?_
    refine lv_iadd S.1 S.2.1 dL_law_239 ?_
    refine tI (y := nI (i + 2)) (nI_add _ _) ?_
    refine rS (k := i + 2) S hX hbl hbA I (by omega) hL dL_law_240 ?_
    refine lv_aload_n S.1 S.2.1 dL_law_241 rfl (lv_at hl 3 rfl) ?_
    refine lv_iload_n S.1 S.2.1 dL_law_242 rfl (lv_at hl 0 rfl) ?_
    refine lv_iconst (v := nI 3) S.1 S.2.1 dL_law_243 (by decide) ?_
    refine lv_iadd S.1 S.2.1 dL_law_244 ?_
    refine tI (y := nI (i + 3)) (nI_add _ _) ?_
    refine rS (k := i + 3) S hX hbl hbA I (by omega) hL dL_law_245 ?_
    refine lv_if_eq (tgt := 253) S.1 S.2.1 dL_law_246 (by decide) (fun c_246 => ?_) (fun c_246 => ?_)
    · skip
      exact absurd c_246 c_219
    · skip
      refine lv_iconst (v := nI 1) S.1 S.2.1 dL_law_249 (by decide) ?_
      refine lv_goto (tgt := 254) S.1 S.2.1 dL_law_250 (by decide) ?_
      refine cVF (np := 3) (ci := 12) (q0 := 0) (As := [.int (xs (i + 1)), .int (xs (i + 2)), .int (bI true)]) (rest := [.int ((sp_link N R (xs (i + 1)) (xs (i + 2)) (bI true)).1)]) (w0 := wM cy q2 N R X) (wr := wX cy q1 K1 C1 O1 L1 f1) S (c_link l D cy q2 N R X (xs (i + 1)) (xs (i + 2)) (bI true) (hW.1) (bI_01 _)) hK hA I wm_L_21 wi_X12_link ws_X12_X12_link wn_X12 wk_X12_link ⟨rfl, hd_X12_link⟩ rfl ⟨by decide, by decide⟩ rfl rfl hl.1 rfl (Nat.le_of_ble_eq_true rfl) dL_law_254 ⟨by show cells + 0 + 0 ≤ 600000; omega, by show slots + 0 + 0 ≤ 7302249; omega⟩ (fun v_ u_ H locs h_ I => ?_)
      obtain ⟨rfl, rfl⟩ := h_
      have I := IX.swap (w0 := wM cy q2 ((sp_link N R (xs (i + 1)) (xs (i + 2)) (bI true)).2.1) ((sp_link N R (xs (i + 1)) (xs (i + 2)) (bI true)).2.2) X) (wr := wX cy q1 K1 C1 O1 L1 f1) I
      have I : IX D A s.heap (wX cy q1 K1 C1 O1 L1 f1 ++ wM cy q2 ((sp_link N R (xs (i + 1)) (xs (i + 2)) (bI true)).2.1) ((sp_link N R (xs (i + 1)) (xs (i + 2)) (bI true)).2.2) X) H locs := I
      refine W.eq (g2 := F0 m 257 ls [.int ((sp_link N R (xs (i + 1)) (xs (i + 2)) (bI true)).1), .int ((sp_link N R (xs (i + 1)) (xs (i + 2)) (bI true)).1)]) rfl ?_
      refine lv_icmp_eq (tgt := 972) S.1 S.2.1 dL_law_257 (by decide) (fun c_257 => ?_) (fun c_257 => ?_)
      · skip
        refine W.widen (k := cells + 1) (n := slots + 6) (by show cells + 0 + 0 ≤ cells + 1; omega) (by show slots + 0 + 0 ≤ slots + 6; omega) ?_
        exact kk _ _ _ _ _ _ _ _ _ _ (WF_link (bI_01 _) hW) (by rw [n30_link]; omega) hrc1 I
      · skip
        exact absurd rfl c_257
set_option maxHeartbeats 4000000 in
set_option maxRecDepth 100000 in
theorem lw_k2 (S : CallFix p m c code 4 s args (Cond.initialized RL :: uT) RL) (hK : KX D cy s) (hA : ∀ q, s.heap.size ≤ q → A q) (I : IX D A s.heap (wX cy q1 K C O L f ++ wM cy q2 N R X) H locs) (hX : va_X b Ln xs s s.heap) (hbl : b < s.heap.size) (hbA : ¬ A b) (hi : i + 7 ≤ Ln) (hL : Ln ≤ 3584) (hc : cells ≤ 10000) (hs : slots ≤ 100000) (hn : n < 3584) (hl : lv_has ls 4 [(3, .int (nI i)), (2, .ref (q2 33)), (1, .ref (q1 0)), (0, .ref b)]) (hW : WFm N R) (h30 : N 30 ≤ n) (hrc : RelC K C O L f N R)
    (kk : ∀ (K2 : Nat → Nat) (C2 : Nat → Nat → Int32) (O2 : Nat → Nat → Option Nat) (L2 : List Nat) (f2 : Nat → va_E) (N2 : Nat → Nat) (R2 X2 : Nat → Nat → Int32) (H2 : Heap) (locs2 : List Loc), WFm N2 R2 → N2 30 ≤ n + 1 → RelC K2 C2 O2 L2 f2 N2 R2 → IX D A s.heap (wX cy q1 K2 C2 O2 L2 f2 ++ wM cy q2 N2 R2 X2) H2 locs2 → W p l e room_1 s m args below meth c H2 locs2 (cells + 1) (slots + 6) Q (F0 m 972 ls [])) : W p l e room_1 s m args below meth c H locs cells slots Q (F0 m 262 ls []) := by
  refine lv_aload_n S.1 S.2.1 dL_law_262 rfl (lv_at hl 2 rfl) ?_
  refine lv_aload_n S.1 S.2.1 dL_law_263 rfl (lv_at hl 3 rfl) ?_
  refine lv_iload_n S.1 S.2.1 dL_law_264 rfl (lv_at hl 0 rfl) ?_
  refine lv_iconst (v := nI 1) S.1 S.2.1 dL_law_265 (by decide) ?_
  refine lv_iadd S.1 S.2.1 dL_law_266 ?_
  refine tI (y := nI (i + 1)) (nI_add _ _) ?_
  refine rS (k := i + 1) S hX hbl hbA I (by omega) hL dL_law_267 ?_
  refine lv_aload_n S.1 S.2.1 dL_law_268 rfl (lv_at hl 3 rfl) ?_
  refine lv_iload_n S.1 S.2.1 dL_law_269 rfl (lv_at hl 0 rfl) ?_
  refine lv_iconst (v := nI 2) S.1 S.2.1 dL_law_270 (by decide) ?_
  refine lv_iadd S.1 S.2.1 dL_law_271 ?_
  refine tI (y := nI (i + 2)) (nI_add _ _) ?_
  refine rS (k := i + 2) S hX hbl hbA I (by omega) hL dL_law_272 ?_
  refine lv_if_eq (tgt := 280) S.1 S.2.1 dL_law_273 (by decide) (fun c_273 => ?_) (fun c_273 => ?_)
  · skip
    refine lv_iconst (v := nI 0) S.1 S.2.1 dL_law_280 (by decide) ?_
    refine cVF (np := 2) (ci := 11) (q0 := 0) (As := [.int (xs (i + 1)), .int (bI false)]) (rest := []) (w0 := wX cy q1 K C O L f) (wr := wM cy q2 N R X) S (x_guard l D cy q1 K C O L f N R (xs (i + 1)) false hW hrc) hK hA I wm_L_22 wi_X11_guard ws_X11_X11_guard wn_X11 wk_X11_guard ⟨rfl, hd_X11_guard⟩ rfl ⟨by decide, by decide⟩ rfl rfl hl.1 rfl (Nat.le_of_ble_eq_true rfl) dL_law_281 ⟨by show cells + 0 ≤ 600000; omega, by show slots + 0 ≤ 7302249; omega⟩ (fun v_ u_ H locs h_ I => ?_)
    obtain ⟨rfl, hrc1⟩ := h_
    obtain ⟨K1, C1, O1, L1, f1⟩ := u_
    have I := IX.swap (w0 := wX cy q1 K1 C1 O1 L1 f1) (wr := wM cy q2 N R X) I
    have I : IX D A s.heap (wM cy q2 N R X ++ wX cy q1 K1 C1 O1 L1 f1) H locs := I
    refine W.eq (g2 := F0 m 284 ls [.int ((sp_guard N R (xs (i + 1)) (bI false)).1)]) rfl ?_
    refine lv_aload_n S.1 S.2.1 dL_law_284 rfl (lv_at hl 1 rfl) ?_
    refine lv_aload_n S.1 S.2.1 dL_law_285 rfl (lv_at hl 3 rfl) ?_
    refine lv_iload_n S.1 S.2.1 dL_law_286 rfl (lv_at hl 0 rfl) ?_
    refine lv_iconst (v := nI 1) S.1 S.2.1 dL_law_287 (by decide) ?_
    refine lv_iadd S.1 S.2.1 dL_law_288 ?_
    refine tI (y := nI (i + 1)) (nI_add _ _) ?_
    refine rS (k := i + 1) S hX hbl hbA I (by omega) hL dL_law_289 ?_
    refine lv_aload_n S.1 S.2.1 dL_law_290 rfl (lv_at hl 3 rfl) ?_
    refine lv_iload_n S.1 S.2.1 dL_law_291 rfl (lv_at hl 0 rfl) ?_
    refine lv_iconst (v := nI 2) S.1 S.2.1 dL_law_292 (by decide) ?_
    refine lv_iadd S.1 S.2.1 dL_law_293 ?_
    refine tI (y := nI (i + 2)) (nI_add _ _) ?_
    refine rS (k := i + 2) S hX hbl hbA I (by omega) hL dL_law_294 ?_
    refine lv_if_eq (tgt := 302) S.1 S.2.1 dL_law_295 (by decide) (fun c_295 => ?_) (fun c_295 => ?_)
    · skip
      refine lv_iconst (v := nI 0) S.1 S.2.1 dL_law_302 (by decide) ?_
      refine cVF (np := 2) (ci := 12) (q0 := 0) (As := [.int (xs (i + 1)), .int (bI false)]) (rest := [.int ((sp_guard N R (xs (i + 1)) (bI false)).1)]) (w0 := wM cy q2 N R X) (wr := wX cy q1 K1 C1 O1 L1 f1) S (c_guard l D cy q2 N R X (xs (i + 1)) (bI false) (hW.1) (bI_01 _)) hK hA I wm_L_26 wi_X12_guard ws_X12_X12_guard wn_X12 wk_X12_guard ⟨rfl, hd_X12_guard⟩ rfl ⟨by decide, by decide⟩ rfl rfl hl.1 rfl (Nat.le_of_ble_eq_true rfl) dL_law_303 ⟨by show cells + 0 + 0 ≤ 600000; omega, by show slots + 0 + 0 ≤ 7302249; omega⟩ (fun v_ u_ H locs h_ I => ?_)
      obtain ⟨rfl, rfl⟩ := h_
      have I := IX.swap (w0 := wM cy q2 ((sp_guard N R (xs (i + 1)) (bI false)).2.1) ((sp_guard N R (xs (i + 1)) (bI false)).2.2) X) (wr := wX cy q1 K1 C1 O1 L1 f1) I
      have I : IX D A s.heap (wX cy q1 K1 C1 O1 L1 f1 ++ wM cy q2 ((sp_guard N R (xs (i + 1)) (bI false)).2.1) ((sp_guard N R (xs (i + 1)) (bI false)).2.2) X) H locs := I
      refine W.eq (g2 := F0 m 306 ls [.int ((sp_guard N R (xs (i + 1)) (bI false)).1), .int ((sp_guard N R (xs (i + 1)) (bI false)).1)]) rfl ?_
      refine lv_icmp_eq (tgt := 972) S.1 S.2.1 dL_law_306 (by decide) (fun c_306 => ?_) (fun c_306 => ?_)
      · skip
        refine W.widen (k := cells + 1) (n := slots + 6) (by show cells + 0 + 0 ≤ cells + 1; omega) (by show slots + 0 + 0 ≤ slots + 6; omega) ?_
        exact kk _ _ _ _ _ _ _ _ _ _ (WF_guard (bI_01 _) hW) (by rw [n30_guard]; omega) hrc1 I
      · skip
        exact absurd rfl c_306
    · skip
      exact absurd c_273 c_295
  · skip
    refine lv_iconst (v := nI 1) S.1 S.2.1 dL_law_276 (by decide) ?_
    refine lv_goto (tgt := 281) S.1 S.2.1 dL_law_277 (by decide) ?_
    refine cVF (np := 2) (ci := 11) (q0 := 0) (As := [.int (xs (i + 1)), .int (bI true)]) (rest := []) (w0 := wX cy q1 K C O L f) (wr := wM cy q2 N R X) S (x_guard l D cy q1 K C O L f N R (xs (i + 1)) true hW hrc) hK hA I wm_L_22 wi_X11_guard ws_X11_X11_guard wn_X11 wk_X11_guard ⟨rfl, hd_X11_guard⟩ rfl ⟨by decide, by decide⟩ rfl rfl hl.1 rfl (Nat.le_of_ble_eq_true rfl) dL_law_281 ⟨by show cells + 0 ≤ 600000; omega, by show slots + 0 ≤ 7302249; omega⟩ (fun v_ u_ H locs h_ I => ?_)
    obtain ⟨rfl, hrc1⟩ := h_
    obtain ⟨K1, C1, O1, L1, f1⟩ := u_
    have I := IX.swap (w0 := wX cy q1 K1 C1 O1 L1 f1) (wr := wM cy q2 N R X) I
    have I : IX D A s.heap (wM cy q2 N R X ++ wX cy q1 K1 C1 O1 L1 f1) H locs := I
    refine W.eq (g2 := F0 m 284 ls [.int ((sp_guard N R (xs (i + 1)) (bI true)).1)]) rfl ?_
    refine lv_aload_n S.1 S.2.1 dL_law_284 rfl (lv_at hl 1 rfl) ?_
    refine lv_aload_n S.1 S.2.1 dL_law_285 rfl (lv_at hl 3 rfl) ?_
    refine lv_iload_n S.1 S.2.1 dL_law_286 rfl (lv_at hl 0 rfl) ?_
    refine lv_iconst (v := nI 1) S.1 S.2.1 dL_law_287 (by decide) ?_
    refine lv_iadd S.1 S.2.1 dL_law_288 ?_
    refine tI (y := nI (i + 1)) (nI_add _ _) ?_
    refine rS (k := i + 1) S hX hbl hbA I (by omega) hL dL_law_289 ?_
    refine lv_aload_n S.1 S.2.1 dL_law_290 rfl (lv_at hl 3 rfl) ?_
    refine lv_iload_n S.1 S.2.1 dL_law_291 rfl (lv_at hl 0 rfl) ?_
    refine lv_iconst (v := nI 2) S.1 S.2.1 dL_law_292 (by decide) ?_
    refine lv_iadd S.1 S.2.1 dL_law_293 ?_
    refine tI (y := nI (i + 2)) (nI_add _ _) ?_
    refine rS (k := i + 2) S hX hbl hbA I (by omega) hL dL_law_294 ?_
    refine lv_if_eq (tgt := 302) S.1 S.2.1 dL_law_295 (by decide) (fun c_295 => ?_) (fun c_295 => ?_)
    · skip
      exact absurd c_295 c_273
    · skip
      refine lv_iconst (v := nI 1) S.1 S.2.1 dL_law_298 (by decide) ?_
      refine lv_goto (tgt := 303) S.1 S.2.1 dL_law_299 (by decide) ?_
      refine cVF (np := 2) (ci := 12) (q0 := 0) (As := [.int (xs (i + 1)), .int (bI true)]) (rest := [.int ((sp_guard N R (xs (i + 1)) (bI true)).1)]) (w0 := wM cy q2 N R X) (wr := wX cy q1 K1 C1 O1 L1 f1) S (c_guard l D cy q2 N R X (xs (i + 1)) (bI true) (hW.1) (bI_01 _)) hK hA I wm_L_26 wi_X12_guard ws_X12_X12_guard wn_X12 wk_X12_guard ⟨rfl, hd_X12_guard⟩ rfl ⟨by decide, by decide⟩ rfl rfl hl.1 rfl (Nat.le_of_ble_eq_true rfl) dL_law_303 ⟨by show cells + 0 + 0 ≤ 600000; omega, by show slots + 0 + 0 ≤ 7302249; omega⟩ (fun v_ u_ H locs h_ I => ?_)
      obtain ⟨rfl, rfl⟩ := h_
      have I := IX.swap (w0 := wM cy q2 ((sp_guard N R (xs (i + 1)) (bI true)).2.1) ((sp_guard N R (xs (i + 1)) (bI true)).2.2) X) (wr := wX cy q1 K1 C1 O1 L1 f1) I
      have I : IX D A s.heap (wX cy q1 K1 C1 O1 L1 f1 ++ wM cy q2 ((sp_guard N R (xs (i + 1)) (bI true)).2.1) ((sp_guard N R (xs (i + 1)) (bI true)).2.2) X) H locs := I
      refine W.eq (g2 := F0 m 306 ls [.int ((sp_guard N R (xs (i + 1)) (bI true)).1), .int ((sp_guard N R (xs (i + 1)) (bI true)).1)]) rfl ?_
      refine lv_icmp_eq (tgt := 972) S.1 S.2.1 dL_law_306 (by decide) (fun c_306 => ?_) (fun c_306 => ?_)
      · skip
        refine W.widen (k := cells + 1) (n := slots + 6) (by show cells + 0 + 0 ≤ cells + 1; omega) (by show slots + 0 + 0 ≤ slots + 6; omega) ?_
        exact kk _ _ _ _ _ _ _ _ _ _ (WF_guard (bI_01 _) hW) (by rw [n30_guard]; omega) hrc1 I
      · skip
        exact absurd rfl c_306
set_option maxHeartbeats 4000000 in
set_option maxRecDepth 100000 in
theorem lw_k3 (S : CallFix p m c code 4 s args (Cond.initialized RL :: uT) RL) (hK : KX D cy s) (hA : ∀ q, s.heap.size ≤ q → A q) (I : IX D A s.heap (wX cy q1 K C O L f ++ wM cy q2 N R X) H locs) (hX : va_X b Ln xs s s.heap) (hbl : b < s.heap.size) (hbA : ¬ A b) (hi : i + 7 ≤ Ln) (hL : Ln ≤ 3584) (hc : cells ≤ 10000) (hs : slots ≤ 100000) (hn : n < 3584) (hl : lv_has ls 4 [(3, .int (nI i)), (2, .ref (q2 33)), (1, .ref (q1 0)), (0, .ref b)]) (hW : WFm N R) (h30 : N 30 ≤ n) (hrc : RelC K C O L f N R)
    (kk : ∀ (K2 : Nat → Nat) (C2 : Nat → Nat → Int32) (O2 : Nat → Nat → Option Nat) (L2 : List Nat) (f2 : Nat → va_E) (N2 : Nat → Nat) (R2 X2 : Nat → Nat → Int32) (H2 : Heap) (locs2 : List Loc), WFm N2 R2 → N2 30 ≤ n + 1 → RelC K2 C2 O2 L2 f2 N2 R2 → IX D A s.heap (wX cy q1 K2 C2 O2 L2 f2 ++ wM cy q2 N2 R2 X2) H2 locs2 → W p l e room_1 s m args below meth c H2 locs2 (cells + 1) (slots + 6) Q (F0 m 972 ls [])) : W p l e room_1 s m args below meth c H locs cells slots Q (F0 m 311 ls []) := by
  refine lv_aload_n S.1 S.2.1 dL_law_311 rfl (lv_at hl 2 rfl) ?_
  refine lv_aload_n S.1 S.2.1 dL_law_312 rfl (lv_at hl 3 rfl) ?_
  refine lv_iload_n S.1 S.2.1 dL_law_313 rfl (lv_at hl 0 rfl) ?_
  refine lv_iconst (v := nI 1) S.1 S.2.1 dL_law_314 (by decide) ?_
  refine lv_iadd S.1 S.2.1 dL_law_315 ?_
  refine tI (y := nI (i + 1)) (nI_add _ _) ?_
  refine rS (k := i + 1) S hX hbl hbA I (by omega) hL dL_law_316 ?_
  refine lv_aload_n S.1 S.2.1 dL_law_317 rfl (lv_at hl 3 rfl) ?_
  refine lv_iload_n S.1 S.2.1 dL_law_318 rfl (lv_at hl 0 rfl) ?_
  refine lv_iconst (v := nI 2) S.1 S.2.1 dL_law_319 (by decide) ?_
  refine lv_iadd S.1 S.2.1 dL_law_320 ?_
  refine tI (y := nI (i + 2)) (nI_add _ _) ?_
  refine rS (k := i + 2) S hX hbl hbA I (by omega) hL dL_law_321 ?_
  refine cVF (np := 2) (ci := 11) (q0 := 0) (As := [.int (xs (i + 1)), .int (xs (i + 2))]) (rest := []) (w0 := wX cy q1 K C O L f) (wr := wM cy q2 N R X) S (x_version l D cy q1 K C O L f N R (xs (i + 1)) (xs (i + 2)) hW hrc) hK hA I wm_L_27 wi_X11_version ws_X11_X11_version wn_X11 wk_X11_version ⟨rfl, hd_X11_version⟩ rfl ⟨by decide, by decide⟩ rfl rfl hl.1 rfl (Nat.le_of_ble_eq_true rfl) dL_law_322 ⟨by show cells + 0 ≤ 600000; omega, by show slots + 0 ≤ 7302249; omega⟩ (fun v_ u_ H locs h_ I => ?_)
  obtain ⟨rfl, hrc1⟩ := h_
  obtain ⟨K1, C1, O1, L1, f1⟩ := u_
  have I := IX.swap (w0 := wX cy q1 K1 C1 O1 L1 f1) (wr := wM cy q2 N R X) I
  have I : IX D A s.heap (wM cy q2 N R X ++ wX cy q1 K1 C1 O1 L1 f1) H locs := I
  refine W.eq (g2 := F0 m 325 ls [.int ((sp_version N R (xs (i + 1)) (xs (i + 2))).1)]) rfl ?_
  refine lv_aload_n S.1 S.2.1 dL_law_325 rfl (lv_at hl 1 rfl) ?_
  refine lv_aload_n S.1 S.2.1 dL_law_326 rfl (lv_at hl 3 rfl) ?_
  refine lv_iload_n S.1 S.2.1 dL_law_327 rfl (lv_at hl 0 rfl) ?_
  refine lv_iconst (v := nI 1) S.1 S.2.1 dL_law_328 (by decide) ?_
  refine lv_iadd S.1 S.2.1 dL_law_329 ?_
  refine tI (y := nI (i + 1)) (nI_add _ _) ?_
  refine rS (k := i + 1) S hX hbl hbA I (by omega) hL dL_law_330 ?_
  refine lv_aload_n S.1 S.2.1 dL_law_331 rfl (lv_at hl 3 rfl) ?_
  refine lv_iload_n S.1 S.2.1 dL_law_332 rfl (lv_at hl 0 rfl) ?_
  refine lv_iconst (v := nI 2) S.1 S.2.1 dL_law_333 (by decide) ?_
  refine lv_iadd S.1 S.2.1 dL_law_334 ?_
  refine tI (y := nI (i + 2)) (nI_add _ _) ?_
  refine rS (k := i + 2) S hX hbl hbA I (by omega) hL dL_law_335 ?_
  refine cVF (np := 2) (ci := 12) (q0 := 0) (As := [.int (xs (i + 1)), .int (xs (i + 2))]) (rest := [.int ((sp_version N R (xs (i + 1)) (xs (i + 2))).1)]) (w0 := wM cy q2 N R X) (wr := wX cy q1 K1 C1 O1 L1 f1) S (c_version l D cy q2 N R X (xs (i + 1)) (xs (i + 2)) hW.1) hK hA I wm_L_31 wi_X12_version ws_X12_X12_version wn_X12 wk_X12_version ⟨rfl, hd_X12_version⟩ rfl ⟨by decide, by decide⟩ rfl rfl hl.1 rfl (Nat.le_of_ble_eq_true rfl) dL_law_336 ⟨by show cells + 0 + 0 ≤ 600000; omega, by show slots + 0 + 0 ≤ 7302249; omega⟩ (fun v_ u_ H locs h_ I => ?_)
  obtain ⟨rfl, rfl⟩ := h_
  have I := IX.swap (w0 := wM cy q2 ((sp_version N R (xs (i + 1)) (xs (i + 2))).2.1) ((sp_version N R (xs (i + 1)) (xs (i + 2))).2.2) X) (wr := wX cy q1 K1 C1 O1 L1 f1) I
  have I : IX D A s.heap (wX cy q1 K1 C1 O1 L1 f1 ++ wM cy q2 ((sp_version N R (xs (i + 1)) (xs (i + 2))).2.1) ((sp_version N R (xs (i + 1)) (xs (i + 2))).2.2) X) H locs := I
  refine W.eq (g2 := F0 m 339 ls [.int ((sp_version N R (xs (i + 1)) (xs (i + 2))).1), .int ((sp_version N R (xs (i + 1)) (xs (i + 2))).1)]) rfl ?_
  refine lv_icmp_eq (tgt := 972) S.1 S.2.1 dL_law_339 (by decide) (fun c_339 => ?_) (fun c_339 => ?_)
  · skip
    refine W.widen (k := cells + 1) (n := slots + 6) (by show cells + 0 + 0 ≤ cells + 1; omega) (by show slots + 0 + 0 ≤ slots + 6; omega) ?_
    exact kk _ _ _ _ _ _ _ _ _ _ (WF_version hW) (by rw [n30_version]; omega) hrc1 I
  · skip
    exact absurd rfl c_339
set_option maxHeartbeats 4000000 in
set_option maxRecDepth 100000 in
theorem lw_k4 (S : CallFix p m c code 4 s args (Cond.initialized RL :: uT) RL) (hK : KX D cy s) (hA : ∀ q, s.heap.size ≤ q → A q) (I : IX D A s.heap (wX cy q1 K C O L f ++ wM cy q2 N R X) H locs) (hX : va_X b Ln xs s s.heap) (hbl : b < s.heap.size) (hbA : ¬ A b) (hi : i + 7 ≤ Ln) (hL : Ln ≤ 3584) (hc : cells ≤ 10000) (hs : slots ≤ 100000) (hn : n < 3584) (hl : lv_has ls 4 [(3, .int (nI i)), (2, .ref (q2 33)), (1, .ref (q1 0)), (0, .ref b)]) (hW : WFm N R) (h30 : N 30 ≤ n) (hrc : RelC K C O L f N R)
    (kk : ∀ (K2 : Nat → Nat) (C2 : Nat → Nat → Int32) (O2 : Nat → Nat → Option Nat) (L2 : List Nat) (f2 : Nat → va_E) (N2 : Nat → Nat) (R2 X2 : Nat → Nat → Int32) (H2 : Heap) (locs2 : List Loc), WFm N2 R2 → N2 30 ≤ n + 1 → RelC K2 C2 O2 L2 f2 N2 R2 → IX D A s.heap (wX cy q1 K2 C2 O2 L2 f2 ++ wM cy q2 N2 R2 X2) H2 locs2 → W p l e room_1 s m args below meth c H2 locs2 (cells + 1) (slots + 6) Q (F0 m 972 ls [])) : W p l e room_1 s m args below meth c H locs cells slots Q (F0 m 344 ls []) := by
  refine lv_aload_n S.1 S.2.1 dL_law_344 rfl (lv_at hl 2 rfl) ?_
  refine lv_aload_n S.1 S.2.1 dL_law_345 rfl (lv_at hl 3 rfl) ?_
  refine lv_iload_n S.1 S.2.1 dL_law_346 rfl (lv_at hl 0 rfl) ?_
  refine lv_iconst (v := nI 1) S.1 S.2.1 dL_law_347 (by decide) ?_
  refine lv_iadd S.1 S.2.1 dL_law_348 ?_
  refine tI (y := nI (i + 1)) (nI_add _ _) ?_
  refine rS (k := i + 1) S hX hbl hbA I (by omega) hL dL_law_349 ?_
  refine lv_aload_n S.1 S.2.1 dL_law_350 rfl (lv_at hl 3 rfl) ?_
  refine lv_iload_n S.1 S.2.1 dL_law_351 rfl (lv_at hl 0 rfl) ?_
  refine lv_iconst (v := nI 2) S.1 S.2.1 dL_law_352 (by decide) ?_
  refine lv_iadd S.1 S.2.1 dL_law_353 ?_
  refine tI (y := nI (i + 2)) (nI_add _ _) ?_
  refine rS (k := i + 2) S hX hbl hbA I (by omega) hL dL_law_354 ?_
  refine lv_aload_n S.1 S.2.1 dL_law_355 rfl (lv_at hl 3 rfl) ?_
  refine lv_iload_n S.1 S.2.1 dL_law_356 rfl (lv_at hl 0 rfl) ?_
  refine lv_iconst (v := nI 3) S.1 S.2.1 dL_law_357 (by decide) ?_
  refine lv_iadd S.1 S.2.1 dL_law_358 ?_
  refine tI (y := nI (i + 3)) (nI_add _ _) ?_
  refine rS (k := i + 3) S hX hbl hbA I (by omega) hL dL_law_359 ?_
  refine lv_aload_n S.1 S.2.1 dL_law_360 rfl (lv_at hl 3 rfl) ?_
  refine lv_iload_n S.1 S.2.1 dL_law_361 rfl (lv_at hl 0 rfl) ?_
  refine lv_iconst (v := nI 4) S.1 S.2.1 dL_law_362 (by decide) ?_
  refine lv_iadd S.1 S.2.1 dL_law_363 ?_
  refine tI (y := nI (i + 4)) (nI_add _ _) ?_
  refine rS (k := i + 4) S hX hbl hbA I (by omega) hL dL_law_364 ?_
  refine cVF (np := 4) (ci := 11) (q0 := 0) (As := [.int (xs (i + 1)), .int (xs (i + 2)), .int (xs (i + 3)), .int (xs (i + 4))]) (rest := []) (w0 := wX cy q1 K C O L f) (wr := wM cy q2 N R X) S (x_hole l D cy q1 K C O L f N R (xs (i + 1)) (xs (i + 2)) (xs (i + 3)) (xs (i + 4)) hW hrc) hK hA I wm_L_32 wi_X11_hole ws_X11_X11_hole wn_X11 wk_X11_hole ⟨rfl, hd_X11_hole⟩ rfl ⟨by decide, by decide⟩ rfl rfl hl.1 rfl (Nat.le_of_ble_eq_true rfl) dL_law_365 ⟨by show cells + 1 ≤ 600000; omega, by show slots + 5 ≤ 7302249; omega⟩ (fun v_ u_ H locs h_ I => ?_)
  obtain ⟨rfl, hrc1⟩ := h_
  obtain ⟨K1, C1, O1, L1, f1⟩ := u_
  have I := IX.swap (w0 := wX cy q1 K1 C1 O1 L1 f1) (wr := wM cy q2 N R X) I
  have I : IX D A s.heap (wM cy q2 N R X ++ wX cy q1 K1 C1 O1 L1 f1) H locs := I
  refine W.eq (g2 := F0 m 368 ls [.int ((sp_hole N R (xs (i + 1)) (xs (i + 2)) (xs (i + 3)) (xs (i + 4))).1)]) rfl ?_
  refine lv_aload_n S.1 S.2.1 dL_law_368 rfl (lv_at hl 1 rfl) ?_
  refine lv_aload_n S.1 S.2.1 dL_law_369 rfl (lv_at hl 3 rfl) ?_
  refine lv_iload_n S.1 S.2.1 dL_law_370 rfl (lv_at hl 0 rfl) ?_
  refine lv_iconst (v := nI 1) S.1 S.2.1 dL_law_371 (by decide) ?_
  refine lv_iadd S.1 S.2.1 dL_law_372 ?_
  refine tI (y := nI (i + 1)) (nI_add _ _) ?_
  refine rS (k := i + 1) S hX hbl hbA I (by omega) hL dL_law_373 ?_
  refine lv_aload_n S.1 S.2.1 dL_law_374 rfl (lv_at hl 3 rfl) ?_
  refine lv_iload_n S.1 S.2.1 dL_law_375 rfl (lv_at hl 0 rfl) ?_
  refine lv_iconst (v := nI 2) S.1 S.2.1 dL_law_376 (by decide) ?_
  refine lv_iadd S.1 S.2.1 dL_law_377 ?_
  refine tI (y := nI (i + 2)) (nI_add _ _) ?_
  refine rS (k := i + 2) S hX hbl hbA I (by omega) hL dL_law_378 ?_
  refine lv_aload_n S.1 S.2.1 dL_law_379 rfl (lv_at hl 3 rfl) ?_
  refine lv_iload_n S.1 S.2.1 dL_law_380 rfl (lv_at hl 0 rfl) ?_
  refine lv_iconst (v := nI 3) S.1 S.2.1 dL_law_381 (by decide) ?_
  refine lv_iadd S.1 S.2.1 dL_law_382 ?_
  refine tI (y := nI (i + 3)) (nI_add _ _) ?_
  refine rS (k := i + 3) S hX hbl hbA I (by omega) hL dL_law_383 ?_
  refine lv_aload_n S.1 S.2.1 dL_law_384 rfl (lv_at hl 3 rfl) ?_
  refine lv_iload_n S.1 S.2.1 dL_law_385 rfl (lv_at hl 0 rfl) ?_
  refine lv_iconst (v := nI 4) S.1 S.2.1 dL_law_386 (by decide) ?_
  refine lv_iadd S.1 S.2.1 dL_law_387 ?_
  refine tI (y := nI (i + 4)) (nI_add _ _) ?_
  refine rS (k := i + 4) S hX hbl hbA I (by omega) hL dL_law_388 ?_
  refine cVF (np := 4) (ci := 12) (q0 := 0) (As := [.int (xs (i + 1)), .int (xs (i + 2)), .int (xs (i + 3)), .int (xs (i + 4))]) (rest := [.int ((sp_hole N R (xs (i + 1)) (xs (i + 2)) (xs (i + 3)) (xs (i + 4))).1)]) (w0 := wM cy q2 N R X) (wr := wX cy q1 K1 C1 O1 L1 f1) S (c_hole l D cy q2 N R X (xs (i + 1)) (xs (i + 2)) (xs (i + 3)) (xs (i + 4)) hW.1) hK hA I wm_L_36 wi_X12_hole ws_X12_X12_hole wn_X12 wk_X12_hole ⟨rfl, hd_X12_hole⟩ rfl ⟨by decide, by decide⟩ rfl rfl hl.1 rfl (Nat.le_of_ble_eq_true rfl) dL_law_389 ⟨by show cells + 1 + 0 ≤ 600000; omega, by show slots + 5 + 0 ≤ 7302249; omega⟩ (fun v_ u_ H locs h_ I => ?_)
  obtain ⟨rfl, rfl⟩ := h_
  have I := IX.swap (w0 := wM cy q2 ((sp_hole N R (xs (i + 1)) (xs (i + 2)) (xs (i + 3)) (xs (i + 4))).2.1) ((sp_hole N R (xs (i + 1)) (xs (i + 2)) (xs (i + 3)) (xs (i + 4))).2.2) X) (wr := wX cy q1 K1 C1 O1 L1 f1) I
  have I : IX D A s.heap (wX cy q1 K1 C1 O1 L1 f1 ++ wM cy q2 ((sp_hole N R (xs (i + 1)) (xs (i + 2)) (xs (i + 3)) (xs (i + 4))).2.1) ((sp_hole N R (xs (i + 1)) (xs (i + 2)) (xs (i + 3)) (xs (i + 4))).2.2) X) H locs := I
  refine W.eq (g2 := F0 m 392 ls [.int ((sp_hole N R (xs (i + 1)) (xs (i + 2)) (xs (i + 3)) (xs (i + 4))).1), .int ((sp_hole N R (xs (i + 1)) (xs (i + 2)) (xs (i + 3)) (xs (i + 4))).1)]) rfl ?_
  refine lv_icmp_eq (tgt := 972) S.1 S.2.1 dL_law_392 (by decide) (fun c_392 => ?_) (fun c_392 => ?_)
  · skip
    refine W.widen (k := cells + 1) (n := slots + 6) (by show cells + 1 + 0 ≤ cells + 1; omega) (by show slots + 5 + 0 ≤ slots + 6; omega) ?_
    exact kk _ _ _ _ _ _ _ _ _ _ (WF_hole hW) (by rw [n30_hole]; omega) hrc1 I
  · skip
    exact absurd rfl c_392
set_option maxHeartbeats 4000000 in
set_option maxRecDepth 100000 in
theorem lw_k5 (S : CallFix p m c code 4 s args (Cond.initialized RL :: uT) RL) (hK : KX D cy s) (hA : ∀ q, s.heap.size ≤ q → A q) (I : IX D A s.heap (wX cy q1 K C O L f ++ wM cy q2 N R X) H locs) (hX : va_X b Ln xs s s.heap) (hbl : b < s.heap.size) (hbA : ¬ A b) (hi : i + 7 ≤ Ln) (hL : Ln ≤ 3584) (hc : cells ≤ 10000) (hs : slots ≤ 100000) (hn : n < 3584) (hl : lv_has ls 4 [(3, .int (nI i)), (2, .ref (q2 33)), (1, .ref (q1 0)), (0, .ref b)]) (hW : WFm N R) (h30 : N 30 ≤ n) (hrc : RelC K C O L f N R)
    (kk : ∀ (K2 : Nat → Nat) (C2 : Nat → Nat → Int32) (O2 : Nat → Nat → Option Nat) (L2 : List Nat) (f2 : Nat → va_E) (N2 : Nat → Nat) (R2 X2 : Nat → Nat → Int32) (H2 : Heap) (locs2 : List Loc), WFm N2 R2 → N2 30 ≤ n + 1 → RelC K2 C2 O2 L2 f2 N2 R2 → IX D A s.heap (wX cy q1 K2 C2 O2 L2 f2 ++ wM cy q2 N2 R2 X2) H2 locs2 → W p l e room_1 s m args below meth c H2 locs2 (cells + 1) (slots + 6) Q (F0 m 972 ls [])) : W p l e room_1 s m args below meth c H locs cells slots Q (F0 m 397 ls []) := by
  refine lv_aload_n S.1 S.2.1 dL_law_397 rfl (lv_at hl 2 rfl) ?_
  refine lv_aload_n S.1 S.2.1 dL_law_398 rfl (lv_at hl 3 rfl) ?_
  refine lv_iload_n S.1 S.2.1 dL_law_399 rfl (lv_at hl 0 rfl) ?_
  refine lv_iconst (v := nI 1) S.1 S.2.1 dL_law_400 (by decide) ?_
  refine lv_iadd S.1 S.2.1 dL_law_401 ?_
  refine tI (y := nI (i + 1)) (nI_add _ _) ?_
  refine rS (k := i + 1) S hX hbl hbA I (by omega) hL dL_law_402 ?_
  refine lv_aload_n S.1 S.2.1 dL_law_403 rfl (lv_at hl 3 rfl) ?_
  refine lv_iload_n S.1 S.2.1 dL_law_404 rfl (lv_at hl 0 rfl) ?_
  refine lv_iconst (v := nI 2) S.1 S.2.1 dL_law_405 (by decide) ?_
  refine lv_iadd S.1 S.2.1 dL_law_406 ?_
  refine tI (y := nI (i + 2)) (nI_add _ _) ?_
  refine rS (k := i + 2) S hX hbl hbA I (by omega) hL dL_law_407 ?_
  refine lv_aload_n S.1 S.2.1 dL_law_408 rfl (lv_at hl 3 rfl) ?_
  refine lv_iload_n S.1 S.2.1 dL_law_409 rfl (lv_at hl 0 rfl) ?_
  refine lv_iconst (v := nI 3) S.1 S.2.1 dL_law_410 (by decide) ?_
  refine lv_iadd S.1 S.2.1 dL_law_411 ?_
  refine tI (y := nI (i + 3)) (nI_add _ _) ?_
  refine rS (k := i + 3) S hX hbl hbA I (by omega) hL dL_law_412 ?_
  refine lv_aload_n S.1 S.2.1 dL_law_413 rfl (lv_at hl 3 rfl) ?_
  refine lv_iload_n S.1 S.2.1 dL_law_414 rfl (lv_at hl 0 rfl) ?_
  refine lv_iconst (v := nI 4) S.1 S.2.1 dL_law_415 (by decide) ?_
  refine lv_iadd S.1 S.2.1 dL_law_416 ?_
  refine tI (y := nI (i + 4)) (nI_add _ _) ?_
  refine rS (k := i + 4) S hX hbl hbA I (by omega) hL dL_law_417 ?_
  refine cVF (np := 4) (ci := 11) (q0 := 0) (As := [.int (xs (i + 1)), .int (xs (i + 2)), .int (xs (i + 3)), .int (xs (i + 4))]) (rest := []) (w0 := wX cy q1 K C O L f) (wr := wM cy q2 N R X) S (x_chained l D cy q1 K C O L f N R (xs (i + 1)) (xs (i + 2)) (xs (i + 3)) (xs (i + 4)) hW hrc) hK hA I wm_L_37 wi_X11_chained ws_X11_X11_chained wn_X11 wk_X11_chained ⟨rfl, hd_X11_chained⟩ rfl ⟨by decide, by decide⟩ rfl rfl hl.1 rfl (Nat.le_of_ble_eq_true rfl) dL_law_418 ⟨by show cells + 1 ≤ 600000; omega, by show slots + 5 ≤ 7302249; omega⟩ (fun v_ u_ H locs h_ I => ?_)
  obtain ⟨rfl, hrc1⟩ := h_
  obtain ⟨K1, C1, O1, L1, f1⟩ := u_
  have I := IX.swap (w0 := wX cy q1 K1 C1 O1 L1 f1) (wr := wM cy q2 N R X) I
  have I : IX D A s.heap (wM cy q2 N R X ++ wX cy q1 K1 C1 O1 L1 f1) H locs := I
  refine W.eq (g2 := F0 m 421 ls [.int ((sp_chained N R (xs (i + 1)) (xs (i + 2)) (xs (i + 3)) (xs (i + 4))).1)]) rfl ?_
  refine lv_aload_n S.1 S.2.1 dL_law_421 rfl (lv_at hl 1 rfl) ?_
  refine lv_aload_n S.1 S.2.1 dL_law_422 rfl (lv_at hl 3 rfl) ?_
  refine lv_iload_n S.1 S.2.1 dL_law_423 rfl (lv_at hl 0 rfl) ?_
  refine lv_iconst (v := nI 1) S.1 S.2.1 dL_law_424 (by decide) ?_
  refine lv_iadd S.1 S.2.1 dL_law_425 ?_
  refine tI (y := nI (i + 1)) (nI_add _ _) ?_
  refine rS (k := i + 1) S hX hbl hbA I (by omega) hL dL_law_426 ?_
  refine lv_aload_n S.1 S.2.1 dL_law_427 rfl (lv_at hl 3 rfl) ?_
  refine lv_iload_n S.1 S.2.1 dL_law_428 rfl (lv_at hl 0 rfl) ?_
  refine lv_iconst (v := nI 2) S.1 S.2.1 dL_law_429 (by decide) ?_
  refine lv_iadd S.1 S.2.1 dL_law_430 ?_
  refine tI (y := nI (i + 2)) (nI_add _ _) ?_
  refine rS (k := i + 2) S hX hbl hbA I (by omega) hL dL_law_431 ?_
  refine lv_aload_n S.1 S.2.1 dL_law_432 rfl (lv_at hl 3 rfl) ?_
  refine lv_iload_n S.1 S.2.1 dL_law_433 rfl (lv_at hl 0 rfl) ?_
  refine lv_iconst (v := nI 3) S.1 S.2.1 dL_law_434 (by decide) ?_
  refine lv_iadd S.1 S.2.1 dL_law_435 ?_
  refine tI (y := nI (i + 3)) (nI_add _ _) ?_
  refine rS (k := i + 3) S hX hbl hbA I (by omega) hL dL_law_436 ?_
  refine lv_aload_n S.1 S.2.1 dL_law_437 rfl (lv_at hl 3 rfl) ?_
  refine lv_iload_n S.1 S.2.1 dL_law_438 rfl (lv_at hl 0 rfl) ?_
  refine lv_iconst (v := nI 4) S.1 S.2.1 dL_law_439 (by decide) ?_
  refine lv_iadd S.1 S.2.1 dL_law_440 ?_
  refine tI (y := nI (i + 4)) (nI_add _ _) ?_
  refine rS (k := i + 4) S hX hbl hbA I (by omega) hL dL_law_441 ?_
  refine cVF (np := 4) (ci := 12) (q0 := 0) (As := [.int (xs (i + 1)), .int (xs (i + 2)), .int (xs (i + 3)), .int (xs (i + 4))]) (rest := [.int ((sp_chained N R (xs (i + 1)) (xs (i + 2)) (xs (i + 3)) (xs (i + 4))).1)]) (w0 := wM cy q2 N R X) (wr := wX cy q1 K1 C1 O1 L1 f1) S (c_chained l D cy q2 N R X (xs (i + 1)) (xs (i + 2)) (xs (i + 3)) (xs (i + 4)) hW.1) hK hA I wm_L_40 wi_X12_chained ws_X12_X12_chained wn_X12 wk_X12_chained ⟨rfl, hd_X12_chained⟩ rfl ⟨by decide, by decide⟩ rfl rfl hl.1 rfl (Nat.le_of_ble_eq_true rfl) dL_law_442 ⟨by show cells + 1 + 0 ≤ 600000; omega, by show slots + 5 + 0 ≤ 7302249; omega⟩ (fun v_ u_ H locs h_ I => ?_)
  obtain ⟨rfl, rfl⟩ := h_
  have I := IX.swap (w0 := wM cy q2 ((sp_chained N R (xs (i + 1)) (xs (i + 2)) (xs (i + 3)) (xs (i + 4))).2.1) ((sp_chained N R (xs (i + 1)) (xs (i + 2)) (xs (i + 3)) (xs (i + 4))).2.2) X) (wr := wX cy q1 K1 C1 O1 L1 f1) I
  have I : IX D A s.heap (wX cy q1 K1 C1 O1 L1 f1 ++ wM cy q2 ((sp_chained N R (xs (i + 1)) (xs (i + 2)) (xs (i + 3)) (xs (i + 4))).2.1) ((sp_chained N R (xs (i + 1)) (xs (i + 2)) (xs (i + 3)) (xs (i + 4))).2.2) X) H locs := I
  refine W.eq (g2 := F0 m 445 ls [.int ((sp_chained N R (xs (i + 1)) (xs (i + 2)) (xs (i + 3)) (xs (i + 4))).1), .int ((sp_chained N R (xs (i + 1)) (xs (i + 2)) (xs (i + 3)) (xs (i + 4))).1)]) rfl ?_
  refine lv_icmp_eq (tgt := 972) S.1 S.2.1 dL_law_445 (by decide) (fun c_445 => ?_) (fun c_445 => ?_)
  · skip
    refine W.widen (k := cells + 1) (n := slots + 6) (by show cells + 1 + 0 ≤ cells + 1; omega) (by show slots + 5 + 0 ≤ slots + 6; omega) ?_
    exact kk _ _ _ _ _ _ _ _ _ _ (WF_chained hW) (by rw [n30_chained]; omega) hrc1 I
  · skip
    exact absurd rfl c_445
set_option maxHeartbeats 4000000 in
set_option maxRecDepth 100000 in
theorem lw_k6 (S : CallFix p m c code 4 s args (Cond.initialized RL :: uT) RL) (hK : KX D cy s) (hA : ∀ q, s.heap.size ≤ q → A q) (I : IX D A s.heap (wX cy q1 K C O L f ++ wM cy q2 N R X) H locs) (hX : va_X b Ln xs s s.heap) (hbl : b < s.heap.size) (hbA : ¬ A b) (hi : i + 7 ≤ Ln) (hL : Ln ≤ 3584) (hc : cells ≤ 10000) (hs : slots ≤ 100000) (hn : n < 3584) (hl : lv_has ls 4 [(3, .int (nI i)), (2, .ref (q2 33)), (1, .ref (q1 0)), (0, .ref b)]) (hW : WFm N R) (h30 : N 30 ≤ n) (hrc : RelC K C O L f N R)
    (kk : ∀ (K2 : Nat → Nat) (C2 : Nat → Nat → Int32) (O2 : Nat → Nat → Option Nat) (L2 : List Nat) (f2 : Nat → va_E) (N2 : Nat → Nat) (R2 X2 : Nat → Nat → Int32) (H2 : Heap) (locs2 : List Loc), WFm N2 R2 → N2 30 ≤ n + 1 → RelC K2 C2 O2 L2 f2 N2 R2 → IX D A s.heap (wX cy q1 K2 C2 O2 L2 f2 ++ wM cy q2 N2 R2 X2) H2 locs2 → W p l e room_1 s m args below meth c H2 locs2 (cells + 1) (slots + 6) Q (F0 m 972 ls [])) : W p l e room_1 s m args below meth c H locs cells slots Q (F0 m 450 ls []) := by
  refine lv_aload_n S.1 S.2.1 dL_law_450 rfl (lv_at hl 2 rfl) ?_
  refine lv_aload_n S.1 S.2.1 dL_law_451 rfl (lv_at hl 3 rfl) ?_
  refine lv_iload_n S.1 S.2.1 dL_law_452 rfl (lv_at hl 0 rfl) ?_
  refine lv_iconst (v := nI 1) S.1 S.2.1 dL_law_453 (by decide) ?_
  refine lv_iadd S.1 S.2.1 dL_law_454 ?_
  refine tI (y := nI (i + 1)) (nI_add _ _) ?_
  refine rS (k := i + 1) S hX hbl hbA I (by omega) hL dL_law_455 ?_
  refine lv_aload_n S.1 S.2.1 dL_law_456 rfl (lv_at hl 3 rfl) ?_
  refine lv_iload_n S.1 S.2.1 dL_law_457 rfl (lv_at hl 0 rfl) ?_
  refine lv_iconst (v := nI 2) S.1 S.2.1 dL_law_458 (by decide) ?_
  refine lv_iadd S.1 S.2.1 dL_law_459 ?_
  refine tI (y := nI (i + 2)) (nI_add _ _) ?_
  refine rS (k := i + 2) S hX hbl hbA I (by omega) hL dL_law_460 ?_
  refine lv_if_eq (tgt := 468) S.1 S.2.1 dL_law_461 (by decide) (fun c_461 => ?_) (fun c_461 => ?_)
  · skip
    refine lv_iconst (v := nI 0) S.1 S.2.1 dL_law_468 (by decide) ?_
    refine cVF (np := 2) (ci := 11) (q0 := 0) (As := [.int (xs (i + 1)), .int (bI false)]) (rest := []) (w0 := wX cy q1 K C O L f) (wr := wM cy q2 N R X) S (x_wake l D cy q1 K C O L f N R (xs (i + 1)) false hW hrc) hK hA I wm_L_41 wi_X11_wake ws_X11_X11_wake wn_X11 wk_X11_wake ⟨rfl, hd_X11_wake⟩ rfl ⟨by decide, by decide⟩ rfl rfl hl.1 rfl (Nat.le_of_ble_eq_true rfl) dL_law_469 ⟨by show cells + 0 ≤ 600000; omega, by show slots + 0 ≤ 7302249; omega⟩ (fun v_ u_ H locs h_ I => ?_)
    obtain ⟨rfl, hrc1⟩ := h_
    obtain ⟨K1, C1, O1, L1, f1⟩ := u_
    have I := IX.swap (w0 := wX cy q1 K1 C1 O1 L1 f1) (wr := wM cy q2 N R X) I
    have I : IX D A s.heap (wM cy q2 N R X ++ wX cy q1 K1 C1 O1 L1 f1) H locs := I
    refine W.eq (g2 := F0 m 472 ls [.int ((sp_wake N R (xs (i + 1)) (bI false)).1)]) rfl ?_
    refine lv_aload_n S.1 S.2.1 dL_law_472 rfl (lv_at hl 1 rfl) ?_
    refine lv_aload_n S.1 S.2.1 dL_law_473 rfl (lv_at hl 3 rfl) ?_
    refine lv_iload_n S.1 S.2.1 dL_law_474 rfl (lv_at hl 0 rfl) ?_
    refine lv_iconst (v := nI 1) S.1 S.2.1 dL_law_475 (by decide) ?_
    refine lv_iadd S.1 S.2.1 dL_law_476 ?_
    refine tI (y := nI (i + 1)) (nI_add _ _) ?_
    refine rS (k := i + 1) S hX hbl hbA I (by omega) hL dL_law_477 ?_
    refine lv_aload_n S.1 S.2.1 dL_law_478 rfl (lv_at hl 3 rfl) ?_
    refine lv_iload_n S.1 S.2.1 dL_law_479 rfl (lv_at hl 0 rfl) ?_
    refine lv_iconst (v := nI 2) S.1 S.2.1 dL_law_480 (by decide) ?_
    refine lv_iadd S.1 S.2.1 dL_law_481 ?_
    refine tI (y := nI (i + 2)) (nI_add _ _) ?_
    refine rS (k := i + 2) S hX hbl hbA I (by omega) hL dL_law_482 ?_
    refine lv_if_eq (tgt := 490) S.1 S.2.1 dL_law_483 (by decide) (fun c_483 => ?_) (fun c_483 => ?_)
    · skip
      refine lv_iconst (v := nI 0) S.1 S.2.1 dL_law_490 (by decide) ?_
      refine cVF (np := 2) (ci := 12) (q0 := 0) (As := [.int (xs (i + 1)), .int (bI false)]) (rest := [.int ((sp_wake N R (xs (i + 1)) (bI false)).1)]) (w0 := wM cy q2 N R X) (wr := wX cy q1 K1 C1 O1 L1 f1) S (c_wake l D cy q2 N R X (xs (i + 1)) (bI false) (hW.1) (bI_01 _)) hK hA I wm_L_44 wi_X12_wake ws_X12_X12_wake wn_X12 wk_X12_wake ⟨rfl, hd_X12_wake⟩ rfl ⟨by decide, by decide⟩ rfl rfl hl.1 rfl (Nat.le_of_ble_eq_true rfl) dL_law_491 ⟨by show cells + 0 + 0 ≤ 600000; omega, by show slots + 0 + 0 ≤ 7302249; omega⟩ (fun v_ u_ H locs h_ I => ?_)
      obtain ⟨rfl, rfl⟩ := h_
      have I := IX.swap (w0 := wM cy q2 ((sp_wake N R (xs (i + 1)) (bI false)).2.1) ((sp_wake N R (xs (i + 1)) (bI false)).2.2) X) (wr := wX cy q1 K1 C1 O1 L1 f1) I
      have I : IX D A s.heap (wX cy q1 K1 C1 O1 L1 f1 ++ wM cy q2 ((sp_wake N R (xs (i + 1)) (bI false)).2.1) ((sp_wake N R (xs (i + 1)) (bI false)).2.2) X) H locs := I
      refine W.eq (g2 := F0 m 494 ls [.int ((sp_wake N R (xs (i + 1)) (bI false)).1), .int ((sp_wake N R (xs (i + 1)) (bI false)).1)]) rfl ?_
      refine lv_icmp_eq (tgt := 972) S.1 S.2.1 dL_law_494 (by decide) (fun c_494 => ?_) (fun c_494 => ?_)
      · skip
        refine W.widen (k := cells + 1) (n := slots + 6) (by show cells + 0 + 0 ≤ cells + 1; omega) (by show slots + 0 + 0 ≤ slots + 6; omega) ?_
        exact kk _ _ _ _ _ _ _ _ _ _ (WF_wake (bI_01 _) hW) (by rw [n30_wake]; omega) hrc1 I
      · skip
        exact absurd rfl c_494
    · skip
      exact absurd c_461 c_483
  · skip
    refine lv_iconst (v := nI 1) S.1 S.2.1 dL_law_464 (by decide) ?_
    refine lv_goto (tgt := 469) S.1 S.2.1 dL_law_465 (by decide) ?_
    refine cVF (np := 2) (ci := 11) (q0 := 0) (As := [.int (xs (i + 1)), .int (bI true)]) (rest := []) (w0 := wX cy q1 K C O L f) (wr := wM cy q2 N R X) S (x_wake l D cy q1 K C O L f N R (xs (i + 1)) true hW hrc) hK hA I wm_L_41 wi_X11_wake ws_X11_X11_wake wn_X11 wk_X11_wake ⟨rfl, hd_X11_wake⟩ rfl ⟨by decide, by decide⟩ rfl rfl hl.1 rfl (Nat.le_of_ble_eq_true rfl) dL_law_469 ⟨by show cells + 0 ≤ 600000; omega, by show slots + 0 ≤ 7302249; omega⟩ (fun v_ u_ H locs h_ I => ?_)
    obtain ⟨rfl, hrc1⟩ := h_
    obtain ⟨K1, C1, O1, L1, f1⟩ := u_
    have I := IX.swap (w0 := wX cy q1 K1 C1 O1 L1 f1) (wr := wM cy q2 N R X) I
    have I : IX D A s.heap (wM cy q2 N R X ++ wX cy q1 K1 C1 O1 L1 f1) H locs := I
    refine W.eq (g2 := F0 m 472 ls [.int ((sp_wake N R (xs (i + 1)) (bI true)).1)]) rfl ?_
    refine lv_aload_n S.1 S.2.1 dL_law_472 rfl (lv_at hl 1 rfl) ?_
    refine lv_aload_n S.1 S.2.1 dL_law_473 rfl (lv_at hl 3 rfl) ?_
    refine lv_iload_n S.1 S.2.1 dL_law_474 rfl (lv_at hl 0 rfl) ?_
    refine lv_iconst (v := nI 1) S.1 S.2.1 dL_law_475 (by decide) ?_
    refine lv_iadd S.1 S.2.1 dL_law_476 ?_
    refine tI (y := nI (i + 1)) (nI_add _ _) ?_
    refine rS (k := i + 1) S hX hbl hbA I (by omega) hL dL_law_477 ?_
    refine lv_aload_n S.1 S.2.1 dL_law_478 rfl (lv_at hl 3 rfl) ?_
    refine lv_iload_n S.1 S.2.1 dL_law_479 rfl (lv_at hl 0 rfl) ?_
    refine lv_iconst (v := nI 2) S.1 S.2.1 dL_law_480 (by decide) ?_
    refine lv_iadd S.1 S.2.1 dL_law_481 ?_
    refine tI (y := nI (i + 2)) (nI_add _ _) ?_
    refine rS (k := i + 2) S hX hbl hbA I (by omega) hL dL_law_482 ?_
    refine lv_if_eq (tgt := 490) S.1 S.2.1 dL_law_483 (by decide) (fun c_483 => ?_) (fun c_483 => ?_)
    · skip
      exact absurd c_483 c_461
    · skip
      refine lv_iconst (v := nI 1) S.1 S.2.1 dL_law_486 (by decide) ?_
      refine lv_goto (tgt := 491) S.1 S.2.1 dL_law_487 (by decide) ?_
      refine cVF (np := 2) (ci := 12) (q0 := 0) (As := [.int (xs (i + 1)), .int (bI true)]) (rest := [.int ((sp_wake N R (xs (i + 1)) (bI true)).1)]) (w0 := wM cy q2 N R X) (wr := wX cy q1 K1 C1 O1 L1 f1) S (c_wake l D cy q2 N R X (xs (i + 1)) (bI true) (hW.1) (bI_01 _)) hK hA I wm_L_44 wi_X12_wake ws_X12_X12_wake wn_X12 wk_X12_wake ⟨rfl, hd_X12_wake⟩ rfl ⟨by decide, by decide⟩ rfl rfl hl.1 rfl (Nat.le_of_ble_eq_true rfl) dL_law_491 ⟨by show cells + 0 + 0 ≤ 600000; omega, by show slots + 0 + 0 ≤ 7302249; omega⟩ (fun v_ u_ H locs h_ I => ?_)
      obtain ⟨rfl, rfl⟩ := h_
      have I := IX.swap (w0 := wM cy q2 ((sp_wake N R (xs (i + 1)) (bI true)).2.1) ((sp_wake N R (xs (i + 1)) (bI true)).2.2) X) (wr := wX cy q1 K1 C1 O1 L1 f1) I
      have I : IX D A s.heap (wX cy q1 K1 C1 O1 L1 f1 ++ wM cy q2 ((sp_wake N R (xs (i + 1)) (bI true)).2.1) ((sp_wake N R (xs (i + 1)) (bI true)).2.2) X) H locs := I
      refine W.eq (g2 := F0 m 494 ls [.int ((sp_wake N R (xs (i + 1)) (bI true)).1), .int ((sp_wake N R (xs (i + 1)) (bI true)).1)]) rfl ?_
      refine lv_icmp_eq (tgt := 972) S.1 S.2.1 dL_law_494 (by decide) (fun c_494 => ?_) (fun c_494 => ?_)
      · skip
        refine W.widen (k := cells + 1) (n := slots + 6) (by show cells + 0 + 0 ≤ cells + 1; omega) (by show slots + 0 + 0 ≤ slots + 6; omega) ?_
        exact kk _ _ _ _ _ _ _ _ _ _ (WF_wake (bI_01 _) hW) (by rw [n30_wake]; omega) hrc1 I
      · skip
        exact absurd rfl c_494
set_option maxHeartbeats 4000000 in
set_option maxRecDepth 100000 in
theorem lw_k7 (S : CallFix p m c code 4 s args (Cond.initialized RL :: uT) RL) (hK : KX D cy s) (hA : ∀ q, s.heap.size ≤ q → A q) (I : IX D A s.heap (wX cy q1 K C O L f ++ wM cy q2 N R X) H locs) (hX : va_X b Ln xs s s.heap) (hbl : b < s.heap.size) (hbA : ¬ A b) (hi : i + 7 ≤ Ln) (hL : Ln ≤ 3584) (hc : cells ≤ 10000) (hs : slots ≤ 100000) (hn : n < 3584) (hl : lv_has ls 4 [(3, .int (nI i)), (2, .ref (q2 33)), (1, .ref (q1 0)), (0, .ref b)]) (hW : WFm N R) (h30 : N 30 ≤ n) (hrc : RelC K C O L f N R)
    (kk : ∀ (K2 : Nat → Nat) (C2 : Nat → Nat → Int32) (O2 : Nat → Nat → Option Nat) (L2 : List Nat) (f2 : Nat → va_E) (N2 : Nat → Nat) (R2 X2 : Nat → Nat → Int32) (H2 : Heap) (locs2 : List Loc), WFm N2 R2 → N2 30 ≤ n + 1 → RelC K2 C2 O2 L2 f2 N2 R2 → IX D A s.heap (wX cy q1 K2 C2 O2 L2 f2 ++ wM cy q2 N2 R2 X2) H2 locs2 → W p l e room_1 s m args below meth c H2 locs2 (cells + 1) (slots + 6) Q (F0 m 972 ls [])) : W p l e room_1 s m args below meth c H locs cells slots Q (F0 m 499 ls []) := by
  refine lv_aload_n S.1 S.2.1 dL_law_499 rfl (lv_at hl 2 rfl) ?_
  refine lv_aload_n S.1 S.2.1 dL_law_500 rfl (lv_at hl 3 rfl) ?_
  refine lv_iload_n S.1 S.2.1 dL_law_501 rfl (lv_at hl 0 rfl) ?_
  refine lv_iconst (v := nI 1) S.1 S.2.1 dL_law_502 (by decide) ?_
  refine lv_iadd S.1 S.2.1 dL_law_503 ?_
  refine tI (y := nI (i + 1)) (nI_add _ _) ?_
  refine rS (k := i + 1) S hX hbl hbA I (by omega) hL dL_law_504 ?_
  refine cVF (np := 1) (ci := 11) (q0 := 0) (As := [.int (xs (i + 1))]) (rest := []) (w0 := wX cy q1 K C O L f) (wr := wM cy q2 N R X) S (x_chain l D cy q1 K C O L f N R (xs (i + 1)) hW hrc) hK hA I wm_L_45 wi_X11_chain ws_X11_X11_chain wn_X11 wk_X11_chain ⟨rfl, hd_X11_chain⟩ rfl ⟨by decide, by decide⟩ rfl rfl hl.1 rfl (Nat.le_of_ble_eq_true rfl) dL_law_505 ⟨by show cells + 0 ≤ 600000; omega, by show slots + 0 ≤ 7302249; omega⟩ (fun v_ u_ H locs h_ I => ?_)
  obtain ⟨rfl, hrc1⟩ := h_
  obtain ⟨K1, C1, O1, L1, f1⟩ := u_
  have I := IX.swap (w0 := wX cy q1 K1 C1 O1 L1 f1) (wr := wM cy q2 N R X) I
  have I : IX D A s.heap (wM cy q2 N R X ++ wX cy q1 K1 C1 O1 L1 f1) H locs := I
  refine W.eq (g2 := F0 m 508 ls [.int (sp_chain N R (xs (i + 1)))]) rfl ?_
  refine lv_aload_n S.1 S.2.1 dL_law_508 rfl (lv_at hl 1 rfl) ?_
  refine lv_aload_n S.1 S.2.1 dL_law_509 rfl (lv_at hl 3 rfl) ?_
  refine lv_iload_n S.1 S.2.1 dL_law_510 rfl (lv_at hl 0 rfl) ?_
  refine lv_iconst (v := nI 1) S.1 S.2.1 dL_law_511 (by decide) ?_
  refine lv_iadd S.1 S.2.1 dL_law_512 ?_
  refine tI (y := nI (i + 1)) (nI_add _ _) ?_
  refine rS (k := i + 1) S hX hbl hbA I (by omega) hL dL_law_513 ?_
  refine cVF (np := 1) (ci := 12) (q0 := 0) (As := [.int (xs (i + 1))]) (rest := [.int (sp_chain N R (xs (i + 1)))]) (w0 := wM cy q2 N R X) (wr := wX cy q1 K1 C1 O1 L1 f1) S (c_chain l D cy q2 N R X (xs (i + 1)) hW.1) hK hA I wm_L_49 wi_X12_chain ws_X12_X12_chain wn_X12 wk_X12_chain ⟨rfl, hd_X12_chain⟩ rfl ⟨by decide, by decide⟩ rfl rfl hl.1 rfl (Nat.le_of_ble_eq_true rfl) dL_law_514 ⟨by show cells + 0 + 0 ≤ 600000; omega, by show slots + 0 + 0 ≤ 7302249; omega⟩ (fun v_ u_ H locs h_ I => ?_)
  obtain rfl := h_
  have I := IX.swap (w0 := wM cy q2 N R X) (wr := wX cy q1 K1 C1 O1 L1 f1) I
  have I : IX D A s.heap (wX cy q1 K1 C1 O1 L1 f1 ++ wM cy q2 N R X) H locs := I
  refine W.eq (g2 := F0 m 517 ls [.int (sp_chain N R (xs (i + 1))), .int (sp_chain N R (xs (i + 1)))]) rfl ?_
  refine lv_icmp_eq (tgt := 972) S.1 S.2.1 dL_law_517 (by decide) (fun c_517 => ?_) (fun c_517 => ?_)
  · skip
    refine W.widen (k := cells + 1) (n := slots + 6) (by show cells + 0 + 0 ≤ cells + 1; omega) (by show slots + 0 + 0 ≤ slots + 6; omega) ?_
    exact kk _ _ _ _ _ _ _ _ _ _ hW (by omega) hrc1 I
  · skip
    exact absurd rfl c_517
set_option maxHeartbeats 4000000 in
set_option maxRecDepth 100000 in
theorem lw_k8 (S : CallFix p m c code 4 s args (Cond.initialized RL :: uT) RL) (hK : KX D cy s) (hA : ∀ q, s.heap.size ≤ q → A q) (I : IX D A s.heap (wX cy q1 K C O L f ++ wM cy q2 N R X) H locs) (hX : va_X b Ln xs s s.heap) (hbl : b < s.heap.size) (hbA : ¬ A b) (hi : i + 7 ≤ Ln) (hL : Ln ≤ 3584) (hc : cells ≤ 10000) (hs : slots ≤ 100000) (hn : n < 3584) (hl : lv_has ls 4 [(3, .int (nI i)), (2, .ref (q2 33)), (1, .ref (q1 0)), (0, .ref b)]) (hW : WFm N R) (h30 : N 30 ≤ n) (hrc : RelC K C O L f N R)
    (kk : ∀ (K2 : Nat → Nat) (C2 : Nat → Nat → Int32) (O2 : Nat → Nat → Option Nat) (L2 : List Nat) (f2 : Nat → va_E) (N2 : Nat → Nat) (R2 X2 : Nat → Nat → Int32) (H2 : Heap) (locs2 : List Loc), WFm N2 R2 → N2 30 ≤ n + 1 → RelC K2 C2 O2 L2 f2 N2 R2 → IX D A s.heap (wX cy q1 K2 C2 O2 L2 f2 ++ wM cy q2 N2 R2 X2) H2 locs2 → W p l e room_1 s m args below meth c H2 locs2 (cells + 1) (slots + 6) Q (F0 m 972 ls [])) : W p l e room_1 s m args below meth c H locs cells slots Q (F0 m 522 ls []) := by
  refine lv_aload_n S.1 S.2.1 dL_law_522 rfl (lv_at hl 2 rfl) ?_
  refine lv_aload_n S.1 S.2.1 dL_law_523 rfl (lv_at hl 3 rfl) ?_
  refine lv_iload_n S.1 S.2.1 dL_law_524 rfl (lv_at hl 0 rfl) ?_
  refine lv_iconst (v := nI 1) S.1 S.2.1 dL_law_525 (by decide) ?_
  refine lv_iadd S.1 S.2.1 dL_law_526 ?_
  refine tI (y := nI (i + 1)) (nI_add _ _) ?_
  refine rS (k := i + 1) S hX hbl hbA I (by omega) hL dL_law_527 ?_
  refine lv_aload_n S.1 S.2.1 dL_law_528 rfl (lv_at hl 3 rfl) ?_
  refine lv_iload_n S.1 S.2.1 dL_law_529 rfl (lv_at hl 0 rfl) ?_
  refine lv_iconst (v := nI 2) S.1 S.2.1 dL_law_530 (by decide) ?_
  refine lv_iadd S.1 S.2.1 dL_law_531 ?_
  refine tI (y := nI (i + 2)) (nI_add _ _) ?_
  refine rS (k := i + 2) S hX hbl hbA I (by omega) hL dL_law_532 ?_
  refine cVF (np := 2) (ci := 11) (q0 := 0) (As := [.int (xs (i + 1)), .int (xs (i + 2))]) (rest := []) (w0 := wX cy q1 K C O L f) (wr := wM cy q2 N R X) S (x_told l D cy q1 K C O L f N R (xs (i + 1)) (xs (i + 2)) hW hrc) hK hA I wm_L_50 wi_X11_told ws_X11_X11_told wn_X11 wk_X11_told ⟨rfl, hd_X11_told⟩ rfl ⟨by decide, by decide⟩ rfl rfl hl.1 rfl (Nat.le_of_ble_eq_true rfl) dL_law_533 ⟨by show cells + 0 ≤ 600000; omega, by show slots + 0 ≤ 7302249; omega⟩ (fun v_ u_ H locs h_ I => ?_)
  obtain ⟨rfl, hrc1⟩ := h_
  obtain ⟨K1, C1, O1, L1, f1⟩ := u_
  have I := IX.swap (w0 := wX cy q1 K1 C1 O1 L1 f1) (wr := wM cy q2 N R X) I
  have I : IX D A s.heap (wM cy q2 N R X ++ wX cy q1 K1 C1 O1 L1 f1) H locs := I
  refine W.eq (g2 := F0 m 536 ls [.int (sp_told N R (xs (i + 1)) (xs (i + 2)))]) rfl ?_
  refine lv_aload_n S.1 S.2.1 dL_law_536 rfl (lv_at hl 1 rfl) ?_
  refine lv_aload_n S.1 S.2.1 dL_law_537 rfl (lv_at hl 3 rfl) ?_
  refine lv_iload_n S.1 S.2.1 dL_law_538 rfl (lv_at hl 0 rfl) ?_
  refine lv_iconst (v := nI 1) S.1 S.2.1 dL_law_539 (by decide) ?_
  refine lv_iadd S.1 S.2.1 dL_law_540 ?_
  refine tI (y := nI (i + 1)) (nI_add _ _) ?_
  refine rS (k := i + 1) S hX hbl hbA I (by omega) hL dL_law_541 ?_
  refine lv_aload_n S.1 S.2.1 dL_law_542 rfl (lv_at hl 3 rfl) ?_
  refine lv_iload_n S.1 S.2.1 dL_law_543 rfl (lv_at hl 0 rfl) ?_
  refine lv_iconst (v := nI 2) S.1 S.2.1 dL_law_544 (by decide) ?_
  refine lv_iadd S.1 S.2.1 dL_law_545 ?_
  refine tI (y := nI (i + 2)) (nI_add _ _) ?_
  refine rS (k := i + 2) S hX hbl hbA I (by omega) hL dL_law_546 ?_
  refine cVF (np := 2) (ci := 12) (q0 := 0) (As := [.int (xs (i + 1)), .int (xs (i + 2))]) (rest := [.int (sp_told N R (xs (i + 1)) (xs (i + 2)))]) (w0 := wM cy q2 N R X) (wr := wX cy q1 K1 C1 O1 L1 f1) S (c_told l D cy q2 N R X (xs (i + 1)) (xs (i + 2)) hW) hK hA I wm_L_53 wi_X12_told ws_X12_X12_told wn_X12 wk_X12_told ⟨rfl, hd_X12_told⟩ rfl ⟨by decide, by decide⟩ rfl rfl hl.1 rfl (Nat.le_of_ble_eq_true rfl) dL_law_547 ⟨by show cells + 0 + 0 ≤ 600000; omega, by show slots + 0 + 0 ≤ 7302249; omega⟩ (fun v_ u_ H locs h_ I => ?_)
  obtain rfl := h_
  have I := IX.swap (w0 := wM cy q2 N R u_) (wr := wX cy q1 K1 C1 O1 L1 f1) I
  have I : IX D A s.heap (wX cy q1 K1 C1 O1 L1 f1 ++ wM cy q2 N R u_) H locs := I
  refine W.eq (g2 := F0 m 550 ls [.int (sp_told N R (xs (i + 1)) (xs (i + 2))), .int (sp_told N R (xs (i + 1)) (xs (i + 2)))]) rfl ?_
  refine lv_icmp_eq (tgt := 972) S.1 S.2.1 dL_law_550 (by decide) (fun c_550 => ?_) (fun c_550 => ?_)
  · skip
    refine W.widen (k := cells + 1) (n := slots + 6) (by show cells + 0 + 0 ≤ cells + 1; omega) (by show slots + 0 + 0 ≤ slots + 6; omega) ?_
    exact kk _ _ _ _ _ _ _ _ _ _ hW (by omega) hrc1 I
  · skip
    exact absurd rfl c_550
set_option maxHeartbeats 4000000 in
set_option maxRecDepth 100000 in
theorem lw_k9 (S : CallFix p m c code 4 s args (Cond.initialized RL :: uT) RL) (hK : KX D cy s) (hA : ∀ q, s.heap.size ≤ q → A q) (I : IX D A s.heap (wX cy q1 K C O L f ++ wM cy q2 N R X) H locs) (hX : va_X b Ln xs s s.heap) (hbl : b < s.heap.size) (hbA : ¬ A b) (hi : i + 7 ≤ Ln) (hL : Ln ≤ 3584) (hc : cells ≤ 10000) (hs : slots ≤ 100000) (hn : n < 3584) (hl : lv_has ls 4 [(3, .int (nI i)), (2, .ref (q2 33)), (1, .ref (q1 0)), (0, .ref b)]) (hW : WFm N R) (h30 : N 30 ≤ n) (hrc : RelC K C O L f N R)
    (kk : ∀ (K2 : Nat → Nat) (C2 : Nat → Nat → Int32) (O2 : Nat → Nat → Option Nat) (L2 : List Nat) (f2 : Nat → va_E) (N2 : Nat → Nat) (R2 X2 : Nat → Nat → Int32) (H2 : Heap) (locs2 : List Loc), WFm N2 R2 → N2 30 ≤ n + 1 → RelC K2 C2 O2 L2 f2 N2 R2 → IX D A s.heap (wX cy q1 K2 C2 O2 L2 f2 ++ wM cy q2 N2 R2 X2) H2 locs2 → W p l e room_1 s m args below meth c H2 locs2 (cells + 1) (slots + 6) Q (F0 m 972 ls [])) : W p l e room_1 s m args below meth c H locs cells slots Q (F0 m 555 ls []) := by
  refine lv_aload_n S.1 S.2.1 dL_law_555 rfl (lv_at hl 2 rfl) ?_
  refine cVF (np := 0) (ci := 11) (q0 := 0) (As := []) (rest := []) (w0 := wX cy q1 K C O L f) (wr := wM cy q2 N R X) S (x_risk l D cy q1 K C O L f N R  hW hrc) hK hA I wm_L_54 wi_X11_risk ws_X11_X11_risk wn_X11 wk_X11_risk ⟨rfl, hd_X11_risk⟩ rfl ⟨by decide, by decide⟩ rfl rfl hl.1 rfl (Nat.le_of_ble_eq_true rfl) dL_law_556 ⟨by show cells + 0 ≤ 600000; omega, by show slots + 0 ≤ 7302249; omega⟩ (fun v_ u_ H locs h_ I => ?_)
  obtain ⟨rfl, hrc1⟩ := h_
  obtain ⟨K1, C1, O1, L1, f1⟩ := u_
  have I := IX.swap (w0 := wX cy q1 K1 C1 O1 L1 f1) (wr := wM cy q2 N R X) I
  have I : IX D A s.heap (wM cy q2 N R X ++ wX cy q1 K1 C1 O1 L1 f1) H locs := I
  refine W.eq (g2 := F0 m 559 ls [.int (sp_risk N R)]) rfl ?_
  refine lv_aload_n S.1 S.2.1 dL_law_559 rfl (lv_at hl 1 rfl) ?_
  refine cVF (np := 0) (ci := 12) (q0 := 0) (As := []) (rest := [.int (sp_risk N R)]) (w0 := wM cy q2 N R X) (wr := wX cy q1 K1 C1 O1 L1 f1) S (c_risk l D cy q2 N R X  hW) hK hA I wm_L_58 wi_X12_risk ws_X12_X12_risk wn_X12 wk_X12_risk ⟨rfl, hd_X12_risk⟩ rfl ⟨by decide, by decide⟩ rfl rfl hl.1 rfl (Nat.le_of_ble_eq_true rfl) dL_law_560 ⟨by show cells + 0 + 0 ≤ 600000; omega, by show slots + 0 + 0 ≤ 7302249; omega⟩ (fun v_ u_ H locs h_ I => ?_)
  obtain rfl := h_
  have I := IX.swap (w0 := wM cy q2 N R u_) (wr := wX cy q1 K1 C1 O1 L1 f1) I
  have I : IX D A s.heap (wX cy q1 K1 C1 O1 L1 f1 ++ wM cy q2 N R u_) H locs := I
  refine W.eq (g2 := F0 m 563 ls [.int (sp_risk N R), .int (sp_risk N R)]) rfl ?_
  refine lv_icmp_eq (tgt := 972) S.1 S.2.1 dL_law_563 (by decide) (fun c_563 => ?_) (fun c_563 => ?_)
  · skip
    refine W.widen (k := cells + 1) (n := slots + 6) (by show cells + 0 + 0 ≤ cells + 1; omega) (by show slots + 0 + 0 ≤ slots + 6; omega) ?_
    exact kk _ _ _ _ _ _ _ _ _ _ hW (by omega) hrc1 I
  · skip
    exact absurd rfl c_563
set_option maxHeartbeats 4000000 in
set_option maxRecDepth 100000 in
theorem lw_k10 (S : CallFix p m c code 4 s args (Cond.initialized RL :: uT) RL) (hK : KX D cy s) (hA : ∀ q, s.heap.size ≤ q → A q) (I : IX D A s.heap (wX cy q1 K C O L f ++ wM cy q2 N R X) H locs) (hX : va_X b Ln xs s s.heap) (hbl : b < s.heap.size) (hbA : ¬ A b) (hi : i + 7 ≤ Ln) (hL : Ln ≤ 3584) (hc : cells ≤ 10000) (hs : slots ≤ 100000) (hn : n < 3584) (hl : lv_has ls 4 [(3, .int (nI i)), (2, .ref (q2 33)), (1, .ref (q1 0)), (0, .ref b)]) (hW : WFm N R) (h30 : N 30 ≤ n) (hrc : RelC K C O L f N R)
    (kk : ∀ (K2 : Nat → Nat) (C2 : Nat → Nat → Int32) (O2 : Nat → Nat → Option Nat) (L2 : List Nat) (f2 : Nat → va_E) (N2 : Nat → Nat) (R2 X2 : Nat → Nat → Int32) (H2 : Heap) (locs2 : List Loc), WFm N2 R2 → N2 30 ≤ n + 1 → RelC K2 C2 O2 L2 f2 N2 R2 → IX D A s.heap (wX cy q1 K2 C2 O2 L2 f2 ++ wM cy q2 N2 R2 X2) H2 locs2 → W p l e room_1 s m args below meth c H2 locs2 (cells + 1) (slots + 6) Q (F0 m 972 ls [])) : W p l e room_1 s m args below meth c H locs cells slots Q (F0 m 568 ls []) := by
  refine lv_aload_n S.1 S.2.1 dL_law_568 rfl (lv_at hl 2 rfl) ?_
  refine cVF (np := 0) (ci := 11) (q0 := 0) (As := []) (rest := []) (w0 := wX cy q1 K C O L f) (wr := wM cy q2 N R X) S (x_taken l D cy q1 K C O L f N R  hW hrc) hK hA I wm_L_59 wi_X11_taken ws_X11_X11_taken wn_X11 wk_X11_taken ⟨rfl, hd_X11_taken⟩ rfl ⟨by decide, by decide⟩ rfl rfl hl.1 rfl (Nat.le_of_ble_eq_true rfl) dL_law_569 ⟨by show cells + 0 ≤ 600000; omega, by show slots + 0 ≤ 7302249; omega⟩ (fun v_ u_ H locs h_ I => ?_)
  obtain ⟨rfl, hrc1⟩ := h_
  obtain ⟨K1, C1, O1, L1, f1⟩ := u_
  have I := IX.swap (w0 := wX cy q1 K1 C1 O1 L1 f1) (wr := wM cy q2 N R X) I
  have I : IX D A s.heap (wM cy q2 N R X ++ wX cy q1 K1 C1 O1 L1 f1) H locs := I
  refine W.eq (g2 := F0 m 572 ls [.int (sp_taken N R)]) rfl ?_
  refine lv_aload_n S.1 S.2.1 dL_law_572 rfl (lv_at hl 1 rfl) ?_
  refine cVF (np := 0) (ci := 12) (q0 := 0) (As := []) (rest := [.int (sp_taken N R)]) (w0 := wM cy q2 N R X) (wr := wX cy q1 K1 C1 O1 L1 f1) S (c_taken l D cy q2 N R X  hW) hK hA I wm_L_62 wi_X12_taken ws_X12_X12_taken wn_X12 wk_X12_taken ⟨rfl, hd_X12_taken⟩ rfl ⟨by decide, by decide⟩ rfl rfl hl.1 rfl (Nat.le_of_ble_eq_true rfl) dL_law_573 ⟨by show cells + 0 + 0 ≤ 600000; omega, by show slots + 0 + 0 ≤ 7302249; omega⟩ (fun v_ u_ H locs h_ I => ?_)
  obtain rfl := h_
  have I := IX.swap (w0 := wM cy q2 N R u_) (wr := wX cy q1 K1 C1 O1 L1 f1) I
  have I : IX D A s.heap (wX cy q1 K1 C1 O1 L1 f1 ++ wM cy q2 N R u_) H locs := I
  refine W.eq (g2 := F0 m 576 ls [.int (sp_taken N R), .int (sp_taken N R)]) rfl ?_
  refine lv_icmp_eq (tgt := 972) S.1 S.2.1 dL_law_576 (by decide) (fun c_576 => ?_) (fun c_576 => ?_)
  · skip
    refine W.widen (k := cells + 1) (n := slots + 6) (by show cells + 0 + 0 ≤ cells + 1; omega) (by show slots + 0 + 0 ≤ slots + 6; omega) ?_
    exact kk _ _ _ _ _ _ _ _ _ _ hW (by omega) hrc1 I
  · skip
    exact absurd rfl c_576
set_option maxHeartbeats 4000000 in
set_option maxRecDepth 100000 in
theorem lw_k11 (S : CallFix p m c code 4 s args (Cond.initialized RL :: uT) RL) (hK : KX D cy s) (hA : ∀ q, s.heap.size ≤ q → A q) (I : IX D A s.heap (wX cy q1 K C O L f ++ wM cy q2 N R X) H locs) (hX : va_X b Ln xs s s.heap) (hbl : b < s.heap.size) (hbA : ¬ A b) (hi : i + 7 ≤ Ln) (hL : Ln ≤ 3584) (hc : cells ≤ 10000) (hs : slots ≤ 100000) (hn : n < 3584) (hl : lv_has ls 4 [(3, .int (nI i)), (2, .ref (q2 33)), (1, .ref (q1 0)), (0, .ref b)]) (hW : WFm N R) (h30 : N 30 ≤ n) (hrc : RelC K C O L f N R)
    (kk : ∀ (K2 : Nat → Nat) (C2 : Nat → Nat → Int32) (O2 : Nat → Nat → Option Nat) (L2 : List Nat) (f2 : Nat → va_E) (N2 : Nat → Nat) (R2 X2 : Nat → Nat → Int32) (H2 : Heap) (locs2 : List Loc), WFm N2 R2 → N2 30 ≤ n + 1 → RelC K2 C2 O2 L2 f2 N2 R2 → IX D A s.heap (wX cy q1 K2 C2 O2 L2 f2 ++ wM cy q2 N2 R2 X2) H2 locs2 → W p l e room_1 s m args below meth c H2 locs2 (cells + 1) (slots + 6) Q (F0 m 972 ls [])) : W p l e room_1 s m args below meth c H locs cells slots Q (F0 m 581 ls []) := by
  refine lv_aload_n S.1 S.2.1 dL_law_581 rfl (lv_at hl 2 rfl) ?_
  refine lv_aload_n S.1 S.2.1 dL_law_582 rfl (lv_at hl 3 rfl) ?_
  refine lv_iload_n S.1 S.2.1 dL_law_583 rfl (lv_at hl 0 rfl) ?_
  refine lv_iconst (v := nI 1) S.1 S.2.1 dL_law_584 (by decide) ?_
  refine lv_iadd S.1 S.2.1 dL_law_585 ?_
  refine tI (y := nI (i + 1)) (nI_add _ _) ?_
  refine rS (k := i + 1) S hX hbl hbA I (by omega) hL dL_law_586 ?_
  refine lv_aload_n S.1 S.2.1 dL_law_587 rfl (lv_at hl 3 rfl) ?_
  refine lv_iload_n S.1 S.2.1 dL_law_588 rfl (lv_at hl 0 rfl) ?_
  refine lv_iconst (v := nI 2) S.1 S.2.1 dL_law_589 (by decide) ?_
  refine lv_iadd S.1 S.2.1 dL_law_590 ?_
  refine tI (y := nI (i + 2)) (nI_add _ _) ?_
  refine rS (k := i + 2) S hX hbl hbA I (by omega) hL dL_law_591 ?_
  refine cVF (np := 2) (ci := 11) (q0 := 0) (As := [.int (xs (i + 1)), .int (xs (i + 2))]) (rest := []) (w0 := wX cy q1 K C O L f) (wr := wM cy q2 N R X) S (x_way l D cy q1 K C O L f N R (xs (i + 1)) (xs (i + 2)) hW hrc) hK hA I wm_L_63 wi_X11_way ws_X11_X11_way wn_X11 wk_X11_way ⟨rfl, hd_X11_way⟩ rfl ⟨by decide, by decide⟩ rfl rfl hl.1 rfl (Nat.le_of_ble_eq_true rfl) dL_law_592 ⟨by show cells + 0 ≤ 600000; omega, by show slots + 0 ≤ 7302249; omega⟩ (fun v_ u_ H locs h_ I => ?_)
  obtain ⟨rfl, hrc1⟩ := h_
  obtain ⟨K1, C1, O1, L1, f1⟩ := u_
  have I := IX.swap (w0 := wX cy q1 K1 C1 O1 L1 f1) (wr := wM cy q2 N R X) I
  have I : IX D A s.heap (wM cy q2 N R X ++ wX cy q1 K1 C1 O1 L1 f1) H locs := I
  refine W.eq (g2 := F0 m 595 ls [.int (sp_way N R (xs (i + 1)) (xs (i + 2)))]) rfl ?_
  refine lv_aload_n S.1 S.2.1 dL_law_595 rfl (lv_at hl 1 rfl) ?_
  refine lv_aload_n S.1 S.2.1 dL_law_596 rfl (lv_at hl 3 rfl) ?_
  refine lv_iload_n S.1 S.2.1 dL_law_597 rfl (lv_at hl 0 rfl) ?_
  refine lv_iconst (v := nI 1) S.1 S.2.1 dL_law_598 (by decide) ?_
  refine lv_iadd S.1 S.2.1 dL_law_599 ?_
  refine tI (y := nI (i + 1)) (nI_add _ _) ?_
  refine rS (k := i + 1) S hX hbl hbA I (by omega) hL dL_law_600 ?_
  refine lv_aload_n S.1 S.2.1 dL_law_601 rfl (lv_at hl 3 rfl) ?_
  refine lv_iload_n S.1 S.2.1 dL_law_602 rfl (lv_at hl 0 rfl) ?_
  refine lv_iconst (v := nI 2) S.1 S.2.1 dL_law_603 (by decide) ?_
  refine lv_iadd S.1 S.2.1 dL_law_604 ?_
  refine tI (y := nI (i + 2)) (nI_add _ _) ?_
  refine rS (k := i + 2) S hX hbl hbA I (by omega) hL dL_law_605 ?_
  refine cVF (np := 2) (ci := 12) (q0 := 0) (As := [.int (xs (i + 1)), .int (xs (i + 2))]) (rest := [.int (sp_way N R (xs (i + 1)) (xs (i + 2)))]) (w0 := wM cy q2 N R X) (wr := wX cy q1 K1 C1 O1 L1 f1) S (c_way l D cy q2 N R X (xs (i + 1)) (xs (i + 2)) hW) hK hA I wm_L_66 wi_X12_way ws_X12_X12_way wn_X12 wk_X12_way ⟨rfl, hd_X12_way⟩ rfl ⟨by decide, by decide⟩ rfl rfl hl.1 rfl (Nat.le_of_ble_eq_true rfl) dL_law_606 ⟨by show cells + 0 + 0 ≤ 600000; omega, by show slots + 0 + 0 ≤ 7302249; omega⟩ (fun v_ u_ H locs h_ I => ?_)
  obtain rfl := h_
  have I := IX.swap (w0 := wM cy q2 N R u_) (wr := wX cy q1 K1 C1 O1 L1 f1) I
  have I : IX D A s.heap (wX cy q1 K1 C1 O1 L1 f1 ++ wM cy q2 N R u_) H locs := I
  refine W.eq (g2 := F0 m 609 ls [.int (sp_way N R (xs (i + 1)) (xs (i + 2))), .int (sp_way N R (xs (i + 1)) (xs (i + 2)))]) rfl ?_
  refine lv_icmp_eq (tgt := 972) S.1 S.2.1 dL_law_609 (by decide) (fun c_609 => ?_) (fun c_609 => ?_)
  · skip
    refine W.widen (k := cells + 1) (n := slots + 6) (by show cells + 0 + 0 ≤ cells + 1; omega) (by show slots + 0 + 0 ≤ slots + 6; omega) ?_
    exact kk _ _ _ _ _ _ _ _ _ _ hW (by omega) hrc1 I
  · skip
    exact absurd rfl c_609
set_option maxHeartbeats 4000000 in
set_option maxRecDepth 100000 in
theorem lw_k12 (S : CallFix p m c code 4 s args (Cond.initialized RL :: uT) RL) (hK : KX D cy s) (hA : ∀ q, s.heap.size ≤ q → A q) (I : IX D A s.heap (wX cy q1 K C O L f ++ wM cy q2 N R X) H locs) (hX : va_X b Ln xs s s.heap) (hbl : b < s.heap.size) (hbA : ¬ A b) (hi : i + 7 ≤ Ln) (hL : Ln ≤ 3584) (hc : cells ≤ 10000) (hs : slots ≤ 100000) (hn : n < 3584) (hl : lv_has ls 4 [(3, .int (nI i)), (2, .ref (q2 33)), (1, .ref (q1 0)), (0, .ref b)]) (hW : WFm N R) (h30 : N 30 ≤ n) (hrc : RelC K C O L f N R)
    (kk : ∀ (K2 : Nat → Nat) (C2 : Nat → Nat → Int32) (O2 : Nat → Nat → Option Nat) (L2 : List Nat) (f2 : Nat → va_E) (N2 : Nat → Nat) (R2 X2 : Nat → Nat → Int32) (H2 : Heap) (locs2 : List Loc), WFm N2 R2 → N2 30 ≤ n + 1 → RelC K2 C2 O2 L2 f2 N2 R2 → IX D A s.heap (wX cy q1 K2 C2 O2 L2 f2 ++ wM cy q2 N2 R2 X2) H2 locs2 → W p l e room_1 s m args below meth c H2 locs2 (cells + 1) (slots + 6) Q (F0 m 972 ls [])) : W p l e room_1 s m args below meth c H locs cells slots Q (F0 m 614 ls []) := by
  refine lv_aload_n S.1 S.2.1 dL_law_614 rfl (lv_at hl 2 rfl) ?_
  refine cVF (np := 0) (ci := 11) (q0 := 0) (As := []) (rest := []) (w0 := wX cy q1 K C O L f) (wr := wM cy q2 N R X) S (x_bestGuard l D cy q1 K C O L f N R  hW hrc) hK hA I wm_L_67 wi_X11_bestGuard ws_X11_X11_bestGuard wn_X11 wk_X11_bestGuard ⟨rfl, hd_X11_bestGuard⟩ rfl ⟨by decide, by decide⟩ rfl rfl hl.1 rfl (Nat.le_of_ble_eq_true rfl) dL_law_615 ⟨by show cells + 0 ≤ 600000; omega, by show slots + 0 ≤ 7302249; omega⟩ (fun v_ u_ H locs h_ I => ?_)
  obtain ⟨rfl, hrc1⟩ := h_
  obtain ⟨K1, C1, O1, L1, f1⟩ := u_
  have I := IX.swap (w0 := wX cy q1 K1 C1 O1 L1 f1) (wr := wM cy q2 N R X) I
  have I : IX D A s.heap (wM cy q2 N R X ++ wX cy q1 K1 C1 O1 L1 f1) H locs := I
  refine W.eq (g2 := F0 m 618 ls [.int (sp_bestGuard N R)]) rfl ?_
  refine lv_aload_n S.1 S.2.1 dL_law_618 rfl (lv_at hl 1 rfl) ?_
  refine cVF (np := 0) (ci := 12) (q0 := 0) (As := []) (rest := [.int (sp_bestGuard N R)]) (w0 := wM cy q2 N R X) (wr := wX cy q1 K1 C1 O1 L1 f1) S (c_bestGuard l D cy q2 N R X  hW) hK hA I wm_L_70 wi_X12_bestGuard ws_X12_X12_bestGuard wn_X12 wk_X12_bestGuard ⟨rfl, hd_X12_bestGuard⟩ rfl ⟨by decide, by decide⟩ rfl rfl hl.1 rfl (Nat.le_of_ble_eq_true rfl) dL_law_619 ⟨by show cells + 0 + 0 ≤ 600000; omega, by show slots + 0 + 0 ≤ 7302249; omega⟩ (fun v_ u_ H locs h_ I => ?_)
  obtain rfl := h_
  have I := IX.swap (w0 := wM cy q2 N R u_) (wr := wX cy q1 K1 C1 O1 L1 f1) I
  have I : IX D A s.heap (wX cy q1 K1 C1 O1 L1 f1 ++ wM cy q2 N R u_) H locs := I
  refine W.eq (g2 := F0 m 622 ls [.int (sp_bestGuard N R), .int (sp_bestGuard N R)]) rfl ?_
  refine lv_icmp_eq (tgt := 972) S.1 S.2.1 dL_law_622 (by decide) (fun c_622 => ?_) (fun c_622 => ?_)
  · skip
    refine W.widen (k := cells + 1) (n := slots + 6) (by show cells + 0 + 0 ≤ cells + 1; omega) (by show slots + 0 + 0 ≤ slots + 6; omega) ?_
    exact kk _ _ _ _ _ _ _ _ _ _ hW (by omega) hrc1 I
  · skip
    exact absurd rfl c_622
set_option maxHeartbeats 4000000 in
set_option maxRecDepth 100000 in
theorem lw_k13 (S : CallFix p m c code 4 s args (Cond.initialized RL :: uT) RL) (hK : KX D cy s) (hA : ∀ q, s.heap.size ≤ q → A q) (I : IX D A s.heap (wX cy q1 K C O L f ++ wM cy q2 N R X) H locs) (hX : va_X b Ln xs s s.heap) (hbl : b < s.heap.size) (hbA : ¬ A b) (hi : i + 7 ≤ Ln) (hL : Ln ≤ 3584) (hc : cells ≤ 10000) (hs : slots ≤ 100000) (hn : n < 3584) (hl : lv_has ls 4 [(3, .int (nI i)), (2, .ref (q2 33)), (1, .ref (q1 0)), (0, .ref b)]) (hW : WFm N R) (h30 : N 30 ≤ n) (hrc : RelC K C O L f N R)
    (kk : ∀ (K2 : Nat → Nat) (C2 : Nat → Nat → Int32) (O2 : Nat → Nat → Option Nat) (L2 : List Nat) (f2 : Nat → va_E) (N2 : Nat → Nat) (R2 X2 : Nat → Nat → Int32) (H2 : Heap) (locs2 : List Loc), WFm N2 R2 → N2 30 ≤ n + 1 → RelC K2 C2 O2 L2 f2 N2 R2 → IX D A s.heap (wX cy q1 K2 C2 O2 L2 f2 ++ wM cy q2 N2 R2 X2) H2 locs2 → W p l e room_1 s m args below meth c H2 locs2 (cells + 1) (slots + 6) Q (F0 m 972 ls [])) : W p l e room_1 s m args below meth c H locs cells slots Q (F0 m 627 ls []) := by
  refine lv_aload_n S.1 S.2.1 dL_law_627 rfl (lv_at hl 2 rfl) ?_
  refine lv_aload_n S.1 S.2.1 dL_law_628 rfl (lv_at hl 3 rfl) ?_
  refine lv_iload_n S.1 S.2.1 dL_law_629 rfl (lv_at hl 0 rfl) ?_
  refine lv_iconst (v := nI 1) S.1 S.2.1 dL_law_630 (by decide) ?_
  refine lv_iadd S.1 S.2.1 dL_law_631 ?_
  refine tI (y := nI (i + 1)) (nI_add _ _) ?_
  refine rS (k := i + 1) S hX hbl hbA I (by omega) hL dL_law_632 ?_
  refine lv_aload_n S.1 S.2.1 dL_law_633 rfl (lv_at hl 3 rfl) ?_
  refine lv_iload_n S.1 S.2.1 dL_law_634 rfl (lv_at hl 0 rfl) ?_
  refine lv_iconst (v := nI 2) S.1 S.2.1 dL_law_635 (by decide) ?_
  refine lv_iadd S.1 S.2.1 dL_law_636 ?_
  refine tI (y := nI (i + 2)) (nI_add _ _) ?_
  refine rS (k := i + 2) S hX hbl hbA I (by omega) hL dL_law_637 ?_
  refine lv_aload_n S.1 S.2.1 dL_law_638 rfl (lv_at hl 3 rfl) ?_
  refine lv_iload_n S.1 S.2.1 dL_law_639 rfl (lv_at hl 0 rfl) ?_
  refine lv_iconst (v := nI 3) S.1 S.2.1 dL_law_640 (by decide) ?_
  refine lv_iadd S.1 S.2.1 dL_law_641 ?_
  refine tI (y := nI (i + 3)) (nI_add _ _) ?_
  refine rS (k := i + 3) S hX hbl hbA I (by omega) hL dL_law_642 ?_
  refine lv_aload_n S.1 S.2.1 dL_law_643 rfl (lv_at hl 3 rfl) ?_
  refine lv_iload_n S.1 S.2.1 dL_law_644 rfl (lv_at hl 0 rfl) ?_
  refine lv_iconst (v := nI 4) S.1 S.2.1 dL_law_645 (by decide) ?_
  refine lv_iadd S.1 S.2.1 dL_law_646 ?_
  refine tI (y := nI (i + 4)) (nI_add _ _) ?_
  refine rS (k := i + 4) S hX hbl hbA I (by omega) hL dL_law_647 ?_
  refine lv_aload_n S.1 S.2.1 dL_law_648 rfl (lv_at hl 3 rfl) ?_
  refine lv_iload_n S.1 S.2.1 dL_law_649 rfl (lv_at hl 0 rfl) ?_
  refine lv_iconst (v := nI 5) S.1 S.2.1 dL_law_650 (by decide) ?_
  refine lv_iadd S.1 S.2.1 dL_law_651 ?_
  refine tI (y := nI (i + 5)) (nI_add _ _) ?_
  refine rS (k := i + 5) S hX hbl hbA I (by omega) hL dL_law_652 ?_
  refine lv_aload_n S.1 S.2.1 dL_law_653 rfl (lv_at hl 3 rfl) ?_
  refine lv_iload_n S.1 S.2.1 dL_law_654 rfl (lv_at hl 0 rfl) ?_
  refine lv_bipush (v := nI 6) S.1 S.2.1 dL_law_655 (by decide) ?_
  refine lv_iadd S.1 S.2.1 dL_law_657 ?_
  refine tI (y := nI (i + 6)) (nI_add _ _) ?_
  refine rS (k := i + 6) S hX hbl hbA I (by omega) hL dL_law_658 ?_
  refine cVF (np := 6) (ci := 11) (q0 := 0) (As := [.int (xs (i + 1)), .int (xs (i + 2)), .int (xs (i + 3)), .int (xs (i + 4)), .int (xs (i + 5)), .int (xs (i + 6))]) (rest := []) (w0 := wX cy q1 K C O L f) (wr := wM cy q2 N R X) S (x_mend l D cy q1 K C O L f N R (xs (i + 1)) (xs (i + 2)) (xs (i + 3)) (xs (i + 4)) (xs (i + 5)) (xs (i + 6)) hW hrc) hK hA I wm_L_71 wi_X11_mend ws_X11_X11_mend wn_X11 wk_X11_mend ⟨rfl, hd_X11_mend⟩ rfl ⟨by decide, by decide⟩ rfl rfl hl.1 rfl (Nat.le_of_ble_eq_true rfl) dL_law_659 ⟨by show cells + 1 ≤ 600000; omega, by show slots + 6 ≤ 7302249; omega⟩ (fun v_ u_ H locs h_ I => ?_)
  obtain ⟨rfl, hrc1⟩ := h_
  obtain ⟨K1, C1, O1, L1, f1⟩ := u_
  have I := IX.swap (w0 := wX cy q1 K1 C1 O1 L1 f1) (wr := wM cy q2 N R X) I
  have I : IX D A s.heap (wM cy q2 N R X ++ wX cy q1 K1 C1 O1 L1 f1) H locs := I
  refine W.eq (g2 := F0 m 662 ls [.int ((sp_mend N R (xs (i + 1)) (xs (i + 2)) (xs (i + 3)) (xs (i + 4)) (xs (i + 5)) (xs (i + 6))).1)]) rfl ?_
  refine lv_aload_n S.1 S.2.1 dL_law_662 rfl (lv_at hl 1 rfl) ?_
  refine lv_aload_n S.1 S.2.1 dL_law_663 rfl (lv_at hl 3 rfl) ?_
  refine lv_iload_n S.1 S.2.1 dL_law_664 rfl (lv_at hl 0 rfl) ?_
  refine lv_iconst (v := nI 1) S.1 S.2.1 dL_law_665 (by decide) ?_
  refine lv_iadd S.1 S.2.1 dL_law_666 ?_
  refine tI (y := nI (i + 1)) (nI_add _ _) ?_
  refine rS (k := i + 1) S hX hbl hbA I (by omega) hL dL_law_667 ?_
  refine lv_aload_n S.1 S.2.1 dL_law_668 rfl (lv_at hl 3 rfl) ?_
  refine lv_iload_n S.1 S.2.1 dL_law_669 rfl (lv_at hl 0 rfl) ?_
  refine lv_iconst (v := nI 2) S.1 S.2.1 dL_law_670 (by decide) ?_
  refine lv_iadd S.1 S.2.1 dL_law_671 ?_
  refine tI (y := nI (i + 2)) (nI_add _ _) ?_
  refine rS (k := i + 2) S hX hbl hbA I (by omega) hL dL_law_672 ?_
  refine lv_aload_n S.1 S.2.1 dL_law_673 rfl (lv_at hl 3 rfl) ?_
  refine lv_iload_n S.1 S.2.1 dL_law_674 rfl (lv_at hl 0 rfl) ?_
  refine lv_iconst (v := nI 3) S.1 S.2.1 dL_law_675 (by decide) ?_
  refine lv_iadd S.1 S.2.1 dL_law_676 ?_
  refine tI (y := nI (i + 3)) (nI_add _ _) ?_
  refine rS (k := i + 3) S hX hbl hbA I (by omega) hL dL_law_677 ?_
  refine lv_aload_n S.1 S.2.1 dL_law_678 rfl (lv_at hl 3 rfl) ?_
  refine lv_iload_n S.1 S.2.1 dL_law_679 rfl (lv_at hl 0 rfl) ?_
  refine lv_iconst (v := nI 4) S.1 S.2.1 dL_law_680 (by decide) ?_
  refine lv_iadd S.1 S.2.1 dL_law_681 ?_
  refine tI (y := nI (i + 4)) (nI_add _ _) ?_
  refine rS (k := i + 4) S hX hbl hbA I (by omega) hL dL_law_682 ?_
  refine lv_aload_n S.1 S.2.1 dL_law_683 rfl (lv_at hl 3 rfl) ?_
  refine lv_iload_n S.1 S.2.1 dL_law_684 rfl (lv_at hl 0 rfl) ?_
  refine lv_iconst (v := nI 5) S.1 S.2.1 dL_law_685 (by decide) ?_
  refine lv_iadd S.1 S.2.1 dL_law_686 ?_
  refine tI (y := nI (i + 5)) (nI_add _ _) ?_
  refine rS (k := i + 5) S hX hbl hbA I (by omega) hL dL_law_687 ?_
  refine lv_aload_n S.1 S.2.1 dL_law_688 rfl (lv_at hl 3 rfl) ?_
  refine lv_iload_n S.1 S.2.1 dL_law_689 rfl (lv_at hl 0 rfl) ?_
  refine lv_bipush (v := nI 6) S.1 S.2.1 dL_law_690 (by decide) ?_
  refine lv_iadd S.1 S.2.1 dL_law_692 ?_
  refine tI (y := nI (i + 6)) (nI_add _ _) ?_
  refine rS (k := i + 6) S hX hbl hbA I (by omega) hL dL_law_693 ?_
  refine cVF (np := 6) (ci := 12) (q0 := 0) (As := [.int (xs (i + 1)), .int (xs (i + 2)), .int (xs (i + 3)), .int (xs (i + 4)), .int (xs (i + 5)), .int (xs (i + 6))]) (rest := [.int ((sp_mend N R (xs (i + 1)) (xs (i + 2)) (xs (i + 3)) (xs (i + 4)) (xs (i + 5)) (xs (i + 6))).1)]) (w0 := wM cy q2 N R X) (wr := wX cy q1 K1 C1 O1 L1 f1) S (c_mend l D cy q2 N R X (xs (i + 1)) (xs (i + 2)) (xs (i + 3)) (xs (i + 4)) (xs (i + 5)) (xs (i + 6)) hW.1) hK hA I wm_L_75 wi_X12_mend ws_X12_X12_mend wn_X12 wk_X12_mend ⟨rfl, hd_X12_mend⟩ rfl ⟨by decide, by decide⟩ rfl rfl hl.1 rfl (Nat.le_of_ble_eq_true rfl) dL_law_694 ⟨by show cells + 1 + 0 ≤ 600000; omega, by show slots + 6 + 0 ≤ 7302249; omega⟩ (fun v_ u_ H locs h_ I => ?_)
  obtain ⟨rfl, rfl⟩ := h_
  have I := IX.swap (w0 := wM cy q2 ((sp_mend N R (xs (i + 1)) (xs (i + 2)) (xs (i + 3)) (xs (i + 4)) (xs (i + 5)) (xs (i + 6))).2.1) ((sp_mend N R (xs (i + 1)) (xs (i + 2)) (xs (i + 3)) (xs (i + 4)) (xs (i + 5)) (xs (i + 6))).2.2) X) (wr := wX cy q1 K1 C1 O1 L1 f1) I
  have I : IX D A s.heap (wX cy q1 K1 C1 O1 L1 f1 ++ wM cy q2 ((sp_mend N R (xs (i + 1)) (xs (i + 2)) (xs (i + 3)) (xs (i + 4)) (xs (i + 5)) (xs (i + 6))).2.1) ((sp_mend N R (xs (i + 1)) (xs (i + 2)) (xs (i + 3)) (xs (i + 4)) (xs (i + 5)) (xs (i + 6))).2.2) X) H locs := I
  refine W.eq (g2 := F0 m 697 ls [.int ((sp_mend N R (xs (i + 1)) (xs (i + 2)) (xs (i + 3)) (xs (i + 4)) (xs (i + 5)) (xs (i + 6))).1), .int ((sp_mend N R (xs (i + 1)) (xs (i + 2)) (xs (i + 3)) (xs (i + 4)) (xs (i + 5)) (xs (i + 6))).1)]) rfl ?_
  refine lv_icmp_eq (tgt := 972) S.1 S.2.1 dL_law_697 (by decide) (fun c_697 => ?_) (fun c_697 => ?_)
  · skip
    refine W.widen (k := cells + 1) (n := slots + 6) (by show cells + 1 + 0 ≤ cells + 1; omega) (by show slots + 6 + 0 ≤ slots + 6; omega) ?_
    exact kk _ _ _ _ _ _ _ _ _ _ (WF_mend hW) (by rw [n30_mend]; omega) hrc1 I
  · skip
    exact absurd rfl c_697
set_option maxHeartbeats 4000000 in
set_option maxRecDepth 100000 in
theorem lw_k14 (S : CallFix p m c code 4 s args (Cond.initialized RL :: uT) RL) (hK : KX D cy s) (hA : ∀ q, s.heap.size ≤ q → A q) (I : IX D A s.heap (wX cy q1 K C O L f ++ wM cy q2 N R X) H locs) (hX : va_X b Ln xs s s.heap) (hbl : b < s.heap.size) (hbA : ¬ A b) (hi : i + 7 ≤ Ln) (hL : Ln ≤ 3584) (hc : cells ≤ 10000) (hs : slots ≤ 100000) (hn : n < 3584) (hl : lv_has ls 4 [(3, .int (nI i)), (2, .ref (q2 33)), (1, .ref (q1 0)), (0, .ref b)]) (hW : WFm N R) (h30 : N 30 ≤ n) (hrc : RelC K C O L f N R)
    (kk : ∀ (K2 : Nat → Nat) (C2 : Nat → Nat → Int32) (O2 : Nat → Nat → Option Nat) (L2 : List Nat) (f2 : Nat → va_E) (N2 : Nat → Nat) (R2 X2 : Nat → Nat → Int32) (H2 : Heap) (locs2 : List Loc), WFm N2 R2 → N2 30 ≤ n + 1 → RelC K2 C2 O2 L2 f2 N2 R2 → IX D A s.heap (wX cy q1 K2 C2 O2 L2 f2 ++ wM cy q2 N2 R2 X2) H2 locs2 → W p l e room_1 s m args below meth c H2 locs2 (cells + 1) (slots + 6) Q (F0 m 972 ls [])) : W p l e room_1 s m args below meth c H locs cells slots Q (F0 m 702 ls []) := by
  refine lv_aload_n S.1 S.2.1 dL_law_702 rfl (lv_at hl 2 rfl) ?_
  refine lv_aload_n S.1 S.2.1 dL_law_703 rfl (lv_at hl 3 rfl) ?_
  refine lv_iload_n S.1 S.2.1 dL_law_704 rfl (lv_at hl 0 rfl) ?_
  refine lv_iconst (v := nI 1) S.1 S.2.1 dL_law_705 (by decide) ?_
  refine lv_iadd S.1 S.2.1 dL_law_706 ?_
  refine tI (y := nI (i + 1)) (nI_add _ _) ?_
  refine rS (k := i + 1) S hX hbl hbA I (by omega) hL dL_law_707 ?_
  refine lv_aload_n S.1 S.2.1 dL_law_708 rfl (lv_at hl 3 rfl) ?_
  refine lv_iload_n S.1 S.2.1 dL_law_709 rfl (lv_at hl 0 rfl) ?_
  refine lv_iconst (v := nI 2) S.1 S.2.1 dL_law_710 (by decide) ?_
  refine lv_iadd S.1 S.2.1 dL_law_711 ?_
  refine tI (y := nI (i + 2)) (nI_add _ _) ?_
  refine rS (k := i + 2) S hX hbl hbA I (by omega) hL dL_law_712 ?_
  refine lv_aload_n S.1 S.2.1 dL_law_713 rfl (lv_at hl 3 rfl) ?_
  refine lv_iload_n S.1 S.2.1 dL_law_714 rfl (lv_at hl 0 rfl) ?_
  refine lv_iconst (v := nI 3) S.1 S.2.1 dL_law_715 (by decide) ?_
  refine lv_iadd S.1 S.2.1 dL_law_716 ?_
  refine tI (y := nI (i + 3)) (nI_add _ _) ?_
  refine rS (k := i + 3) S hX hbl hbA I (by omega) hL dL_law_717 ?_
  refine lv_aload_n S.1 S.2.1 dL_law_718 rfl (lv_at hl 3 rfl) ?_
  refine lv_iload_n S.1 S.2.1 dL_law_719 rfl (lv_at hl 0 rfl) ?_
  refine lv_iconst (v := nI 4) S.1 S.2.1 dL_law_720 (by decide) ?_
  refine lv_iadd S.1 S.2.1 dL_law_721 ?_
  refine tI (y := nI (i + 4)) (nI_add _ _) ?_
  refine rS (k := i + 4) S hX hbl hbA I (by omega) hL dL_law_722 ?_
  refine cVF (np := 4) (ci := 11) (q0 := 0) (As := [.int (xs (i + 1)), .int (xs (i + 2)), .int (xs (i + 3)), .int (xs (i + 4))]) (rest := []) (w0 := wX cy q1 K C O L f) (wr := wM cy q2 N R X) S (x_quarrel l D cy q1 K C O L f N R (xs (i + 1)) (xs (i + 2)) (xs (i + 3)) (xs (i + 4)) hW hrc) hK hA I wm_L_76 wi_X11_quarrel ws_X11_X11_quarrel wn_X11 wk_X11_quarrel ⟨rfl, hd_X11_quarrel⟩ rfl ⟨by decide, by decide⟩ rfl rfl hl.1 rfl (Nat.le_of_ble_eq_true rfl) dL_law_723 ⟨by show cells + 1 ≤ 600000; omega, by show slots + 4 ≤ 7302249; omega⟩ (fun v_ u_ H locs h_ I => ?_)
  obtain ⟨rfl, hrc1⟩ := h_
  obtain ⟨K1, C1, O1, L1, f1⟩ := u_
  have I := IX.swap (w0 := wX cy q1 K1 C1 O1 L1 f1) (wr := wM cy q2 N R X) I
  have I : IX D A s.heap (wM cy q2 N R X ++ wX cy q1 K1 C1 O1 L1 f1) H locs := I
  refine W.eq (g2 := F0 m 726 ls [.int ((sp_quarrel N R (xs (i + 1)) (xs (i + 2)) (xs (i + 3)) (xs (i + 4))).1)]) rfl ?_
  refine lv_aload_n S.1 S.2.1 dL_law_726 rfl (lv_at hl 1 rfl) ?_
  refine lv_aload_n S.1 S.2.1 dL_law_727 rfl (lv_at hl 3 rfl) ?_
  refine lv_iload_n S.1 S.2.1 dL_law_728 rfl (lv_at hl 0 rfl) ?_
  refine lv_iconst (v := nI 1) S.1 S.2.1 dL_law_729 (by decide) ?_
  refine lv_iadd S.1 S.2.1 dL_law_730 ?_
  refine tI (y := nI (i + 1)) (nI_add _ _) ?_
  refine rS (k := i + 1) S hX hbl hbA I (by omega) hL dL_law_731 ?_
  refine lv_aload_n S.1 S.2.1 dL_law_732 rfl (lv_at hl 3 rfl) ?_
  refine lv_iload_n S.1 S.2.1 dL_law_733 rfl (lv_at hl 0 rfl) ?_
  refine lv_iconst (v := nI 2) S.1 S.2.1 dL_law_734 (by decide) ?_
  refine lv_iadd S.1 S.2.1 dL_law_735 ?_
  refine tI (y := nI (i + 2)) (nI_add _ _) ?_
  refine rS (k := i + 2) S hX hbl hbA I (by omega) hL dL_law_736 ?_
  refine lv_aload_n S.1 S.2.1 dL_law_737 rfl (lv_at hl 3 rfl) ?_
  refine lv_iload_n S.1 S.2.1 dL_law_738 rfl (lv_at hl 0 rfl) ?_
  refine lv_iconst (v := nI 3) S.1 S.2.1 dL_law_739 (by decide) ?_
  refine lv_iadd S.1 S.2.1 dL_law_740 ?_
  refine tI (y := nI (i + 3)) (nI_add _ _) ?_
  refine rS (k := i + 3) S hX hbl hbA I (by omega) hL dL_law_741 ?_
  refine lv_aload_n S.1 S.2.1 dL_law_742 rfl (lv_at hl 3 rfl) ?_
  refine lv_iload_n S.1 S.2.1 dL_law_743 rfl (lv_at hl 0 rfl) ?_
  refine lv_iconst (v := nI 4) S.1 S.2.1 dL_law_744 (by decide) ?_
  refine lv_iadd S.1 S.2.1 dL_law_745 ?_
  refine tI (y := nI (i + 4)) (nI_add _ _) ?_
  refine rS (k := i + 4) S hX hbl hbA I (by omega) hL dL_law_746 ?_
  refine cVF (np := 4) (ci := 12) (q0 := 0) (As := [.int (xs (i + 1)), .int (xs (i + 2)), .int (xs (i + 3)), .int (xs (i + 4))]) (rest := [.int ((sp_quarrel N R (xs (i + 1)) (xs (i + 2)) (xs (i + 3)) (xs (i + 4))).1)]) (w0 := wM cy q2 N R X) (wr := wX cy q1 K1 C1 O1 L1 f1) S (c_quarrel l D cy q2 N R X (xs (i + 1)) (xs (i + 2)) (xs (i + 3)) (xs (i + 4)) hW.1) hK hA I wm_L_79 wi_X12_quarrel ws_X12_X12_quarrel wn_X12 wk_X12_quarrel ⟨rfl, hd_X12_quarrel⟩ rfl ⟨by decide, by decide⟩ rfl rfl hl.1 rfl (Nat.le_of_ble_eq_true rfl) dL_law_747 ⟨by show cells + 1 + 0 ≤ 600000; omega, by show slots + 4 + 0 ≤ 7302249; omega⟩ (fun v_ u_ H locs h_ I => ?_)
  obtain ⟨rfl, rfl⟩ := h_
  have I := IX.swap (w0 := wM cy q2 ((sp_quarrel N R (xs (i + 1)) (xs (i + 2)) (xs (i + 3)) (xs (i + 4))).2.1) ((sp_quarrel N R (xs (i + 1)) (xs (i + 2)) (xs (i + 3)) (xs (i + 4))).2.2) X) (wr := wX cy q1 K1 C1 O1 L1 f1) I
  have I : IX D A s.heap (wX cy q1 K1 C1 O1 L1 f1 ++ wM cy q2 ((sp_quarrel N R (xs (i + 1)) (xs (i + 2)) (xs (i + 3)) (xs (i + 4))).2.1) ((sp_quarrel N R (xs (i + 1)) (xs (i + 2)) (xs (i + 3)) (xs (i + 4))).2.2) X) H locs := I
  refine W.eq (g2 := F0 m 750 ls [.int ((sp_quarrel N R (xs (i + 1)) (xs (i + 2)) (xs (i + 3)) (xs (i + 4))).1), .int ((sp_quarrel N R (xs (i + 1)) (xs (i + 2)) (xs (i + 3)) (xs (i + 4))).1)]) rfl ?_
  refine lv_icmp_eq (tgt := 972) S.1 S.2.1 dL_law_750 (by decide) (fun c_750 => ?_) (fun c_750 => ?_)
  · skip
    refine W.widen (k := cells + 1) (n := slots + 6) (by show cells + 1 + 0 ≤ cells + 1; omega) (by show slots + 4 + 0 ≤ slots + 6; omega) ?_
    exact kk _ _ _ _ _ _ _ _ _ _ (WF_quarrel hW) (by rw [n30_quarrel]; omega) hrc1 I
  · skip
    exact absurd rfl c_750
set_option maxHeartbeats 4000000 in
set_option maxRecDepth 100000 in
theorem lw_k15 (S : CallFix p m c code 4 s args (Cond.initialized RL :: uT) RL) (hK : KX D cy s) (hA : ∀ q, s.heap.size ≤ q → A q) (I : IX D A s.heap (wX cy q1 K C O L f ++ wM cy q2 N R X) H locs) (hX : va_X b Ln xs s s.heap) (hbl : b < s.heap.size) (hbA : ¬ A b) (hi : i + 7 ≤ Ln) (hL : Ln ≤ 3584) (hc : cells ≤ 10000) (hs : slots ≤ 100000) (hn : n < 3584) (hl : lv_has ls 4 [(3, .int (nI i)), (2, .ref (q2 33)), (1, .ref (q1 0)), (0, .ref b)]) (hW : WFm N R) (h30 : N 30 ≤ n) (hrc : RelC K C O L f N R)
    (kk : ∀ (K2 : Nat → Nat) (C2 : Nat → Nat → Int32) (O2 : Nat → Nat → Option Nat) (L2 : List Nat) (f2 : Nat → va_E) (N2 : Nat → Nat) (R2 X2 : Nat → Nat → Int32) (H2 : Heap) (locs2 : List Loc), WFm N2 R2 → N2 30 ≤ n + 1 → RelC K2 C2 O2 L2 f2 N2 R2 → IX D A s.heap (wX cy q1 K2 C2 O2 L2 f2 ++ wM cy q2 N2 R2 X2) H2 locs2 → W p l e room_1 s m args below meth c H2 locs2 (cells + 1) (slots + 6) Q (F0 m 972 ls [])) : W p l e room_1 s m args below meth c H locs cells slots Q (F0 m 755 ls []) := by
  refine lv_aload_n S.1 S.2.1 dL_law_755 rfl (lv_at hl 2 rfl) ?_
  refine lv_aload_n S.1 S.2.1 dL_law_756 rfl (lv_at hl 3 rfl) ?_
  refine lv_iload_n S.1 S.2.1 dL_law_757 rfl (lv_at hl 0 rfl) ?_
  refine lv_iconst (v := nI 1) S.1 S.2.1 dL_law_758 (by decide) ?_
  refine lv_iadd S.1 S.2.1 dL_law_759 ?_
  refine tI (y := nI (i + 1)) (nI_add _ _) ?_
  refine rS (k := i + 1) S hX hbl hbA I (by omega) hL dL_law_760 ?_
  refine cVF (np := 1) (ci := 11) (q0 := 0) (As := [.int (xs (i + 1))]) (rest := []) (w0 := wX cy q1 K C O L f) (wr := wM cy q2 N R X) S (x_riskWith l D cy q1 K C O L f N R (xs (i + 1)) hW hrc) hK hA I wm_L_80 wi_X11_riskWith ws_X11_X11_riskWith wn_X11 wk_X11_riskWith ⟨rfl, hd_X11_riskWith⟩ rfl ⟨by decide, by decide⟩ rfl rfl hl.1 rfl (Nat.le_of_ble_eq_true rfl) dL_law_761 ⟨by show cells + 0 ≤ 600000; omega, by show slots + 0 ≤ 7302249; omega⟩ (fun v_ u_ H locs h_ I => ?_)
  obtain ⟨rfl, hrc1⟩ := h_
  obtain ⟨K1, C1, O1, L1, f1⟩ := u_
  have I := IX.swap (w0 := wX cy q1 K1 C1 O1 L1 f1) (wr := wM cy q2 N R X) I
  have I : IX D A s.heap (wM cy q2 N R X ++ wX cy q1 K1 C1 O1 L1 f1) H locs := I
  refine W.eq (g2 := F0 m 764 ls [.int (sp_riskWith N R (xs (i + 1)))]) rfl ?_
  refine lv_aload_n S.1 S.2.1 dL_law_764 rfl (lv_at hl 1 rfl) ?_
  refine lv_aload_n S.1 S.2.1 dL_law_765 rfl (lv_at hl 3 rfl) ?_
  refine lv_iload_n S.1 S.2.1 dL_law_766 rfl (lv_at hl 0 rfl) ?_
  refine lv_iconst (v := nI 1) S.1 S.2.1 dL_law_767 (by decide) ?_
  refine lv_iadd S.1 S.2.1 dL_law_768 ?_
  refine tI (y := nI (i + 1)) (nI_add _ _) ?_
  refine rS (k := i + 1) S hX hbl hbA I (by omega) hL dL_law_769 ?_
  refine cVF (np := 1) (ci := 12) (q0 := 0) (As := [.int (xs (i + 1))]) (rest := [.int (sp_riskWith N R (xs (i + 1)))]) (w0 := wM cy q2 N R X) (wr := wX cy q1 K1 C1 O1 L1 f1) S (c_riskWith l D cy q2 N R X (xs (i + 1)) hW) hK hA I wm_L_83 wi_X12_riskWith ws_X12_X12_riskWith wn_X12 wk_X12_riskWith ⟨rfl, hd_X12_riskWith⟩ rfl ⟨by decide, by decide⟩ rfl rfl hl.1 rfl (Nat.le_of_ble_eq_true rfl) dL_law_770 ⟨by show cells + 0 + 0 ≤ 600000; omega, by show slots + 0 + 0 ≤ 7302249; omega⟩ (fun v_ u_ H locs h_ I => ?_)
  obtain rfl := h_
  have I := IX.swap (w0 := wM cy q2 N R u_) (wr := wX cy q1 K1 C1 O1 L1 f1) I
  have I : IX D A s.heap (wX cy q1 K1 C1 O1 L1 f1 ++ wM cy q2 N R u_) H locs := I
  refine W.eq (g2 := F0 m 773 ls [.int (sp_riskWith N R (xs (i + 1))), .int (sp_riskWith N R (xs (i + 1)))]) rfl ?_
  refine lv_icmp_eq (tgt := 972) S.1 S.2.1 dL_law_773 (by decide) (fun c_773 => ?_) (fun c_773 => ?_)
  · skip
    refine W.widen (k := cells + 1) (n := slots + 6) (by show cells + 0 + 0 ≤ cells + 1; omega) (by show slots + 0 + 0 ≤ slots + 6; omega) ?_
    exact kk _ _ _ _ _ _ _ _ _ _ hW (by omega) hrc1 I
  · skip
    exact absurd rfl c_773
set_option maxHeartbeats 4000000 in
set_option maxRecDepth 100000 in
theorem lw_k16 (S : CallFix p m c code 4 s args (Cond.initialized RL :: uT) RL) (hK : KX D cy s) (hA : ∀ q, s.heap.size ≤ q → A q) (I : IX D A s.heap (wX cy q1 K C O L f ++ wM cy q2 N R X) H locs) (hX : va_X b Ln xs s s.heap) (hbl : b < s.heap.size) (hbA : ¬ A b) (hi : i + 7 ≤ Ln) (hL : Ln ≤ 3584) (hc : cells ≤ 10000) (hs : slots ≤ 100000) (hn : n < 3584) (hl : lv_has ls 4 [(3, .int (nI i)), (2, .ref (q2 33)), (1, .ref (q1 0)), (0, .ref b)]) (hW : WFm N R) (h30 : N 30 ≤ n) (hrc : RelC K C O L f N R)
    (kk : ∀ (K2 : Nat → Nat) (C2 : Nat → Nat → Int32) (O2 : Nat → Nat → Option Nat) (L2 : List Nat) (f2 : Nat → va_E) (N2 : Nat → Nat) (R2 X2 : Nat → Nat → Int32) (H2 : Heap) (locs2 : List Loc), WFm N2 R2 → N2 30 ≤ n + 1 → RelC K2 C2 O2 L2 f2 N2 R2 → IX D A s.heap (wX cy q1 K2 C2 O2 L2 f2 ++ wM cy q2 N2 R2 X2) H2 locs2 → W p l e room_1 s m args below meth c H2 locs2 (cells + 1) (slots + 6) Q (F0 m 972 ls [])) : W p l e room_1 s m args below meth c H locs cells slots Q (F0 m 778 ls []) := by
  refine lv_aload_n S.1 S.2.1 dL_law_778 rfl (lv_at hl 2 rfl) ?_
  refine lv_aload_n S.1 S.2.1 dL_law_779 rfl (lv_at hl 3 rfl) ?_
  refine lv_iload_n S.1 S.2.1 dL_law_780 rfl (lv_at hl 0 rfl) ?_
  refine lv_iconst (v := nI 1) S.1 S.2.1 dL_law_781 (by decide) ?_
  refine lv_iadd S.1 S.2.1 dL_law_782 ?_
  refine tI (y := nI (i + 1)) (nI_add _ _) ?_
  refine rS (k := i + 1) S hX hbl hbA I (by omega) hL dL_law_783 ?_
  refine cVF (np := 1) (ci := 11) (q0 := 0) (As := [.int (xs (i + 1))]) (rest := []) (w0 := wX cy q1 K C O L f) (wr := wM cy q2 N R X) S (x_sound l D cy q1 K C O L f N R (xs (i + 1)) hW hrc) hK hA I wm_L_84 wi_X11_sound ws_X11_X11_sound wn_X11 wk_X11_sound ⟨rfl, hd_X11_sound⟩ rfl ⟨by decide, by decide⟩ rfl rfl hl.1 rfl (Nat.le_of_ble_eq_true rfl) dL_law_784 ⟨by show cells + 0 ≤ 600000; omega, by show slots + 0 ≤ 7302249; omega⟩ (fun v_ u_ H locs h_ I => ?_)
  obtain ⟨rfl, hrc1⟩ := h_
  obtain ⟨K1, C1, O1, L1, f1⟩ := u_
  have I := IX.swap (w0 := wX cy q1 K1 C1 O1 L1 f1) (wr := wM cy q2 N R X) I
  have I : IX D A s.heap (wM cy q2 N R X ++ wX cy q1 K1 C1 O1 L1 f1) H locs := I
  refine W.eq (g2 := F0 m 787 ls [.int (sp_sound N R (xs (i + 1)))]) rfl ?_
  refine lv_aload_n S.1 S.2.1 dL_law_787 rfl (lv_at hl 1 rfl) ?_
  refine lv_aload_n S.1 S.2.1 dL_law_788 rfl (lv_at hl 3 rfl) ?_
  refine lv_iload_n S.1 S.2.1 dL_law_789 rfl (lv_at hl 0 rfl) ?_
  refine lv_iconst (v := nI 1) S.1 S.2.1 dL_law_790 (by decide) ?_
  refine lv_iadd S.1 S.2.1 dL_law_791 ?_
  refine tI (y := nI (i + 1)) (nI_add _ _) ?_
  refine rS (k := i + 1) S hX hbl hbA I (by omega) hL dL_law_792 ?_
  refine cVF (np := 1) (ci := 12) (q0 := 0) (As := [.int (xs (i + 1))]) (rest := [.int (sp_sound N R (xs (i + 1)))]) (w0 := wM cy q2 N R X) (wr := wX cy q1 K1 C1 O1 L1 f1) S (c_sound l D cy q2 N R X (xs (i + 1)) hW) hK hA I wm_L_87 wi_X12_sound ws_X12_X12_sound wn_X12 wk_X12_sound ⟨rfl, hd_X12_sound⟩ rfl ⟨by decide, by decide⟩ rfl rfl hl.1 rfl (Nat.le_of_ble_eq_true rfl) dL_law_793 ⟨by show cells + 0 + 0 ≤ 600000; omega, by show slots + 0 + 0 ≤ 7302249; omega⟩ (fun v_ u_ H locs h_ I => ?_)
  obtain rfl := h_
  have I := IX.swap (w0 := wM cy q2 N R u_) (wr := wX cy q1 K1 C1 O1 L1 f1) I
  have I : IX D A s.heap (wX cy q1 K1 C1 O1 L1 f1 ++ wM cy q2 N R u_) H locs := I
  refine W.eq (g2 := F0 m 796 ls [.int (sp_sound N R (xs (i + 1))), .int (sp_sound N R (xs (i + 1)))]) rfl ?_
  refine lv_icmp_eq (tgt := 972) S.1 S.2.1 dL_law_796 (by decide) (fun c_796 => ?_) (fun c_796 => ?_)
  · skip
    refine W.widen (k := cells + 1) (n := slots + 6) (by show cells + 0 + 0 ≤ cells + 1; omega) (by show slots + 0 + 0 ≤ slots + 6; omega) ?_
    exact kk _ _ _ _ _ _ _ _ _ _ hW (by omega) hrc1 I
  · skip
    exact absurd rfl c_796
set_option maxHeartbeats 4000000 in
set_option maxRecDepth 100000 in
theorem lw_k17 (S : CallFix p m c code 4 s args (Cond.initialized RL :: uT) RL) (hK : KX D cy s) (hA : ∀ q, s.heap.size ≤ q → A q) (I : IX D A s.heap (wX cy q1 K C O L f ++ wM cy q2 N R X) H locs) (hX : va_X b Ln xs s s.heap) (hbl : b < s.heap.size) (hbA : ¬ A b) (hi : i + 7 ≤ Ln) (hL : Ln ≤ 3584) (hc : cells ≤ 10000) (hs : slots ≤ 100000) (hn : n < 3584) (hl : lv_has ls 4 [(3, .int (nI i)), (2, .ref (q2 33)), (1, .ref (q1 0)), (0, .ref b)]) (hW : WFm N R) (h30 : N 30 ≤ n) (hrc : RelC K C O L f N R)
    (kk : ∀ (K2 : Nat → Nat) (C2 : Nat → Nat → Int32) (O2 : Nat → Nat → Option Nat) (L2 : List Nat) (f2 : Nat → va_E) (N2 : Nat → Nat) (R2 X2 : Nat → Nat → Int32) (H2 : Heap) (locs2 : List Loc), WFm N2 R2 → N2 30 ≤ n + 1 → RelC K2 C2 O2 L2 f2 N2 R2 → IX D A s.heap (wX cy q1 K2 C2 O2 L2 f2 ++ wM cy q2 N2 R2 X2) H2 locs2 → W p l e room_1 s m args below meth c H2 locs2 (cells + 1) (slots + 6) Q (F0 m 972 ls [])) : W p l e room_1 s m args below meth c H locs cells slots Q (F0 m 801 ls []) := by
  refine lv_aload_n S.1 S.2.1 dL_law_801 rfl (lv_at hl 2 rfl) ?_
  refine lv_aload_n S.1 S.2.1 dL_law_802 rfl (lv_at hl 3 rfl) ?_
  refine lv_iload_n S.1 S.2.1 dL_law_803 rfl (lv_at hl 0 rfl) ?_
  refine lv_iconst (v := nI 1) S.1 S.2.1 dL_law_804 (by decide) ?_
  refine lv_iadd S.1 S.2.1 dL_law_805 ?_
  refine tI (y := nI (i + 1)) (nI_add _ _) ?_
  refine rS (k := i + 1) S hX hbl hbA I (by omega) hL dL_law_806 ?_
  refine lv_aload_n S.1 S.2.1 dL_law_807 rfl (lv_at hl 3 rfl) ?_
  refine lv_iload_n S.1 S.2.1 dL_law_808 rfl (lv_at hl 0 rfl) ?_
  refine lv_iconst (v := nI 2) S.1 S.2.1 dL_law_809 (by decide) ?_
  refine lv_iadd S.1 S.2.1 dL_law_810 ?_
  refine tI (y := nI (i + 2)) (nI_add _ _) ?_
  refine rS (k := i + 2) S hX hbl hbA I (by omega) hL dL_law_811 ?_
  refine cVF (np := 2) (ci := 11) (q0 := 0) (As := [.int (xs (i + 1)), .int (xs (i + 2))]) (rest := []) (w0 := wX cy q1 K C O L f) (wr := wM cy q2 N R X) S (x_gain l D cy q1 K C O L f N R (xs (i + 1)) (xs (i + 2)) hW hrc) hK hA I wm_L_88 wi_X11_gain ws_X11_X11_gain wn_X11 wk_X11_gain ⟨rfl, hd_X11_gain⟩ rfl ⟨by decide, by decide⟩ rfl rfl hl.1 rfl (Nat.le_of_ble_eq_true rfl) dL_law_812 ⟨by show cells + 0 ≤ 600000; omega, by show slots + 0 ≤ 7302249; omega⟩ (fun v_ u_ H locs h_ I => ?_)
  obtain ⟨rfl, hrc1⟩ := h_
  obtain ⟨K1, C1, O1, L1, f1⟩ := u_
  have I := IX.swap (w0 := wX cy q1 K1 C1 O1 L1 f1) (wr := wM cy q2 N R X) I
  have I : IX D A s.heap (wM cy q2 N R X ++ wX cy q1 K1 C1 O1 L1 f1) H locs := I
  refine W.eq (g2 := F0 m 815 ls [.int (sp_gain N R (xs (i + 1)) (xs (i + 2)))]) rfl ?_
  refine lv_aload_n S.1 S.2.1 dL_law_815 rfl (lv_at hl 1 rfl) ?_
  refine lv_aload_n S.1 S.2.1 dL_law_816 rfl (lv_at hl 3 rfl) ?_
  refine lv_iload_n S.1 S.2.1 dL_law_817 rfl (lv_at hl 0 rfl) ?_
  refine lv_iconst (v := nI 1) S.1 S.2.1 dL_law_818 (by decide) ?_
  refine lv_iadd S.1 S.2.1 dL_law_819 ?_
  refine tI (y := nI (i + 1)) (nI_add _ _) ?_
  refine rS (k := i + 1) S hX hbl hbA I (by omega) hL dL_law_820 ?_
  refine lv_aload_n S.1 S.2.1 dL_law_821 rfl (lv_at hl 3 rfl) ?_
  refine lv_iload_n S.1 S.2.1 dL_law_822 rfl (lv_at hl 0 rfl) ?_
  refine lv_iconst (v := nI 2) S.1 S.2.1 dL_law_823 (by decide) ?_
  refine lv_iadd S.1 S.2.1 dL_law_824 ?_
  refine tI (y := nI (i + 2)) (nI_add _ _) ?_
  refine rS (k := i + 2) S hX hbl hbA I (by omega) hL dL_law_825 ?_
  refine cVF (np := 2) (ci := 12) (q0 := 0) (As := [.int (xs (i + 1)), .int (xs (i + 2))]) (rest := [.int (sp_gain N R (xs (i + 1)) (xs (i + 2)))]) (w0 := wM cy q2 N R X) (wr := wX cy q1 K1 C1 O1 L1 f1) S (c_gain l D cy q2 N R X (xs (i + 1)) (xs (i + 2)) hW) hK hA I wm_L_91 wi_X12_gain ws_X12_X12_gain wn_X12 wk_X12_gain ⟨rfl, hd_X12_gain⟩ rfl ⟨by decide, by decide⟩ rfl rfl hl.1 rfl (Nat.le_of_ble_eq_true rfl) dL_law_826 ⟨by show cells + 0 + 0 ≤ 600000; omega, by show slots + 0 + 0 ≤ 7302249; omega⟩ (fun v_ u_ H locs h_ I => ?_)
  obtain rfl := h_
  have I := IX.swap (w0 := wM cy q2 N R u_) (wr := wX cy q1 K1 C1 O1 L1 f1) I
  have I : IX D A s.heap (wX cy q1 K1 C1 O1 L1 f1 ++ wM cy q2 N R u_) H locs := I
  refine W.eq (g2 := F0 m 829 ls [.int (sp_gain N R (xs (i + 1)) (xs (i + 2))), .int (sp_gain N R (xs (i + 1)) (xs (i + 2)))]) rfl ?_
  refine lv_icmp_eq (tgt := 972) S.1 S.2.1 dL_law_829 (by decide) (fun c_829 => ?_) (fun c_829 => ?_)
  · skip
    refine W.widen (k := cells + 1) (n := slots + 6) (by show cells + 0 + 0 ≤ cells + 1; omega) (by show slots + 0 + 0 ≤ slots + 6; omega) ?_
    exact kk _ _ _ _ _ _ _ _ _ _ hW (by omega) hrc1 I
  · skip
    exact absurd rfl c_829
set_option maxHeartbeats 4000000 in
set_option maxRecDepth 100000 in
theorem lw_k18 (S : CallFix p m c code 4 s args (Cond.initialized RL :: uT) RL) (hK : KX D cy s) (hA : ∀ q, s.heap.size ≤ q → A q) (I : IX D A s.heap (wX cy q1 K C O L f ++ wM cy q2 N R X) H locs) (hX : va_X b Ln xs s s.heap) (hbl : b < s.heap.size) (hbA : ¬ A b) (hi : i + 7 ≤ Ln) (hL : Ln ≤ 3584) (hc : cells ≤ 10000) (hs : slots ≤ 100000) (hn : n < 3584) (hl : lv_has ls 4 [(3, .int (nI i)), (2, .ref (q2 33)), (1, .ref (q1 0)), (0, .ref b)]) (hW : WFm N R) (h30 : N 30 ≤ n) (hrc : RelC K C O L f N R)
    (kk : ∀ (K2 : Nat → Nat) (C2 : Nat → Nat → Int32) (O2 : Nat → Nat → Option Nat) (L2 : List Nat) (f2 : Nat → va_E) (N2 : Nat → Nat) (R2 X2 : Nat → Nat → Int32) (H2 : Heap) (locs2 : List Loc), WFm N2 R2 → N2 30 ≤ n + 1 → RelC K2 C2 O2 L2 f2 N2 R2 → IX D A s.heap (wX cy q1 K2 C2 O2 L2 f2 ++ wM cy q2 N2 R2 X2) H2 locs2 → W p l e room_1 s m args below meth c H2 locs2 (cells + 1) (slots + 6) Q (F0 m 972 ls [])) : W p l e room_1 s m args below meth c H locs cells slots Q (F0 m 834 ls []) := by
  refine lv_aload_n S.1 S.2.1 dL_law_834 rfl (lv_at hl 2 rfl) ?_
  refine lv_aload_n S.1 S.2.1 dL_law_835 rfl (lv_at hl 3 rfl) ?_
  refine lv_iload_n S.1 S.2.1 dL_law_836 rfl (lv_at hl 0 rfl) ?_
  refine lv_iconst (v := nI 1) S.1 S.2.1 dL_law_837 (by decide) ?_
  refine lv_iadd S.1 S.2.1 dL_law_838 ?_
  refine tI (y := nI (i + 1)) (nI_add _ _) ?_
  refine rS (k := i + 1) S hX hbl hbA I (by omega) hL dL_law_839 ?_
  refine cVF (np := 1) (ci := 11) (q0 := 0) (As := [.int (xs (i + 1))]) (rest := []) (w0 := wX cy q1 K C O L f) (wr := wM cy q2 N R X) S (x_next l D cy q1 K C O L f N R (xs (i + 1)) hW hrc) hK hA I wm_L_92 wi_X11_next ws_X11_X11_next wn_X11 wk_X11_next ⟨rfl, hd_X11_next⟩ rfl ⟨by decide, by decide⟩ rfl rfl hl.1 rfl (Nat.le_of_ble_eq_true rfl) dL_law_840 ⟨by show cells + 0 ≤ 600000; omega, by show slots + 0 ≤ 7302249; omega⟩ (fun v_ u_ H locs h_ I => ?_)
  obtain ⟨rfl, hrc1⟩ := h_
  obtain ⟨K1, C1, O1, L1, f1⟩ := u_
  have I := IX.swap (w0 := wX cy q1 K1 C1 O1 L1 f1) (wr := wM cy q2 N R X) I
  have I : IX D A s.heap (wM cy q2 N R X ++ wX cy q1 K1 C1 O1 L1 f1) H locs := I
  refine W.eq (g2 := F0 m 843 ls [.int (sp_next N R (xs (i + 1)))]) rfl ?_
  refine lv_aload_n S.1 S.2.1 dL_law_843 rfl (lv_at hl 1 rfl) ?_
  refine lv_aload_n S.1 S.2.1 dL_law_844 rfl (lv_at hl 3 rfl) ?_
  refine lv_iload_n S.1 S.2.1 dL_law_845 rfl (lv_at hl 0 rfl) ?_
  refine lv_iconst (v := nI 1) S.1 S.2.1 dL_law_846 (by decide) ?_
  refine lv_iadd S.1 S.2.1 dL_law_847 ?_
  refine tI (y := nI (i + 1)) (nI_add _ _) ?_
  refine rS (k := i + 1) S hX hbl hbA I (by omega) hL dL_law_848 ?_
  refine cVF (np := 1) (ci := 12) (q0 := 0) (As := [.int (xs (i + 1))]) (rest := [.int (sp_next N R (xs (i + 1)))]) (w0 := wM cy q2 N R X) (wr := wX cy q1 K1 C1 O1 L1 f1) S (c_next l D cy q2 N R X (xs (i + 1)) hW) hK hA I wm_L_95 wi_X12_next ws_X12_X12_next wn_X12 wk_X12_next ⟨rfl, hd_X12_next⟩ rfl ⟨by decide, by decide⟩ rfl rfl hl.1 rfl (Nat.le_of_ble_eq_true rfl) dL_law_849 ⟨by show cells + 0 + 0 ≤ 600000; omega, by show slots + 0 + 0 ≤ 7302249; omega⟩ (fun v_ u_ H locs h_ I => ?_)
  obtain rfl := h_
  have I := IX.swap (w0 := wM cy q2 N R u_) (wr := wX cy q1 K1 C1 O1 L1 f1) I
  have I : IX D A s.heap (wX cy q1 K1 C1 O1 L1 f1 ++ wM cy q2 N R u_) H locs := I
  refine W.eq (g2 := F0 m 852 ls [.int (sp_next N R (xs (i + 1))), .int (sp_next N R (xs (i + 1)))]) rfl ?_
  refine lv_icmp_eq (tgt := 972) S.1 S.2.1 dL_law_852 (by decide) (fun c_852 => ?_) (fun c_852 => ?_)
  · skip
    refine W.widen (k := cells + 1) (n := slots + 6) (by show cells + 0 + 0 ≤ cells + 1; omega) (by show slots + 0 + 0 ≤ slots + 6; omega) ?_
    exact kk _ _ _ _ _ _ _ _ _ _ hW (by omega) hrc1 I
  · skip
    exact absurd rfl c_852
set_option maxHeartbeats 4000000 in
set_option maxRecDepth 100000 in
theorem lw_k19 (S : CallFix p m c code 4 s args (Cond.initialized RL :: uT) RL) (hK : KX D cy s) (hA : ∀ q, s.heap.size ≤ q → A q) (I : IX D A s.heap (wX cy q1 K C O L f ++ wM cy q2 N R X) H locs) (hX : va_X b Ln xs s s.heap) (hbl : b < s.heap.size) (hbA : ¬ A b) (hi : i + 7 ≤ Ln) (hL : Ln ≤ 3584) (hc : cells ≤ 10000) (hs : slots ≤ 100000) (hn : n < 3584) (hl : lv_has ls 4 [(3, .int (nI i)), (2, .ref (q2 33)), (1, .ref (q1 0)), (0, .ref b)]) (hW : WFm N R) (h30 : N 30 ≤ n) (hrc : RelC K C O L f N R)
    (kk : ∀ (K2 : Nat → Nat) (C2 : Nat → Nat → Int32) (O2 : Nat → Nat → Option Nat) (L2 : List Nat) (f2 : Nat → va_E) (N2 : Nat → Nat) (R2 X2 : Nat → Nat → Int32) (H2 : Heap) (locs2 : List Loc), WFm N2 R2 → N2 30 ≤ n + 1 → RelC K2 C2 O2 L2 f2 N2 R2 → IX D A s.heap (wX cy q1 K2 C2 O2 L2 f2 ++ wM cy q2 N2 R2 X2) H2 locs2 → W p l e room_1 s m args below meth c H2 locs2 (cells + 1) (slots + 6) Q (F0 m 972 ls [])) : W p l e room_1 s m args below meth c H locs cells slots Q (F0 m 857 ls []) := by
  refine lv_aload_n S.1 S.2.1 dL_law_857 rfl (lv_at hl 2 rfl) ?_
  refine lv_aload_n S.1 S.2.1 dL_law_858 rfl (lv_at hl 3 rfl) ?_
  refine lv_iload_n S.1 S.2.1 dL_law_859 rfl (lv_at hl 0 rfl) ?_
  refine lv_iconst (v := nI 1) S.1 S.2.1 dL_law_860 (by decide) ?_
  refine lv_iadd S.1 S.2.1 dL_law_861 ?_
  refine tI (y := nI (i + 1)) (nI_add _ _) ?_
  refine rS (k := i + 1) S hX hbl hbA I (by omega) hL dL_law_862 ?_
  refine lv_aload_n S.1 S.2.1 dL_law_863 rfl (lv_at hl 3 rfl) ?_
  refine lv_iload_n S.1 S.2.1 dL_law_864 rfl (lv_at hl 0 rfl) ?_
  refine lv_iconst (v := nI 2) S.1 S.2.1 dL_law_865 (by decide) ?_
  refine lv_iadd S.1 S.2.1 dL_law_866 ?_
  refine tI (y := nI (i + 2)) (nI_add _ _) ?_
  refine rS (k := i + 2) S hX hbl hbA I (by omega) hL dL_law_867 ?_
  refine cVF (np := 2) (ci := 11) (q0 := 0) (As := [.int (xs (i + 1)), .int (xs (i + 2))]) (rest := []) (w0 := wX cy q1 K C O L f) (wr := wM cy q2 N R X) S (x_plan l D cy q1 K C O L f N R (xs (i + 1)) (xs (i + 2)) hW hrc) hK hA I wm_L_96 wi_X11_plan ws_X11_X11_plan wn_X11 wk_X11_plan ⟨rfl, hd_X11_plan⟩ rfl ⟨by decide, by decide⟩ rfl rfl hl.1 rfl (Nat.le_of_ble_eq_true rfl) dL_law_868 ⟨by show cells + 0 ≤ 600000; omega, by show slots + 0 ≤ 7302249; omega⟩ (fun v_ u_ H locs h_ I => ?_)
  obtain ⟨rfl, hrc1⟩ := h_
  obtain ⟨K1, C1, O1, L1, f1⟩ := u_
  have I := IX.swap (w0 := wX cy q1 K1 C1 O1 L1 f1) (wr := wM cy q2 N R X) I
  have I : IX D A s.heap (wM cy q2 N R X ++ wX cy q1 K1 C1 O1 L1 f1) H locs := I
  refine W.eq (g2 := F0 m 871 ls [.int ((sp_plan N R (xs (i + 1)) (xs (i + 2))).1)]) rfl ?_
  refine lv_aload_n S.1 S.2.1 dL_law_871 rfl (lv_at hl 1 rfl) ?_
  refine lv_aload_n S.1 S.2.1 dL_law_872 rfl (lv_at hl 3 rfl) ?_
  refine lv_iload_n S.1 S.2.1 dL_law_873 rfl (lv_at hl 0 rfl) ?_
  refine lv_iconst (v := nI 1) S.1 S.2.1 dL_law_874 (by decide) ?_
  refine lv_iadd S.1 S.2.1 dL_law_875 ?_
  refine tI (y := nI (i + 1)) (nI_add _ _) ?_
  refine rS (k := i + 1) S hX hbl hbA I (by omega) hL dL_law_876 ?_
  refine lv_aload_n S.1 S.2.1 dL_law_877 rfl (lv_at hl 3 rfl) ?_
  refine lv_iload_n S.1 S.2.1 dL_law_878 rfl (lv_at hl 0 rfl) ?_
  refine lv_iconst (v := nI 2) S.1 S.2.1 dL_law_879 (by decide) ?_
  refine lv_iadd S.1 S.2.1 dL_law_880 ?_
  refine tI (y := nI (i + 2)) (nI_add _ _) ?_
  refine rS (k := i + 2) S hX hbl hbA I (by omega) hL dL_law_881 ?_
  refine cVF (np := 2) (ci := 12) (q0 := 0) (As := [.int (xs (i + 1)), .int (xs (i + 2))]) (rest := [.int ((sp_plan N R (xs (i + 1)) (xs (i + 2))).1)]) (w0 := wM cy q2 N R X) (wr := wX cy q1 K1 C1 O1 L1 f1) S (c_plan l D cy q2 N R X (xs (i + 1)) (xs (i + 2)) hW) hK hA I wm_L_99 wi_X12_plan ws_X12_X12_plan wn_X12 wk_X12_plan ⟨rfl, hd_X12_plan⟩ rfl ⟨by decide, by decide⟩ rfl rfl hl.1 rfl (Nat.le_of_ble_eq_true rfl) dL_law_882 ⟨by show cells + 0 + 0 ≤ 600000; omega, by show slots + 0 + 0 ≤ 7302249; omega⟩ (fun v_ u_ H locs h_ I => ?_)
  obtain ⟨u1_, X2⟩ := u_
  obtain ⟨rfl, hu⟩ := h_
  obtain rfl : u1_ = (sp_plan N R (xs (i + 1)) (xs (i + 2))).2 := hu
  have I := IX.swap (w0 := wM cy q2 ((sp_plan N R (xs (i + 1)) (xs (i + 2))).2.1) ((sp_plan N R (xs (i + 1)) (xs (i + 2))).2.2) X2) (wr := wX cy q1 K1 C1 O1 L1 f1) I
  have I : IX D A s.heap (wX cy q1 K1 C1 O1 L1 f1 ++ wM cy q2 ((sp_plan N R (xs (i + 1)) (xs (i + 2))).2.1) ((sp_plan N R (xs (i + 1)) (xs (i + 2))).2.2) X2) H locs := I
  refine W.eq (g2 := F0 m 885 ls [.int ((sp_plan N R (xs (i + 1)) (xs (i + 2))).1), .int ((sp_plan N R (xs (i + 1)) (xs (i + 2))).1)]) rfl ?_
  refine lv_icmp_eq (tgt := 972) S.1 S.2.1 dL_law_885 (by decide) (fun c_885 => ?_) (fun c_885 => ?_)
  · skip
    refine W.widen (k := cells + 1) (n := slots + 6) (by show cells + 0 + 0 ≤ cells + 1; omega) (by show slots + 0 + 0 ≤ slots + 6; omega) ?_
    exact kk _ _ _ _ _ _ _ _ _ _ (WF_plan (by omega) hW) (Nat.le_trans n30_plan (by omega)) hrc1 I
  · skip
    exact absurd rfl c_885
set_option maxHeartbeats 4000000 in
set_option maxRecDepth 100000 in
theorem lw_k20 (S : CallFix p m c code 4 s args (Cond.initialized RL :: uT) RL) (hK : KX D cy s) (hA : ∀ q, s.heap.size ≤ q → A q) (I : IX D A s.heap (wX cy q1 K C O L f ++ wM cy q2 N R X) H locs) (hX : va_X b Ln xs s s.heap) (hbl : b < s.heap.size) (hbA : ¬ A b) (hi : i + 7 ≤ Ln) (hL : Ln ≤ 3584) (hc : cells ≤ 10000) (hs : slots ≤ 100000) (hn : n < 3584) (hl : lv_has ls 4 [(3, .int (nI i)), (2, .ref (q2 33)), (1, .ref (q1 0)), (0, .ref b)]) (hW : WFm N R) (h30 : N 30 ≤ n) (hrc : RelC K C O L f N R)
    (kk : ∀ (K2 : Nat → Nat) (C2 : Nat → Nat → Int32) (O2 : Nat → Nat → Option Nat) (L2 : List Nat) (f2 : Nat → va_E) (N2 : Nat → Nat) (R2 X2 : Nat → Nat → Int32) (H2 : Heap) (locs2 : List Loc), WFm N2 R2 → N2 30 ≤ n + 1 → RelC K2 C2 O2 L2 f2 N2 R2 → IX D A s.heap (wX cy q1 K2 C2 O2 L2 f2 ++ wM cy q2 N2 R2 X2) H2 locs2 → W p l e room_1 s m args below meth c H2 locs2 (cells + 1) (slots + 6) Q (F0 m 972 ls [])) : W p l e room_1 s m args below meth c H locs cells slots Q (F0 m 890 ls []) := by
  refine lv_aload_n S.1 S.2.1 dL_law_890 rfl (lv_at hl 2 rfl) ?_
  refine lv_aload_n S.1 S.2.1 dL_law_891 rfl (lv_at hl 3 rfl) ?_
  refine lv_iload_n S.1 S.2.1 dL_law_892 rfl (lv_at hl 0 rfl) ?_
  refine lv_iconst (v := nI 1) S.1 S.2.1 dL_law_893 (by decide) ?_
  refine lv_iadd S.1 S.2.1 dL_law_894 ?_
  refine tI (y := nI (i + 1)) (nI_add _ _) ?_
  refine rS (k := i + 1) S hX hbl hbA I (by omega) hL dL_law_895 ?_
  refine cVF (np := 1) (ci := 11) (q0 := 0) (As := [.int (xs (i + 1))]) (rest := []) (w0 := wX cy q1 K C O L f) (wr := wM cy q2 N R X) S (x_week l D cy q1 K C O L f N R (xs (i + 1)) hW hrc) hK hA I wm_L_100 wi_X11_week ws_X11_X11_week wn_X11 wk_X11_week ⟨rfl, hd_X11_week⟩ rfl ⟨by decide, by decide⟩ rfl rfl hl.1 rfl (Nat.le_of_ble_eq_true rfl) dL_law_896 ⟨by show cells + 0 ≤ 600000; omega, by show slots + 0 ≤ 7302249; omega⟩ (fun v_ u_ H locs h_ I => ?_)
  obtain ⟨rfl, hrc1⟩ := h_
  obtain ⟨K1, C1, O1, L1, f1⟩ := u_
  have I := IX.swap (w0 := wX cy q1 K1 C1 O1 L1 f1) (wr := wM cy q2 N R X) I
  have I : IX D A s.heap (wM cy q2 N R X ++ wX cy q1 K1 C1 O1 L1 f1) H locs := I
  refine W.eq (g2 := F0 m 899 ls [.int (sp_week N R (xs (i + 1)))]) rfl ?_
  refine lv_aload_n S.1 S.2.1 dL_law_899 rfl (lv_at hl 1 rfl) ?_
  refine lv_aload_n S.1 S.2.1 dL_law_900 rfl (lv_at hl 3 rfl) ?_
  refine lv_iload_n S.1 S.2.1 dL_law_901 rfl (lv_at hl 0 rfl) ?_
  refine lv_iconst (v := nI 1) S.1 S.2.1 dL_law_902 (by decide) ?_
  refine lv_iadd S.1 S.2.1 dL_law_903 ?_
  refine tI (y := nI (i + 1)) (nI_add _ _) ?_
  refine rS (k := i + 1) S hX hbl hbA I (by omega) hL dL_law_904 ?_
  refine cVF (np := 1) (ci := 12) (q0 := 0) (As := [.int (xs (i + 1))]) (rest := [.int (sp_week N R (xs (i + 1)))]) (w0 := wM cy q2 N R X) (wr := wX cy q1 K1 C1 O1 L1 f1) S (c_week l D cy q2 N R X (xs (i + 1)) hW) hK hA I wm_L_103 wi_X12_week ws_X12_X12_week wn_X12 wk_X12_week ⟨rfl, hd_X12_week⟩ rfl ⟨by decide, by decide⟩ rfl rfl hl.1 rfl (Nat.le_of_ble_eq_true rfl) dL_law_905 ⟨by show cells + 0 + 0 ≤ 600000; omega, by show slots + 0 + 0 ≤ 7302249; omega⟩ (fun v_ u_ H locs h_ I => ?_)
  obtain rfl := h_
  have I := IX.swap (w0 := wM cy q2 N R u_) (wr := wX cy q1 K1 C1 O1 L1 f1) I
  have I : IX D A s.heap (wX cy q1 K1 C1 O1 L1 f1 ++ wM cy q2 N R u_) H locs := I
  refine W.eq (g2 := F0 m 908 ls [.int (sp_week N R (xs (i + 1))), .int (sp_week N R (xs (i + 1)))]) rfl ?_
  refine lv_icmp_eq (tgt := 972) S.1 S.2.1 dL_law_908 (by decide) (fun c_908 => ?_) (fun c_908 => ?_)
  · skip
    refine W.widen (k := cells + 1) (n := slots + 6) (by show cells + 0 + 0 ≤ cells + 1; omega) (by show slots + 0 + 0 ≤ slots + 6; omega) ?_
    exact kk _ _ _ _ _ _ _ _ _ _ hW (by omega) hrc1 I
  · skip
    exact absurd rfl c_908
set_option maxHeartbeats 4000000 in
set_option maxRecDepth 100000 in
theorem lw_k21 (S : CallFix p m c code 4 s args (Cond.initialized RL :: uT) RL) (hK : KX D cy s) (hA : ∀ q, s.heap.size ≤ q → A q) (I : IX D A s.heap (wX cy q1 K C O L f ++ wM cy q2 N R X) H locs) (hX : va_X b Ln xs s s.heap) (hbl : b < s.heap.size) (hbA : ¬ A b) (hi : i + 7 ≤ Ln) (hL : Ln ≤ 3584) (hc : cells ≤ 10000) (hs : slots ≤ 100000) (hn : n < 3584) (hl : lv_has ls 4 [(3, .int (nI i)), (2, .ref (q2 33)), (1, .ref (q1 0)), (0, .ref b)]) (hW : WFm N R) (h30 : N 30 ≤ n) (hrc : RelC K C O L f N R)
    (kk : ∀ (K2 : Nat → Nat) (C2 : Nat → Nat → Int32) (O2 : Nat → Nat → Option Nat) (L2 : List Nat) (f2 : Nat → va_E) (N2 : Nat → Nat) (R2 X2 : Nat → Nat → Int32) (H2 : Heap) (locs2 : List Loc), WFm N2 R2 → N2 30 ≤ n + 1 → RelC K2 C2 O2 L2 f2 N2 R2 → IX D A s.heap (wX cy q1 K2 C2 O2 L2 f2 ++ wM cy q2 N2 R2 X2) H2 locs2 → W p l e room_1 s m args below meth c H2 locs2 (cells + 1) (slots + 6) Q (F0 m 972 ls [])) : W p l e room_1 s m args below meth c H locs cells slots Q (F0 m 913 ls []) := by
  refine lv_aload_n S.1 S.2.1 dL_law_913 rfl (lv_at hl 2 rfl) ?_
  refine cVF (np := 0) (ci := 11) (q0 := 0) (As := []) (rest := []) (w0 := wX cy q1 K C O L f) (wr := wM cy q2 N R X) S (x_moved l D cy q1 K C O L f N R  hW hrc) hK hA I wm_L_104 wi_X11_moved ws_X11_X11_moved wn_X11 wk_X11_moved ⟨rfl, hd_X11_moved⟩ rfl ⟨by decide, by decide⟩ rfl rfl hl.1 rfl (Nat.le_of_ble_eq_true rfl) dL_law_914 ⟨by show cells + 0 ≤ 600000; omega, by show slots + 0 ≤ 7302249; omega⟩ (fun v_ u_ H locs h_ I => ?_)
  obtain ⟨rfl, hrc1⟩ := h_
  obtain ⟨K1, C1, O1, L1, f1⟩ := u_
  have I := IX.swap (w0 := wX cy q1 K1 C1 O1 L1 f1) (wr := wM cy q2 N R X) I
  have I : IX D A s.heap (wM cy q2 N R X ++ wX cy q1 K1 C1 O1 L1 f1) H locs := I
  refine W.eq (g2 := F0 m 917 ls [.int (sp_moved N R)]) rfl ?_
  refine lv_aload_n S.1 S.2.1 dL_law_917 rfl (lv_at hl 1 rfl) ?_
  refine cVF (np := 0) (ci := 12) (q0 := 0) (As := []) (rest := [.int (sp_moved N R)]) (w0 := wM cy q2 N R X) (wr := wX cy q1 K1 C1 O1 L1 f1) S (c_moved l D cy q2 N R X  hW) hK hA I wm_L_107 wi_X12_moved ws_X12_X12_moved wn_X12 wk_X12_moved ⟨rfl, hd_X12_moved⟩ rfl ⟨by decide, by decide⟩ rfl rfl hl.1 rfl (Nat.le_of_ble_eq_true rfl) dL_law_918 ⟨by show cells + 0 + 0 ≤ 600000; omega, by show slots + 0 + 0 ≤ 7302249; omega⟩ (fun v_ u_ H locs h_ I => ?_)
  obtain rfl := h_
  have I := IX.swap (w0 := wM cy q2 N R u_) (wr := wX cy q1 K1 C1 O1 L1 f1) I
  have I : IX D A s.heap (wX cy q1 K1 C1 O1 L1 f1 ++ wM cy q2 N R u_) H locs := I
  refine W.eq (g2 := F0 m 921 ls [.int (sp_moved N R), .int (sp_moved N R)]) rfl ?_
  refine lv_icmp_eq (tgt := 972) S.1 S.2.1 dL_law_921 (by decide) (fun c_921 => ?_) (fun c_921 => ?_)
  · skip
    refine W.widen (k := cells + 1) (n := slots + 6) (by show cells + 0 + 0 ≤ cells + 1; omega) (by show slots + 0 + 0 ≤ slots + 6; omega) ?_
    exact kk _ _ _ _ _ _ _ _ _ _ hW (by omega) hrc1 I
  · skip
    exact absurd rfl c_921
set_option maxHeartbeats 4000000 in
set_option maxRecDepth 100000 in
theorem lw_k22 (S : CallFix p m c code 4 s args (Cond.initialized RL :: uT) RL) (hK : KX D cy s) (hA : ∀ q, s.heap.size ≤ q → A q) (I : IX D A s.heap (wX cy q1 K C O L f ++ wM cy q2 N R X) H locs) (hX : va_X b Ln xs s s.heap) (hbl : b < s.heap.size) (hbA : ¬ A b) (hi : i + 7 ≤ Ln) (hL : Ln ≤ 3584) (hc : cells ≤ 10000) (hs : slots ≤ 100000) (hn : n < 3584) (hl : lv_has ls 4 [(3, .int (nI i)), (2, .ref (q2 33)), (1, .ref (q1 0)), (0, .ref b)]) (hW : WFm N R) (h30 : N 30 ≤ n) (hrc : RelC K C O L f N R)
    (kk : ∀ (K2 : Nat → Nat) (C2 : Nat → Nat → Int32) (O2 : Nat → Nat → Option Nat) (L2 : List Nat) (f2 : Nat → va_E) (N2 : Nat → Nat) (R2 X2 : Nat → Nat → Int32) (H2 : Heap) (locs2 : List Loc), WFm N2 R2 → N2 30 ≤ n + 1 → RelC K2 C2 O2 L2 f2 N2 R2 → IX D A s.heap (wX cy q1 K2 C2 O2 L2 f2 ++ wM cy q2 N2 R2 X2) H2 locs2 → W p l e room_1 s m args below meth c H2 locs2 (cells + 1) (slots + 6) Q (F0 m 972 ls [])) : W p l e room_1 s m args below meth c H locs cells slots Q (F0 m 926 ls []) := by
  refine lv_aload_n S.1 S.2.1 dL_law_926 rfl (lv_at hl 2 rfl) ?_
  refine lv_aload_n S.1 S.2.1 dL_law_927 rfl (lv_at hl 3 rfl) ?_
  refine lv_iload_n S.1 S.2.1 dL_law_928 rfl (lv_at hl 0 rfl) ?_
  refine lv_iconst (v := nI 1) S.1 S.2.1 dL_law_929 (by decide) ?_
  refine lv_iadd S.1 S.2.1 dL_law_930 ?_
  refine tI (y := nI (i + 1)) (nI_add _ _) ?_
  refine rS (k := i + 1) S hX hbl hbA I (by omega) hL dL_law_931 ?_
  refine cVF (np := 1) (ci := 11) (q0 := 0) (As := [.int (xs (i + 1))]) (rest := []) (w0 := wX cy q1 K C O L f) (wr := wM cy q2 N R X) S (x_make l D cy q1 K C O L f N R (xs (i + 1)) hW hrc) hK hA I wm_L_108 wi_X11_make ws_X11_X11_make wn_X11 wk_X11_make ⟨rfl, hd_X11_make⟩ rfl ⟨by decide, by decide⟩ rfl rfl hl.1 rfl (Nat.le_of_ble_eq_true rfl) dL_law_932 ⟨by show cells + 0 ≤ 600000; omega, by show slots + 0 ≤ 7302249; omega⟩ (fun v_ u_ H locs h_ I => ?_)
  obtain ⟨rfl, hrc1⟩ := h_
  obtain ⟨K1, C1, O1, L1, f1⟩ := u_
  have I := IX.swap (w0 := wX cy q1 K1 C1 O1 L1 f1) (wr := wM cy q2 N R X) I
  have I : IX D A s.heap (wM cy q2 N R X ++ wX cy q1 K1 C1 O1 L1 f1) H locs := I
  refine W.eq (g2 := F0 m 935 ls [.int ((sp_make N R (xs (i + 1))).1)]) rfl ?_
  refine lv_aload_n S.1 S.2.1 dL_law_935 rfl (lv_at hl 1 rfl) ?_
  refine lv_aload_n S.1 S.2.1 dL_law_936 rfl (lv_at hl 3 rfl) ?_
  refine lv_iload_n S.1 S.2.1 dL_law_937 rfl (lv_at hl 0 rfl) ?_
  refine lv_iconst (v := nI 1) S.1 S.2.1 dL_law_938 (by decide) ?_
  refine lv_iadd S.1 S.2.1 dL_law_939 ?_
  refine tI (y := nI (i + 1)) (nI_add _ _) ?_
  refine rS (k := i + 1) S hX hbl hbA I (by omega) hL dL_law_940 ?_
  refine cVF (np := 1) (ci := 12) (q0 := 0) (As := [.int (xs (i + 1))]) (rest := [.int ((sp_make N R (xs (i + 1))).1)]) (w0 := wM cy q2 N R X) (wr := wX cy q1 K1 C1 O1 L1 f1) S (c_make l D cy q2 N R X (xs (i + 1)) hW) hK hA I wm_L_111 wi_X12_make ws_X12_X12_make wn_X12 wk_X12_make ⟨rfl, hd_X12_make⟩ rfl ⟨by decide, by decide⟩ rfl rfl hl.1 rfl (Nat.le_of_ble_eq_true rfl) dL_law_941 ⟨by show cells + 0 + 0 ≤ 600000; omega, by show slots + 0 + 0 ≤ 7302249; omega⟩ (fun v_ u_ H locs h_ I => ?_)
  obtain ⟨u1_, X2⟩ := u_
  obtain ⟨rfl, hu⟩ := h_
  obtain rfl : u1_ = (sp_make N R (xs (i + 1))).2 := hu
  have I := IX.swap (w0 := wM cy q2 ((sp_make N R (xs (i + 1))).2.1) ((sp_make N R (xs (i + 1))).2.2) X2) (wr := wX cy q1 K1 C1 O1 L1 f1) I
  have I : IX D A s.heap (wX cy q1 K1 C1 O1 L1 f1 ++ wM cy q2 ((sp_make N R (xs (i + 1))).2.1) ((sp_make N R (xs (i + 1))).2.2) X2) H locs := I
  refine W.eq (g2 := F0 m 944 ls [.int ((sp_make N R (xs (i + 1))).1), .int ((sp_make N R (xs (i + 1))).1)]) rfl ?_
  refine lv_icmp_eq (tgt := 972) S.1 S.2.1 dL_law_944 (by decide) (fun c_944 => ?_) (fun c_944 => ?_)
  · skip
    refine W.widen (k := cells + 1) (n := slots + 6) (by show cells + 0 + 0 ≤ cells + 1; omega) (by show slots + 0 + 0 ≤ slots + 6; omega) ?_
    exact kk _ _ _ _ _ _ _ _ _ _ (WF_make hW) (by rw [n30_make]; omega) hrc1 I
  · skip
    exact absurd rfl c_944
set_option maxHeartbeats 4000000 in
set_option maxRecDepth 100000 in
theorem lw_k23 (S : CallFix p m c code 4 s args (Cond.initialized RL :: uT) RL) (hK : KX D cy s) (hA : ∀ q, s.heap.size ≤ q → A q) (I : IX D A s.heap (wX cy q1 K C O L f ++ wM cy q2 N R X) H locs) (hX : va_X b Ln xs s s.heap) (hbl : b < s.heap.size) (hbA : ¬ A b) (hi : i + 7 ≤ Ln) (hL : Ln ≤ 3584) (hc : cells ≤ 10000) (hs : slots ≤ 100000) (hn : n < 3584) (hl : lv_has ls 4 [(3, .int (nI i)), (2, .ref (q2 33)), (1, .ref (q1 0)), (0, .ref b)]) (hW : WFm N R) (h30 : N 30 ≤ n) (hrc : RelC K C O L f N R)
    (kk : ∀ (K2 : Nat → Nat) (C2 : Nat → Nat → Int32) (O2 : Nat → Nat → Option Nat) (L2 : List Nat) (f2 : Nat → va_E) (N2 : Nat → Nat) (R2 X2 : Nat → Nat → Int32) (H2 : Heap) (locs2 : List Loc), WFm N2 R2 → N2 30 ≤ n + 1 → RelC K2 C2 O2 L2 f2 N2 R2 → IX D A s.heap (wX cy q1 K2 C2 O2 L2 f2 ++ wM cy q2 N2 R2 X2) H2 locs2 → W p l e room_1 s m args below meth c H2 locs2 (cells + 1) (slots + 6) Q (F0 m 972 ls [])) : W p l e room_1 s m args below meth c H locs cells slots Q (F0 m 949 ls []) := by
  refine lv_aload_n S.1 S.2.1 dL_law_949 rfl (lv_at hl 2 rfl) ?_
  refine lv_aload_n S.1 S.2.1 dL_law_950 rfl (lv_at hl 3 rfl) ?_
  refine lv_iload_n S.1 S.2.1 dL_law_951 rfl (lv_at hl 0 rfl) ?_
  refine lv_iconst (v := nI 1) S.1 S.2.1 dL_law_952 (by decide) ?_
  refine lv_iadd S.1 S.2.1 dL_law_953 ?_
  refine tI (y := nI (i + 1)) (nI_add _ _) ?_
  refine rS (k := i + 1) S hX hbl hbA I (by omega) hL dL_law_954 ?_
  refine cVF (np := 1) (ci := 11) (q0 := 0) (As := [.int (xs (i + 1))]) (rest := []) (w0 := wX cy q1 K C O L f) (wr := wM cy q2 N R X) S (x_count l D cy q1 K C O L f N R (xs (i + 1)) hW hrc) hK hA I wm_L_112 wi_X11_count ws_X11_X11_count wn_X11 wk_X11_count ⟨rfl, hd_X11_count⟩ rfl ⟨by decide, by decide⟩ rfl rfl hl.1 rfl (Nat.le_of_ble_eq_true rfl) dL_law_955 ⟨by show cells + 0 ≤ 600000; omega, by show slots + 0 ≤ 7302249; omega⟩ (fun v_ u_ H locs h_ I => ?_)
  obtain ⟨rfl, hrc1⟩ := h_
  obtain ⟨K1, C1, O1, L1, f1⟩ := u_
  have I := IX.swap (w0 := wX cy q1 K1 C1 O1 L1 f1) (wr := wM cy q2 N R X) I
  have I : IX D A s.heap (wM cy q2 N R X ++ wX cy q1 K1 C1 O1 L1 f1) H locs := I
  refine W.eq (g2 := F0 m 958 ls [.int (sp_count N R (xs (i + 1)))]) rfl ?_
  refine lv_aload_n S.1 S.2.1 dL_law_958 rfl (lv_at hl 1 rfl) ?_
  refine lv_aload_n S.1 S.2.1 dL_law_959 rfl (lv_at hl 3 rfl) ?_
  refine lv_iload_n S.1 S.2.1 dL_law_960 rfl (lv_at hl 0 rfl) ?_
  refine lv_iconst (v := nI 1) S.1 S.2.1 dL_law_961 (by decide) ?_
  refine lv_iadd S.1 S.2.1 dL_law_962 ?_
  refine tI (y := nI (i + 1)) (nI_add _ _) ?_
  refine rS (k := i + 1) S hX hbl hbA I (by omega) hL dL_law_963 ?_
  refine cVF (np := 1) (ci := 12) (q0 := 0) (As := [.int (xs (i + 1))]) (rest := [.int (sp_count N R (xs (i + 1)))]) (w0 := wM cy q2 N R X) (wr := wX cy q1 K1 C1 O1 L1 f1) S (c_count l D cy q2 N R X (xs (i + 1)) hW) hK hA I wm_L_115 wi_X12_count ws_X12_X12_count wn_X12 wk_X12_count ⟨rfl, hd_X12_count⟩ rfl ⟨by decide, by decide⟩ rfl rfl hl.1 rfl (Nat.le_of_ble_eq_true rfl) dL_law_964 ⟨by show cells + 0 + 0 ≤ 600000; omega, by show slots + 0 + 0 ≤ 7302249; omega⟩ (fun v_ u_ H locs h_ I => ?_)
  obtain rfl := h_
  have I := IX.swap (w0 := wM cy q2 N R u_) (wr := wX cy q1 K1 C1 O1 L1 f1) I
  have I : IX D A s.heap (wX cy q1 K1 C1 O1 L1 f1 ++ wM cy q2 N R u_) H locs := I
  refine W.eq (g2 := F0 m 967 ls [.int (sp_count N R (xs (i + 1))), .int (sp_count N R (xs (i + 1)))]) rfl ?_
  refine lv_icmp_eq (tgt := 972) S.1 S.2.1 dL_law_967 (by decide) (fun c_967 => ?_) (fun c_967 => ?_)
  · skip
    refine W.widen (k := cells + 1) (n := slots + 6) (by show cells + 0 + 0 ≤ cells + 1; omega) (by show slots + 0 + 0 ≤ slots + 6; omega) ?_
    exact kk _ _ _ _ _ _ _ _ _ _ hW (by omega) hrc1 I
  · skip
    exact absurd rfl c_967
theorem lw_gt {i Ln : Nat} (hi : i ≤ 10000) (hL : Ln ≤ 3584) (h : ¬ nI Ln - nI 7 < nI i) : i + 7 ≤ Ln := by
  rw [fa_lt, pk_sub_toInt (by omega) (by decide), nI_toInt (by omega)] at h
  omega
theorem sw_24 (x : Int32) : (∃ k : Nat, k < 24 ∧ x = nI k) ∨ (x.toInt < 0 ∨ 23 < x.toInt) := by
  by_cases h : 0 ≤ x.toInt ∧ x.toInt < 24
  · obtain ⟨j, hj, e⟩ := isP_of (n := 24) (x := x) (decide_eq_true h) (by decide)
    exact Or.inl ⟨j, hj, e⟩
  · exact Or.inr (by omega)
set_option maxHeartbeats 4000000 in
set_option maxRecDepth 100000 in
theorem law_loop (S : CallFix p m c code 4 s #[Value.ref b] (Cond.initialized RL :: uT) RL) (hr : meth.sig.returnType = ret) (hlocks : meth.locks = false) (hK : KX D cy s) (hX : va_X b Ln xs s s.heap) (hbl : b < s.heap.size) (hL : Ln ≤ 3584) :
    ∀ (r n i : Nat) (K : Nat → Nat) (C : Nat → Nat → Int32) (O : Nat → Nat → Option Nat) (L : List Nat) (f : Nat → va_E) (N : Nat → Nat) (R X : Nat → Nat → Int32) (H : Heap) (locs : List Loc) (ls : Array Slot), Ln - i < r → i = 7 * n → i ≤ Ln → WFm N R → N 30 ≤ n → RelC K C O L f N R → IX D (fun q : Nat => s.heap.size ≤ q) s.heap (wX cy q1 K C O L f ++ wM cy q2 N R X) H locs → lv_has ls 4 [(3, .int (nI i)), (2, .ref (q2 33)), (1, .ref (q1 0)), (0, .ref b)] → W p l e room_1 s m #[Value.ref b] below meth c H locs (60 + n) (7000 + 6 * n) (lw_Z below #[Value.ref b] s) (F0 m 18 ls []) := by
  intro r
  induction r with
  | zero => intro n i K C O L f N R X H locs ls h; exact absurd h (Nat.not_lt_zero _)
  | succ r ih =>
    intro n i K C O L f N R X H locs ls hm hin hiL hW h30 hrc I hl
    have hA : ∀ q : Nat, s.heap.size ≤ q → (fun q : Nat => s.heap.size ≤ q) q := fun _ h => h
    have hbA : ¬ (fun q : Nat => s.heap.size ≤ q) b := Nat.not_le.mpr hbl
    refine lv_iload_n S.1 S.2.1 dL_law_18 rfl (lv_at hl 0 rfl) ?_
    refine lv_aload_n S.1 S.2.1 dL_law_19 rfl (lv_at hl 3 rfl) ?_
    refine va_slen S.1 S.2.1 hX hbl hbA I.2.2 dL_law_20 ?_
    refine lv_bipush (v := nI 7) S.1 S.2.1 dL_law_21 (by decide) ?_
    refine lv_isub S.1 S.2.1 dL_law_23 ?_
    refine lv_icmp_gt (tgt := 978) S.1 S.2.1 dL_law_24 (by decide) (fun c_24 => ?_) (fun c_24 => ?_)
    · refine lv_iconst (v := 1) S.1 S.2.1 dL_law_978 (by decide) ?_
      refine va_forget (fun q hq => I.2.2.2.2 q hq) ?_
      refine W.widen (k := 600000) (n := 7302249) (by omega) (by omega) ?_
      exact lw_ret S.1 S.2.1 hr hlocks dL_law_979
    · have hi7 : i + 7 ≤ Ln := lw_gt (by omega) hL c_24
      have kk : ∀ (K2 : Nat → Nat) (C2 : Nat → Nat → Int32) (O2 : Nat → Nat → Option Nat) (L2 : List Nat) (f2 : Nat → va_E) (N2 : Nat → Nat) (R2 X2 : Nat → Nat → Int32) (H2 : Heap) (locs2 : List Loc), WFm N2 R2 → N2 30 ≤ n + 1 → RelC K2 C2 O2 L2 f2 N2 R2 → IX D (fun q : Nat => s.heap.size ≤ q) s.heap (wX cy q1 K2 C2 O2 L2 f2 ++ wM cy q2 N2 R2 X2) H2 locs2 → W p l e room_1 s m #[Value.ref b] below meth c H2 locs2 (60 + n + 1) (7000 + 6 * n + 6) (lw_Z below #[Value.ref b] s) (F0 m 972 ls []) := by
        intro K2 C2 O2 L2 f2 N2 R2 X2 H2 locs2 w1 w2 w3 J
        refine lv_iinc (v := nI (i + 7)) (lv' := [(3, .int (nI (i + 7))), (2, .ref (q2 33)), (1, .ref (q1 0)), (0, .ref b)]) S.1 S.2.1 dL_law_972 hl (k := 0) rfl (nI_add i 7) (by decide) rfl (fun ls hl => ?_)
        refine lv_goto (tgt := 18) S.1 S.2.1 dL_law_975 (by decide) ?_
        refine W.widen (k := 60 + (n + 1)) (n := 7000 + 6 * (n + 1)) (by omega) (by omega) ?_
        exact ih (n + 1) (i + 7) _ _ _ _ _ _ _ _ _ _ _ (by omega) (by omega) hi7 w1 w2 w3 J hl
      refine lv_aload_n S.1 S.2.1 dL_law_27 rfl (lv_at hl 3 rfl) ?_
      refine lv_iload_n S.1 S.2.1 dL_law_28 rfl (lv_at hl 0 rfl) ?_
      refine rS (k := i) S hX hbl hbA I (by omega) hL dL_law_29 ?_
      refine lv_bipush (v := nI 31) S.1 S.2.1 dL_law_30 (by decide) ?_
      refine lv_iand S.1 S.2.1 dL_law_32 ?_
      rcases sw_24 (xs i &&& nI 31) with ⟨k, hk, ek⟩ | hout
      · rcases k with _ | _ | _ | _ | _ | _ | _ | _ | _ | _ | _ | _ | _ | _ | _ | _ | _ | _ | _ | _ | _ | _ | _ | _ | k
        · refine lv_tableIn (off := 111) (tgt := 144) S.1 S.2.1 dL_law_33 (by rw [ek]; decide) (by rw [ek]; decide) (by rw [ek]; rfl) (by decide) ?_
          exact lw_k0 S hK hA I hX hbl hbA hi7 hL (by omega) (by omega) (by omega) hl hW h30 hrc kk
        · refine lv_tableIn (off := 170) (tgt := 203) S.1 S.2.1 dL_law_33 (by rw [ek]; decide) (by rw [ek]; decide) (by rw [ek]; rfl) (by decide) ?_
          exact lw_k1 S hK hA I hX hbl hbA hi7 hL (by omega) (by omega) (by omega) hl hW h30 hrc kk
        · refine lv_tableIn (off := 229) (tgt := 262) S.1 S.2.1 dL_law_33 (by rw [ek]; decide) (by rw [ek]; decide) (by rw [ek]; rfl) (by decide) ?_
          exact lw_k2 S hK hA I hX hbl hbA hi7 hL (by omega) (by omega) (by omega) hl hW h30 hrc kk
        · refine lv_tableIn (off := 278) (tgt := 311) S.1 S.2.1 dL_law_33 (by rw [ek]; decide) (by rw [ek]; decide) (by rw [ek]; rfl) (by decide) ?_
          exact lw_k3 S hK hA I hX hbl hbA hi7 hL (by omega) (by omega) (by omega) hl hW h30 hrc kk
        · refine lv_tableIn (off := 311) (tgt := 344) S.1 S.2.1 dL_law_33 (by rw [ek]; decide) (by rw [ek]; decide) (by rw [ek]; rfl) (by decide) ?_
          exact lw_k4 S hK hA I hX hbl hbA hi7 hL (by omega) (by omega) (by omega) hl hW h30 hrc kk
        · refine lv_tableIn (off := 364) (tgt := 397) S.1 S.2.1 dL_law_33 (by rw [ek]; decide) (by rw [ek]; decide) (by rw [ek]; rfl) (by decide) ?_
          exact lw_k5 S hK hA I hX hbl hbA hi7 hL (by omega) (by omega) (by omega) hl hW h30 hrc kk
        · refine lv_tableIn (off := 417) (tgt := 450) S.1 S.2.1 dL_law_33 (by rw [ek]; decide) (by rw [ek]; decide) (by rw [ek]; rfl) (by decide) ?_
          exact lw_k6 S hK hA I hX hbl hbA hi7 hL (by omega) (by omega) (by omega) hl hW h30 hrc kk
        · refine lv_tableIn (off := 466) (tgt := 499) S.1 S.2.1 dL_law_33 (by rw [ek]; decide) (by rw [ek]; decide) (by rw [ek]; rfl) (by decide) ?_
          exact lw_k7 S hK hA I hX hbl hbA hi7 hL (by omega) (by omega) (by omega) hl hW h30 hrc kk
        · refine lv_tableIn (off := 489) (tgt := 522) S.1 S.2.1 dL_law_33 (by rw [ek]; decide) (by rw [ek]; decide) (by rw [ek]; rfl) (by decide) ?_
          exact lw_k8 S hK hA I hX hbl hbA hi7 hL (by omega) (by omega) (by omega) hl hW h30 hrc kk
        · refine lv_tableIn (off := 522) (tgt := 555) S.1 S.2.1 dL_law_33 (by rw [ek]; decide) (by rw [ek]; decide) (by rw [ek]; rfl) (by decide) ?_
          exact lw_k9 S hK hA I hX hbl hbA hi7 hL (by omega) (by omega) (by omega) hl hW h30 hrc kk
        · refine lv_tableIn (off := 535) (tgt := 568) S.1 S.2.1 dL_law_33 (by rw [ek]; decide) (by rw [ek]; decide) (by rw [ek]; rfl) (by decide) ?_
          exact lw_k10 S hK hA I hX hbl hbA hi7 hL (by omega) (by omega) (by omega) hl hW h30 hrc kk
        · refine lv_tableIn (off := 548) (tgt := 581) S.1 S.2.1 dL_law_33 (by rw [ek]; decide) (by rw [ek]; decide) (by rw [ek]; rfl) (by decide) ?_
          exact lw_k11 S hK hA I hX hbl hbA hi7 hL (by omega) (by omega) (by omega) hl hW h30 hrc kk
        · refine lv_tableIn (off := 581) (tgt := 614) S.1 S.2.1 dL_law_33 (by rw [ek]; decide) (by rw [ek]; decide) (by rw [ek]; rfl) (by decide) ?_
          exact lw_k12 S hK hA I hX hbl hbA hi7 hL (by omega) (by omega) (by omega) hl hW h30 hrc kk
        · refine lv_tableIn (off := 594) (tgt := 627) S.1 S.2.1 dL_law_33 (by rw [ek]; decide) (by rw [ek]; decide) (by rw [ek]; rfl) (by decide) ?_
          exact lw_k13 S hK hA I hX hbl hbA hi7 hL (by omega) (by omega) (by omega) hl hW h30 hrc kk
        · refine lv_tableIn (off := 669) (tgt := 702) S.1 S.2.1 dL_law_33 (by rw [ek]; decide) (by rw [ek]; decide) (by rw [ek]; rfl) (by decide) ?_
          exact lw_k14 S hK hA I hX hbl hbA hi7 hL (by omega) (by omega) (by omega) hl hW h30 hrc kk
        · refine lv_tableIn (off := 722) (tgt := 755) S.1 S.2.1 dL_law_33 (by rw [ek]; decide) (by rw [ek]; decide) (by rw [ek]; rfl) (by decide) ?_
          exact lw_k15 S hK hA I hX hbl hbA hi7 hL (by omega) (by omega) (by omega) hl hW h30 hrc kk
        · refine lv_tableIn (off := 745) (tgt := 778) S.1 S.2.1 dL_law_33 (by rw [ek]; decide) (by rw [ek]; decide) (by rw [ek]; rfl) (by decide) ?_
          exact lw_k16 S hK hA I hX hbl hbA hi7 hL (by omega) (by omega) (by omega) hl hW h30 hrc kk
        · refine lv_tableIn (off := 768) (tgt := 801) S.1 S.2.1 dL_law_33 (by rw [ek]; decide) (by rw [ek]; decide) (by rw [ek]; rfl) (by decide) ?_
          exact lw_k17 S hK hA I hX hbl hbA hi7 hL (by omega) (by omega) (by omega) hl hW h30 hrc kk
        · refine lv_tableIn (off := 801) (tgt := 834) S.1 S.2.1 dL_law_33 (by rw [ek]; decide) (by rw [ek]; decide) (by rw [ek]; rfl) (by decide) ?_
          exact lw_k18 S hK hA I hX hbl hbA hi7 hL (by omega) (by omega) (by omega) hl hW h30 hrc kk
        · refine lv_tableIn (off := 824) (tgt := 857) S.1 S.2.1 dL_law_33 (by rw [ek]; decide) (by rw [ek]; decide) (by rw [ek]; rfl) (by decide) ?_
          exact lw_k19 S hK hA I hX hbl hbA hi7 hL (by omega) (by omega) (by omega) hl hW h30 hrc kk
        · refine lv_tableIn (off := 857) (tgt := 890) S.1 S.2.1 dL_law_33 (by rw [ek]; decide) (by rw [ek]; decide) (by rw [ek]; rfl) (by decide) ?_
          exact lw_k20 S hK hA I hX hbl hbA hi7 hL (by omega) (by omega) (by omega) hl hW h30 hrc kk
        · refine lv_tableIn (off := 880) (tgt := 913) S.1 S.2.1 dL_law_33 (by rw [ek]; decide) (by rw [ek]; decide) (by rw [ek]; rfl) (by decide) ?_
          exact lw_k21 S hK hA I hX hbl hbA hi7 hL (by omega) (by omega) (by omega) hl hW h30 hrc kk
        · refine lv_tableIn (off := 893) (tgt := 926) S.1 S.2.1 dL_law_33 (by rw [ek]; decide) (by rw [ek]; decide) (by rw [ek]; rfl) (by decide) ?_
          exact lw_k22 S hK hA I hX hbl hbA hi7 hL (by omega) (by omega) (by omega) hl hW h30 hrc kk
        · refine lv_tableIn (off := 916) (tgt := 949) S.1 S.2.1 dL_law_33 (by rw [ek]; decide) (by rw [ek]; decide) (by rw [ek]; rfl) (by decide) ?_
          exact lw_k23 S hK hA I hX hbl hbA hi7 hL (by omega) (by omega) (by omega) hl hW h30 hrc kk
        · omega
      · refine lv_tableOut (tgt := 972) S.1 S.2.1 dL_law_33 hout (by decide) ?_
        refine W.widen (k := 60 + n + 1) (n := 7000 + 6 * n + 6) (by omega) (by omega) ?_
        exact kk _ _ _ _ _ _ _ _ _ _ hW (by omega) hrc I
end LAW
