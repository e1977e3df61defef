set_option maxRecDepth 100000 in
theorem kx_nc {s : State} {args : Array Value} (hgv : (Jvm.Cond.and given_1 narrow_1).before args s = true) : ∀ w ∈ ncL, va_Nc w.1 w.2 s := by
  have hs := flat_of_before _ hgv
  unfold ncL
  exact List.forall_mem_cons.mpr ⟨va_Nc.of (args := args) (hs (Cond.not (.castable RX0 RX1)) (by decide +kernel)), List.forall_mem_cons.mpr ⟨va_Nc.of (args := args) (hs (Cond.not (.castable RX0 RX10)) (by decide +kernel)), List.forall_mem_cons.mpr ⟨va_Nc.of (args := args) (hs (Cond.not (.castable RX1 RX0)) (by decide +kernel)), List.forall_mem_cons.mpr ⟨va_Nc.of (args := args) (hs (Cond.not (.castable RX1 RX10)) (by decide +kernel)), List.forall_mem_cons.mpr ⟨va_Nc.of (args := args) (hs (Cond.not (.castable RX2 RX0)) (by decide +kernel)), List.forall_mem_cons.mpr ⟨va_Nc.of (args := args) (hs (Cond.not (.castable RX2 RX1)) (by decide +kernel)), List.forall_mem_cons.mpr ⟨va_Nc.of (args := args) (hs (Cond.not (.castable RX2 RX10)) (by decide +kernel)), List.forall_mem_cons.mpr ⟨va_Nc.of (args := args) (hs (Cond.not (.castable RX8 RX0)) (by decide +kernel)), List.forall_mem_cons.mpr ⟨va_Nc.of (args := args) (hs (Cond.not (.castable RX8 RX1)) (by decide +kernel)), List.forall_mem_cons.mpr ⟨va_Nc.of (args := args) (hs (Cond.not (.castable RX8 RX10)) (by decide +kernel)), List.forall_mem_cons.mpr ⟨va_Nc.of (args := args) (hs (Cond.not (.castable RX10 RX0)) (by decide +kernel)), List.forall_mem_cons.mpr ⟨va_Nc.of (args := args) (hs (Cond.not (.castable RX10 RX1)) (by decide +kernel)), fun _ h => absurd h List.not_mem_nil⟩⟩⟩⟩⟩⟩⟩⟩⟩⟩⟩⟩
set_option maxRecDepth 100000 in
theorem kx_start {s : State} {args : Array Value} (hts : ∀ w ∈ lw_tbl, w.before args s = true) (hgv : (Jvm.Cond.and given_1 narrow_1).before args s = true) : ∃ (D : va_G) (cy : Nat → ClassId), KX D cy s := by
  obtain ⟨c0, i0, hk0⟩ := u_known (C := RX0) (T := TX0) (N := 5) (n := 5) hts (fun w h => uT_in w (cl_X0 w h)) (hts _ (uT_in _ wb_X0))
  obtain ⟨c1, i1, hk1⟩ := u_known (C := RX1) (T := TX1) (N := 4) (n := 4) hts (fun w h => uT_in w (cl_X1 w h)) (hts _ (uT_in _ wb_X1))
  obtain ⟨c2, i2, hk2⟩ := u_known (C := RX2) (T := TX2) (N := 3) (n := 3) hts (fun w h => uT_in w (cl_X2 w h)) (hts _ (uT_in _ wb_X2))
  obtain ⟨c3, i3, hk3⟩ := u_known (C := RX3) (T := TX3) (N := 6) (n := 6) hts (fun w h => uT_in w (cl_X3 w h)) (hts _ (uT_in _ wb_X3))
  obtain ⟨c4, i4, hk4⟩ := u_known (C := RX4) (T := TX4) (N := 7) (n := 7) hts (fun w h => uT_in w (cl_X4 w h)) (hts _ (uT_in _ wb_X4))
  obtain ⟨c5, i5, hk5⟩ := u_known (C := RX5) (T := TX5) (N := 8) (n := 8) hts (fun w h => uT_in w (cl_X5 w h)) (hts _ (uT_in _ wb_X5))
  obtain ⟨c6, i6, hk6⟩ := u_known (C := RX6) (T := TX6) (N := 9) (n := 9) hts (fun w h => uT_in w (cl_X6 w h)) (hts _ (uT_in _ wb_X6))
  obtain ⟨c7, i7, hk7⟩ := u_known (C := RX7) (T := TX7) (N := 4) (n := 4) hts (fun w h => uT_in w (cl_X7 w h)) (hts _ (uT_in _ wb_X7))
  obtain ⟨c8, i8, hk8⟩ := u_known (C := RX8) (T := TX8) (N := 3) (n := 3) hts (fun w h => uT_in w (cl_X8 w h)) (hts _ (uT_in _ wb_X8))
  obtain ⟨c9, i9, hk9⟩ := u_known (C := RX9) (T := TX9) (N := 7) (n := 7) hts (fun w h => uT_in w (cl_X9 w h)) (hts _ (uT_in _ wb_X9))
  obtain ⟨c10, i10, hk10⟩ := u_known (C := RX10) (T := TX10) (N := 3) (n := 3) hts (fun w h => uT_in w (cl_X10 w h)) (hts _ (uT_in _ wb_X10))
  obtain ⟨c11, i11, hk11⟩ := u_known (C := RX11) (T := TX11) (N := 4) (n := 4) hts (fun w h => uT_in w (cl_X11 w h)) (hts _ (uT_in _ wb_X11))
  obtain ⟨c12, i12, hk12⟩ := u_known (C := RX12) (T := TX12) (N := 33) (n := 33) hts (fun w h => uT_in w (cl_X12 w h)) (hts _ (uT_in _ wb_X12))
  obtain ⟨d0, k0, p0, e01, e02, e03⟩ := Cond.arrayClass_spec (hts _ (uT_in _ wa_int))
  obtain ⟨d1, k1, p1, e11, e12, e13⟩ := Cond.arrayClass_spec (hts _ (uT_in _ wa_boolean))
  obtain ⟨p2, d2, k2, e21, -, e22, e23, e24⟩ := Cond.arrayOver_spec (hts _ wl_33)
  obtain ⟨p3, d3, k3, e31, -, e32, e33, e34⟩ := Cond.arrayOver_spec (hts _ wl_112)
  obtain ⟨p4, d4, k4, e41, -, e42, e43, e44⟩ := Cond.arrayOver_spec (hts _ wl_114)
  obtain ⟨p5, d5, k5, e51, -, e52, e53, e54⟩ := arrayOverA_spec (hts _ wl_147)
  refine ⟨(fun k => [c0, c1, c2, c3, c4, c5, c6, c7, c8, c9, c10, c11, c12].getD k c0, fun k => [i0, i1, i2, i3, i4, i5, i6, i7, i8, i9, i10, i11, i12].getD k i0), fun k => [d0, d1, d2, d3, d4, d5].getD k d0, ⟨fun k q hq => ?_, fun k q hq => ?_⟩, ?_, kx_nc hgv, ?_, ?_, hts _ wl_147⟩
  · have hlt : k < 13 := (List.getElem?_eq_some_iff.mp hq).1
    rcases k with _ | _ | _ | _ | _ | _ | _ | _ | _ | _ | _ | _ | _ | k
    · cases hq; exact hk0
    · cases hq; exact hk1
    · cases hq; exact hk2
    · cases hq; exact hk3
    · cases hq; exact hk4
    · cases hq; exact hk5
    · cases hq; exact hk6
    · cases hq; exact hk7
    · cases hq; exact hk8
    · cases hq; exact hk9
    · cases hq; exact hk10
    · cases hq; exact hk11
    · cases hq; exact hk12
    · omega
  · have hlt : k < 6 := (List.getElem?_eq_some_iff.mp hq).1
    rcases k with _ | _ | _ | _ | _ | _ | k
    · cases hq; exact ⟨fun n z => ⟨(fun k h => by cases h), k0, e02, p0, e03⟩, e01⟩
    · cases hq; exact ⟨fun n z => ⟨(fun k h => by cases h), k1, e12, p1, e13⟩, e11⟩
    · cases hq; exact ⟨fun n z => ⟨(fun k h => by cases h), k2, e22, p2, e23⟩, ⟨k2, p2, e22, e23, e21, e24⟩⟩
    · cases hq; exact ⟨fun n z => ⟨(fun k h => by cases h), k3, e32, p3, e33⟩, ⟨k3, p3, e32, e33, e31, e34⟩⟩
    · cases hq; exact ⟨fun n z => ⟨(fun k h => by cases h), k4, e42, p4, e43⟩, ⟨k4, p4, e42, e43, e41, e44⟩⟩
    · cases hq; exact ⟨fun n z => ⟨(fun k h => by cases h), k5, e52, p5, e53⟩, e54⟩
    · omega
  · unfold nestL
    exact List.forall_mem_cons.mpr ⟨va_Nw.of rfl (hts _ wl_28), List.forall_mem_cons.mpr ⟨va_Nw.of rfl (hts _ wl_210), List.forall_mem_cons.mpr ⟨va_Nw.of rfl (hts _ wl_368), List.forall_mem_cons.mpr ⟨va_Nw.of rfl (hts _ wl_415), List.forall_mem_cons.mpr ⟨va_Nw.of rfl (hts _ wl_417), List.forall_mem_cons.mpr ⟨va_Nw.of rfl (hts _ wl_430), List.forall_mem_cons.mpr ⟨va_Nw.of rfl (hts _ wl_539), List.forall_mem_cons.mpr ⟨va_Nw.of rfl (hts _ wl_551), List.forall_mem_cons.mpr ⟨va_Nw.of rfl (hts _ wl_598), List.forall_mem_cons.mpr ⟨va_Nw.of rfl (hts _ wl_599), List.forall_mem_cons.mpr ⟨va_Nw.of rfl (hts _ wl_604), fun _ h => absurd h List.not_mem_nil⟩⟩⟩⟩⟩⟩⟩⟩⟩⟩⟩
  · unfold ycL
    exact List.forall_mem_cons.mpr ⟨va_Nw.of rfl (hts _ wl_942), List.forall_mem_cons.mpr ⟨va_Nw.of rfl (hts _ wl_943), List.forall_mem_cons.mpr ⟨va_Nw.of rfl (hts _ wl_944), List.forall_mem_cons.mpr ⟨va_Nw.of rfl (hts _ wl_945), fun _ h => absurd h List.not_mem_nil⟩⟩⟩⟩
  · unfold aoL
    exact List.forall_mem_cons.mpr ⟨va_AO.of (hts _ wl_33), List.forall_mem_cons.mpr ⟨va_AO.of (hts _ wl_112), List.forall_mem_cons.mpr ⟨va_AO.of (hts _ wl_114), fun _ h => absurd h List.not_mem_nil⟩⟩⟩
set_option maxHeartbeats 4000000 in
set_option maxRecDepth 100000 in
theorem whole_start {p : Program} {e : Env} {s : State} {m : MethodId} {below : List Frame} {meth : Method} {c : Code} (l : Launch) {b L : Nat} {xs : Nat → Int32} (hL : L ≤ 3584) (C0 : lw_At p s m meth c b L xs) : W p l e room_1 s m #[Value.ref b] below meth c s.heap [] 0 0 (lw_Z below #[Value.ref b] s) (entryFrame m ([Value.ref b] : List Value).toArray 4) := by
  obtain ⟨hx, hb, hr, hml, hown, hts, hX, hbl, hlocks, hgv⟩ := C0
  have S : CallFix p m c code 4 s #[Value.ref b] (Cond.initialized RL :: uT) RL := ⟨hx, hb, hml, hown, fun w hw => (List.mem_cons.mp hw).elim (fun e => by rw [e]; exact hts _ (uT_in _ wn_L)) (fun h => hts w (uT_in w h))⟩
  obtain ⟨D, cy, hK⟩ := kx_start hts hgv
  have hA : ∀ q : Nat, s.heap.size ≤ q → (fun q : Nat => s.heap.size ≤ q) q := fun _ h => h
  have I : IX D (fun q : Nat => s.heap.size ≤ q) s.heap [] s.heap [] := ⟨fun k q h => by simp at h, ⟨fun i j p q h => by simp at h, fun k q h => by simp at h⟩, va_S.rf⟩
  have hl := lv_entry ([.ref b]) (n := 4) (Nat.le_of_ble_eq_true rfl)
  rw [lg_entry_eq]
  generalize (lg_sl ([.ref b]) ++ List.replicate (4 - (lg_sl ([.ref b])).length) Slot.unset).toArray = ls at hl ⊢
  have hl : lv_has ls 4 [(0, .ref b)] := hl
  refine nwO (ci := 11) (fs := [.null, .null, .null, .null]) S hK hA I cl_X11 tyX11_ok wc_L_7 wb_X11 wn_X11 rfl nwd_X11 ⟨by decide, by decide⟩ dL_law_0 (fun a1 H I => ?_)
  have I : IX D (fun q : Nat => s.heap.size ≤ q) s.heap [(a1, .inr (11, [.null, .null, .null, .null]))] H _ := I
  refine lv_dup S.1 S.2.1 dL_law_3 rfl ?_
  refine cI (np := 0) (a := a1) (As := []) (rest := [.ref a1]) S (x_c11 l D cy a1) hK hA I wm_L_9 wi_X11_init wn_X11 wk_X11_init rfl hd_X11_init rfl ⟨by decide, by decide⟩ hl.1 rfl (Nat.le_of_ble_eq_true rfl) dL_law_4 ⟨by decide, by decide⟩ (fun v_ u_ H1 locs1 h_ J1 => ?_)
  obtain ⟨rfl, hq1, hr1⟩ := h_
  obtain ⟨q1, r⟩ := u_
  have hq1 : q1 0 = a1 := hq1
  subst hq1
  have I : IX D (fun q : Nat => s.heap.size ≤ q) s.heap (wX cy q1 (fun _ => 0) (va_up (fun _ _ => 0) 20 r) (fun _ _ => none) [] (fun _ => .inr (0, []))) H1 locs1 := J1
  refine W.eq (g2 := F0 m 7 ls [.ref (q1 0)]) rfl ?_
  refine lv_astore_n (lv' := [(1, .ref (q1 0)), (0, .ref b)]) S.1 S.2.1 dL_law_7 rfl hl (by decide) rfl (fun ls hl => ?_)
  refine nwO (ci := 12) (fs := [.int (nI 0), .null, .null, .null, .null, .null, .int (nI 0), .null, .null, .null, .null, .null, .null, .null, .null, .null, .null, .int (nI 0), .null, .null, .null, .null, .null, .null, .int (nI 0), .null, .null, .null, .null, .null, .int (nI 0), .null, .null]) S hK hA I cl_X12 tyX12_ok wc_L_10 wb_X12 wn_X12 rfl nwd_X12 ⟨by decide, by decide⟩ dL_law_8 (fun a2 H I => ?_)
  have I := IX.swap (w0 := wX cy q1 (fun _ => 0) (va_up (fun _ _ => 0) 20 r) (fun _ _ => none) [] (fun _ => .inr (0, []))) (wr := [(a2, .inr (12, [.int (nI 0), .null, .null, .null, .null, .null, .int (nI 0), .null, .null, .null, .null, .null, .null, .null, .null, .null, .null, .int (nI 0), .null, .null, .null, .null, .null, .null, .int (nI 0), .null, .null, .null, .null, .null, .int (nI 0), .null, .null]))]) I
  refine lv_dup S.1 S.2.1 dL_law_11 rfl ?_
  refine cIF (np := 0) (a := a2) (As := []) (rest := [.ref a2]) (w0 := [(a2, .inr (12, [.int (nI 0), .null, .null, .null, .null, .null, .int (nI 0), .null, .null, .null, .null, .null, .null, .null, .null, .null, .null, .int (nI 0), .null, .null, .null, .null, .null, .null, .int (nI 0), .null, .null, .null, .null, .null, .int (nI 0), .null, .null]))]) (wr := wX cy q1 (fun _ => 0) (va_up (fun _ _ => 0) 20 r) (fun _ _ => none) [] (fun _ => .inr (0, []))) S (c_init l D cy a2) hK hA I wm_L_12 wi_X12_init wn_X12 wk_X12_init rfl hd_X12_init rfl ⟨by decide, by decide⟩ hl.1 rfl (Nat.le_of_ble_eq_true rfl) dL_law_12 ⟨by decide, by decide⟩ (fun v_ q2 H2 locs2 h_ J2 => ?_)
  obtain ⟨rfl, hq2⟩ := h_
  subst hq2
  have I := IX.swap (w0 := wM cy q2 (fun _ => 0) R0i (fun _ _ => 0)) (wr := wX cy q1 (fun _ => 0) (va_up (fun _ _ => 0) 20 r) (fun _ _ => none) [] (fun _ => .inr (0, []))) J2
  refine W.eq (g2 := F0 m 15 ls [.ref (q2 33)]) rfl ?_
  refine lv_astore_n (lv' := [(2, .ref (q2 33)), (1, .ref (q1 0)), (0, .ref b)]) S.1 S.2.1 dL_law_15 rfl hl (by decide) rfl (fun ls hl => ?_)
  refine lv_iconst (v := nI 0) S.1 S.2.1 dL_law_16 (by decide) ?_
  refine lv_istore_n (lv' := [(3, .int (nI 0)), (2, .ref (q2 33)), (1, .ref (q1 0)), (0, .ref b)]) S.1 S.2.1 dL_law_17 rfl hl (by decide) rfl (fun ls hl => ?_)
  refine W.widen (k := 60 + 0) (n := 7000 + 6 * 0) (by exact Nat.le_of_ble_eq_true rfl) (by exact Nat.le_of_ble_eq_true rfl) ?_
  exact law_loop S hr hlocks hK hX hbl hL (L + 1) 0 0 _ _ _ _ _ _ _ _ _ _ _ (by omega) rfl (Nat.zero_le _) WF_0 (Nat.le_refl _) (Rel_0 hr1) I hl
