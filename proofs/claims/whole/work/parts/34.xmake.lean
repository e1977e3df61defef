theorem isK_no {k : Int32} (h : ¬ k = 0 ∧ ¬ k = 1 ∧ ¬ k = 2 ∧ ¬ k = 3 ∧ ¬ k = 4) : isK k = false := by
  unfold isK
  exact decide_eq_false (fun h9 => by exact h9.elim h.1 (fun h9 => h9.elim h.2.2.1 (fun h9 => h9.elim h.2.2.2.1 h.2.2.2.2)))
theorem isK_4 {k : Int32} (h : isK k = true) : k.toNatClampNeg ≤ 4 ∧ ¬ k.toNatClampNeg = 1 := by
  unfold isK at h
  rcases of_decide_eq_true h with rfl | rfl | rfl | rfl <;> decide
theorem isSp_t {N : Nat → Nat} {x a b : Int32} (h : isP (N 0) x = true) (h2 : (isV a && (isV b && decide (a ≤ b))) = true) : isSp N x a b = true := by
  rw [isSp, h, h2]; rfl
set_option maxHeartbeats 4000000 in
set_option maxRecDepth 100000 in
theorem x_i2_X2 (l : Launch) (D : va_G) (cy : Nat → ClassId) (a : Nat) (u0 u1 u2 pa lo hi : Int32) : MS (α := Unit) l D cy yX2_init cX2_init 4 (Option.none : Option FieldType) rm_X2_init [.ref a, .int pa, .int lo, .int hi] ([(a, .inr (2, [.int u0, .int u1, .int u2]))]) (fun v_ (_ : Unit) => v_ = none) (fun _ => [(a, .inr (2, [.int pa, .int lo, .int hi]))]) := by
  refine MS.mk2 (by decide) (Nat.le_of_ble_eq_true rfl) [(0, .ref a), (1, .int pa), (2, .int lo), (3, .int hi)] rfl ?_
  intro p e s m args below meth c A ls Q hQ S hr hlk hnm hK hA I hl
  refine lv_aload_n S.1 S.2.1 dX2_init_0 rfl (lv_at hl 0 rfl) ?_
  refine oI (rest := []) S wm_X2_1 hl.1 ⟨by decide, by decide⟩ (Nat.le_of_ble_eq_true rfl) dX2_init_1 ?_
  refine lv_aload_n S.1 S.2.1 dX2_init_4 rfl (lv_at hl 0 rfl) ?_
  refine lv_iload_n S.1 S.2.1 dX2_init_5 rfl (lv_at hl 1 rfl) ?_
  refine rpF (ci := 2) (q0 := 0) (T := TX2) (v := .int pa) (ty := .int) 0 S hK I cl_X2 rfl wf_X2_7 (by decide) rfl tyX2_ok nmX2 rfl hnm rfl (by decide +kernel) rfl rfl (by exact Nat.le_of_ble_eq_true rfl) rfl dX2_init_6 (fun H locs I => ?_)
  have I : IX D A s.heap ([(a, .inr (2, [.int pa, .int u1, .int u2]))]) H _ := I
  refine lv_aload_n S.1 S.2.1 dX2_init_9 rfl (lv_at hl 0 rfl) ?_
  refine lv_iload_n S.1 S.2.1 dX2_init_10 rfl (lv_at hl 2 rfl) ?_
  refine rpF (ci := 2) (q0 := 0) (T := TX2) (v := .int lo) (ty := .int) 1 S hK I cl_X2 rfl wf_X2_13 (by decide) rfl tyX2_ok nmX2 rfl hnm rfl (by decide +kernel) rfl rfl (by exact Nat.le_of_ble_eq_true rfl) rfl dX2_init_11 (fun H locs I => ?_)
  have I : IX D A s.heap ([(a, .inr (2, [.int pa, .int lo, .int u2]))]) H _ := I
  refine lv_aload_n S.1 S.2.1 dX2_init_14 rfl (lv_at hl 0 rfl) ?_
  refine lv_iload_n S.1 S.2.1 dX2_init_15 rfl (lv_at hl 3 rfl) ?_
  refine rpF (ci := 2) (q0 := 0) (T := TX2) (v := .int hi) (ty := .int) 2 S hK I cl_X2 rfl wf_X2_16 (by decide) rfl tyX2_ok nmX2 rfl hnm rfl (by decide +kernel) rfl rfl (by exact Nat.le_of_ble_eq_true rfl) rfl dX2_init_16 (fun H locs I => ?_)
  have I : IX D A s.heap ([(a, .inr (2, [.int pa, .int lo, .int hi]))]) H _ := I
  exact ru_v hQ S hr hlk (u := ()) I rfl dX2_init_19
set_option maxHeartbeats 4000000 in
set_option maxRecDepth 100000 in
theorem x_i2_X8 (l : Launch) (D : va_G) (cy : Nat → ClassId) (a : Nat) (u0 u1 u2 pa lo hi : Int32) : MS (α := Unit) l D cy yX2_init cX2_init 4 (Option.none : Option FieldType) rm_X2_init [.ref a, .int pa, .int lo, .int hi] ([(a, .inr (8, [.int u0, .int u1, .int u2]))]) (fun v_ (_ : Unit) => v_ = none) (fun _ => [(a, .inr (8, [.int pa, .int lo, .int hi]))]) := by
  refine MS.mk2 (by decide) (Nat.le_of_ble_eq_true rfl) [(0, .ref a), (1, .int pa), (2, .int lo), (3, .int hi)] rfl ?_
  intro p e s m args below meth c A ls Q hQ S hr hlk hnm hK hA I hl
  refine lv_aload_n S.1 S.2.1 dX2_init_0 rfl (lv_at hl 0 rfl) ?_
  refine oI (rest := []) S wm_X2_1 hl.1 ⟨by decide, by decide⟩ (Nat.le_of_ble_eq_true rfl) dX2_init_1 ?_
  refine lv_aload_n S.1 S.2.1 dX2_init_4 rfl (lv_at hl 0 rfl) ?_
  refine lv_iload_n S.1 S.2.1 dX2_init_5 rfl (lv_at hl 1 rfl) ?_
  refine rpF (ci := 8) (q0 := 0) (T := TX8) (v := .int pa) (ty := .int) 0 S hK I cl_X8 rfl wf_X2_7 (by decide) rfl tyX8_ok nmX8 rfl hnm rfl (by decide +kernel) rfl rfl (by exact Nat.le_of_ble_eq_true rfl) rfl dX2_init_6 (fun H locs I => ?_)
  have I : IX D A s.heap ([(a, .inr (8, [.int pa, .int u1, .int u2]))]) H _ := I
  refine lv_aload_n S.1 S.2.1 dX2_init_9 rfl (lv_at hl 0 rfl) ?_
  refine lv_iload_n S.1 S.2.1 dX2_init_10 rfl (lv_at hl 2 rfl) ?_
  refine rpF (ci := 8) (q0 := 0) (T := TX8) (v := .int lo) (ty := .int) 1 S hK I cl_X8 rfl wf_X2_13 (by decide) rfl tyX8_ok nmX8 rfl hnm rfl (by decide +kernel) rfl rfl (by exact Nat.le_of_ble_eq_true rfl) rfl dX2_init_11 (fun H locs I => ?_)
  have I : IX D A s.heap ([(a, .inr (8, [.int pa, .int lo, .int u2]))]) H _ := I
  refine lv_aload_n S.1 S.2.1 dX2_init_14 rfl (lv_at hl 0 rfl) ?_
  refine lv_iload_n S.1 S.2.1 dX2_init_15 rfl (lv_at hl 3 rfl) ?_
  refine rpF (ci := 8) (q0 := 0) (T := TX8) (v := .int hi) (ty := .int) 2 S hK I cl_X8 rfl wf_X2_16 (by decide) rfl tyX8_ok nmX8 rfl hnm rfl (by decide +kernel) rfl rfl (by exact Nat.le_of_ble_eq_true rfl) rfl dX2_init_16 (fun H locs I => ?_)
  have I : IX D A s.heap ([(a, .inr (8, [.int pa, .int lo, .int hi]))]) H _ := I
  exact ru_v hQ S hr hlk (u := ()) I rfl dX2_init_19
set_option maxHeartbeats 4000000 in
set_option maxRecDepth 100000 in
theorem x_i2_X10 (l : Launch) (D : va_G) (cy : Nat → ClassId) (a : Nat) (u0 u1 u2 pa lo hi : Int32) : MS (α := Unit) l D cy yX2_init cX2_init 4 (Option.none : Option FieldType) rm_X2_init [.ref a, .int pa, .int lo, .int hi] ([(a, .inr (10, [.int u0, .int u1, .int u2]))]) (fun v_ (_ : Unit) => v_ = none) (fun _ => [(a, .inr (10, [.int pa, .int lo, .int hi]))]) := by
  refine MS.mk2 (by decide) (Nat.le_of_ble_eq_true rfl) [(0, .ref a), (1, .int pa), (2, .int lo), (3, .int hi)] rfl ?_
  intro p e s m args below meth c A ls Q hQ S hr hlk hnm hK hA I hl
  refine lv_aload_n S.1 S.2.1 dX2_init_0 rfl (lv_at hl 0 rfl) ?_
  refine oI (rest := []) S wm_X2_1 hl.1 ⟨by decide, by decide⟩ (Nat.le_of_ble_eq_true rfl) dX2_init_1 ?_
  refine lv_aload_n S.1 S.2.1 dX2_init_4 rfl (lv_at hl 0 rfl) ?_
  refine lv_iload_n S.1 S.2.1 dX2_init_5 rfl (lv_at hl 1 rfl) ?_
  refine rpF (ci := 10) (q0 := 0) (T := TX10) (v := .int pa) (ty := .int) 0 S hK I cl_X10 rfl wf_X2_7 (by decide) rfl tyX10_ok nmX10 rfl hnm rfl (by decide +kernel) rfl rfl (by exact Nat.le_of_ble_eq_true rfl) rfl dX2_init_6 (fun H locs I => ?_)
  have I : IX D A s.heap ([(a, .inr (10, [.int pa, .int u1, .int u2]))]) H _ := I
  refine lv_aload_n S.1 S.2.1 dX2_init_9 rfl (lv_at hl 0 rfl) ?_
  refine lv_iload_n S.1 S.2.1 dX2_init_10 rfl (lv_at hl 2 rfl) ?_
  refine rpF (ci := 10) (q0 := 0) (T := TX10) (v := .int lo) (ty := .int) 1 S hK I cl_X10 rfl wf_X2_13 (by decide) rfl tyX10_ok nmX10 rfl hnm rfl (by decide +kernel) rfl rfl (by exact Nat.le_of_ble_eq_true rfl) rfl dX2_init_11 (fun H locs I => ?_)
  have I : IX D A s.heap ([(a, .inr (10, [.int pa, .int lo, .int u2]))]) H _ := I
  refine lv_aload_n S.1 S.2.1 dX2_init_14 rfl (lv_at hl 0 rfl) ?_
  refine lv_iload_n S.1 S.2.1 dX2_init_15 rfl (lv_at hl 3 rfl) ?_
  refine rpF (ci := 10) (q0 := 0) (T := TX10) (v := .int hi) (ty := .int) 2 S hK I cl_X10 rfl wf_X2_16 (by decide) rfl tyX10_ok nmX10 rfl hnm rfl (by decide +kernel) rfl rfl (by exact Nat.le_of_ble_eq_true rfl) rfl dX2_init_16 (fun H locs I => ?_)
  have I : IX D A s.heap ([(a, .inr (10, [.int pa, .int lo, .int hi]))]) H _ := I
  exact ru_v hQ S hr hlk (u := ()) I rfl dX2_init_19
set_option maxHeartbeats 4000000 in
set_option maxRecDepth 100000 in
theorem x_i2_X1 (l : Launch) (D : va_G) (cy : Nat → ClassId) (a : Nat) (u0 u1 u2 u3 pa lo hi : Int32) : MS (α := Unit) l D cy yX2_init cX2_init 4 (Option.none : Option FieldType) rm_X2_init [.ref a, .int pa, .int lo, .int hi] ([(a, .inr (1, [.int u0, .int u1, .int u2, .int u3]))]) (fun v_ (_ : Unit) => v_ = none) (fun _ => [(a, .inr (1, [.int pa, .int lo, .int hi, .int u3]))]) := by
  refine MS.mk2 (by decide) (Nat.le_of_ble_eq_true rfl) [(0, .ref a), (1, .int pa), (2, .int lo), (3, .int hi)] rfl ?_
  intro p e s m args below meth c A ls Q hQ S hr hlk hnm hK hA I hl
  refine lv_aload_n S.1 S.2.1 dX2_init_0 rfl (lv_at hl 0 rfl) ?_
  refine oI (rest := []) S wm_X2_1 hl.1 ⟨by decide, by decide⟩ (Nat.le_of_ble_eq_true rfl) dX2_init_1 ?_
  refine lv_aload_n S.1 S.2.1 dX2_init_4 rfl (lv_at hl 0 rfl) ?_
  refine lv_iload_n S.1 S.2.1 dX2_init_5 rfl (lv_at hl 1 rfl) ?_
  refine rpF (ci := 1) (q0 := 0) (T := TX1) (v := .int pa) (ty := .int) 0 S hK I cl_X1 rfl wf_X2_7 (by decide) rfl tyX1_ok nmX1 rfl hnm rfl (by decide +kernel) rfl rfl (by exact Nat.le_of_ble_eq_true rfl) rfl dX2_init_6 (fun H locs I => ?_)
  have I : IX D A s.heap ([(a, .inr (1, [.int pa, .int u1, .int u2, .int u3]))]) H _ := I
  refine lv_aload_n S.1 S.2.1 dX2_init_9 rfl (lv_at hl 0 rfl) ?_
  refine lv_iload_n S.1 S.2.1 dX2_init_10 rfl (lv_at hl 2 rfl) ?_
  refine rpF (ci := 1) (q0 := 0) (T := TX1) (v := .int lo) (ty := .int) 1 S hK I cl_X1 rfl wf_X2_13 (by decide) rfl tyX1_ok nmX1 rfl hnm rfl (by decide +kernel) rfl rfl (by exact Nat.le_of_ble_eq_true rfl) rfl dX2_init_11 (fun H locs I => ?_)
  have I : IX D A s.heap ([(a, .inr (1, [.int pa, .int lo, .int u2, .int u3]))]) H _ := I
  refine lv_aload_n S.1 S.2.1 dX2_init_14 rfl (lv_at hl 0 rfl) ?_
  refine lv_iload_n S.1 S.2.1 dX2_init_15 rfl (lv_at hl 3 rfl) ?_
  refine rpF (ci := 1) (q0 := 0) (T := TX1) (v := .int hi) (ty := .int) 2 S hK I cl_X1 rfl wf_X2_16 (by decide) rfl tyX1_ok nmX1 rfl hnm rfl (by decide +kernel) rfl rfl (by exact Nat.le_of_ble_eq_true rfl) rfl dX2_init_16 (fun H locs I => ?_)
  have I : IX D A s.heap ([(a, .inr (1, [.int pa, .int lo, .int hi, .int u3]))]) H _ := I
  exact ru_v hQ S hr hlk (u := ()) I rfl dX2_init_19
set_option maxHeartbeats 4000000 in
set_option maxRecDepth 100000 in
theorem x_i2_X0 (l : Launch) (D : va_G) (cy : Nat → ClassId) (a : Nat) (u0 u1 u2 u3 u4 pa lo hi : Int32) : MS (α := Unit) l D cy yX2_init cX2_init 4 (Option.none : Option FieldType) rm_X2_init [.ref a, .int pa, .int lo, .int hi] ([(a, .inr (0, [.int u0, .int u1, .int u2, .int u3, .int u4]))]) (fun v_ (_ : Unit) => v_ = none) (fun _ => [(a, .inr (0, [.int pa, .int lo, .int hi, .int u3, .int u4]))]) := by
  refine MS.mk2 (by decide) (Nat.le_of_ble_eq_true rfl) [(0, .ref a), (1, .int pa), (2, .int lo), (3, .int hi)] rfl ?_
  intro p e s m args below meth c A ls Q hQ S hr hlk hnm hK hA I hl
  refine lv_aload_n S.1 S.2.1 dX2_init_0 rfl (lv_at hl 0 rfl) ?_
  refine oI (rest := []) S wm_X2_1 hl.1 ⟨by decide, by decide⟩ (Nat.le_of_ble_eq_true rfl) dX2_init_1 ?_
  refine lv_aload_n S.1 S.2.1 dX2_init_4 rfl (lv_at hl 0 rfl) ?_
  refine lv_iload_n S.1 S.2.1 dX2_init_5 rfl (lv_at hl 1 rfl) ?_
  refine rpF (ci := 0) (q0 := 0) (T := TX0) (v := .int pa) (ty := .int) 0 S hK I cl_X0 rfl wf_X2_7 (by decide) rfl tyX0_ok nmX0 rfl hnm rfl (by decide +kernel) rfl rfl (by exact Nat.le_of_ble_eq_true rfl) rfl dX2_init_6 (fun H locs I => ?_)
  have I : IX D A s.heap ([(a, .inr (0, [.int pa, .int u1, .int u2, .int u3, .int u4]))]) H _ := I
  refine lv_aload_n S.1 S.2.1 dX2_init_9 rfl (lv_at hl 0 rfl) ?_
  refine lv_iload_n S.1 S.2.1 dX2_init_10 rfl (lv_at hl 2 rfl) ?_
  refine rpF (ci := 0) (q0 := 0) (T := TX0) (v := .int lo) (ty := .int) 1 S hK I cl_X0 rfl wf_X2_13 (by decide) rfl tyX0_ok nmX0 rfl hnm rfl (by decide +kernel) rfl rfl (by exact Nat.le_of_ble_eq_true rfl) rfl dX2_init_11 (fun H locs I => ?_)
  have I : IX D A s.heap ([(a, .inr (0, [.int pa, .int lo, .int u2, .int u3, .int u4]))]) H _ := I
  refine lv_aload_n S.1 S.2.1 dX2_init_14 rfl (lv_at hl 0 rfl) ?_
  refine lv_iload_n S.1 S.2.1 dX2_init_15 rfl (lv_at hl 3 rfl) ?_
  refine rpF (ci := 0) (q0 := 0) (T := TX0) (v := .int hi) (ty := .int) 2 S hK I cl_X0 rfl wf_X2_16 (by decide) rfl tyX0_ok nmX0 rfl hnm rfl (by decide +kernel) rfl rfl (by exact Nat.le_of_ble_eq_true rfl) rfl dX2_init_16 (fun H locs I => ?_)
  have I : IX D A s.heap ([(a, .inr (0, [.int pa, .int lo, .int hi, .int u3, .int u4]))]) H _ := I
  exact ru_v hQ S hr hlk (u := ()) I rfl dX2_init_19
set_option maxHeartbeats 4000000 in
set_option maxRecDepth 100000 in
theorem x_i8_X8 (l : Launch) (D : va_G) (cy : Nat → ClassId) (a : Nat) (u0 u1 u2 pa lo hi : Int32) : MS (α := Unit) l D cy yX8_init cX8_init 4 (Option.none : Option FieldType) rm_X8_init [.ref a, .int pa, .int lo, .int hi] ([(a, .inr (8, [.int u0, .int u1, .int u2]))]) (fun v_ (_ : Unit) => v_ = none) (fun _ => [(a, .inr (8, [.int pa, .int lo, .int hi]))]) := by
  refine MS.mk2 (by decide) (Nat.le_of_ble_eq_true rfl) [(0, .ref a), (1, .int pa), (2, .int lo), (3, .int hi)] rfl ?_
  intro p e s m args below meth c A ls Q hQ S hr hlk hnm hK hA I hl
  refine lv_aload_n S.1 S.2.1 dX8_init_0 rfl (lv_at hl 0 rfl) ?_
  refine lv_iload_n S.1 S.2.1 dX8_init_1 rfl (lv_at hl 1 rfl) ?_
  refine lv_iload_n S.1 S.2.1 dX8_init_2 rfl (lv_at hl 2 rfl) ?_
  refine lv_iload_n S.1 S.2.1 dX8_init_3 rfl (lv_at hl 3 rfl) ?_
  refine cI (np := 3) (a := a) (As := [.int pa, .int lo, .int hi]) (rest := []) S (x_i2_X8 l D cy a u0 u1 u2 pa lo hi) hK hA I wm_X8_1 wi_X2_init wn_X2 wk_X2_init rfl hd_X2_init rfl ⟨by decide, by decide⟩ hl.1 rfl (Nat.le_of_ble_eq_true rfl) dX8_init_4 ⟨by decide, by decide⟩ (fun v_ u_ H locs h_ I => ?_)
  obtain rfl := h_
  have I : IX D A s.heap ([(a, .inr (8, [.int pa, .int lo, .int hi]))]) H _ := I
  refine W.eq (g2 := F0 m 7 ls []) rfl ?_
  exact ru_v hQ S hr hlk (u := ()) I rfl dX8_init_7
set_option maxHeartbeats 4000000 in
set_option maxRecDepth 100000 in
theorem x_i8_X10 (l : Launch) (D : va_G) (cy : Nat → ClassId) (a : Nat) (u0 u1 u2 pa lo hi : Int32) : MS (α := Unit) l D cy yX8_init cX8_init 4 (Option.none : Option FieldType) rm_X8_init [.ref a, .int pa, .int lo, .int hi] ([(a, .inr (10, [.int u0, .int u1, .int u2]))]) (fun v_ (_ : Unit) => v_ = none) (fun _ => [(a, .inr (10, [.int pa, .int lo, .int hi]))]) := by
  refine MS.mk2 (by decide) (Nat.le_of_ble_eq_true rfl) [(0, .ref a), (1, .int pa), (2, .int lo), (3, .int hi)] rfl ?_
  intro p e s m args below meth c A ls Q hQ S hr hlk hnm hK hA I hl
  refine lv_aload_n S.1 S.2.1 dX8_init_0 rfl (lv_at hl 0 rfl) ?_
  refine lv_iload_n S.1 S.2.1 dX8_init_1 rfl (lv_at hl 1 rfl) ?_
  refine lv_iload_n S.1 S.2.1 dX8_init_2 rfl (lv_at hl 2 rfl) ?_
  refine lv_iload_n S.1 S.2.1 dX8_init_3 rfl (lv_at hl 3 rfl) ?_
  refine cI (np := 3) (a := a) (As := [.int pa, .int lo, .int hi]) (rest := []) S (x_i2_X10 l D cy a u0 u1 u2 pa lo hi) hK hA I wm_X8_1 wi_X2_init wn_X2 wk_X2_init rfl hd_X2_init rfl ⟨by decide, by decide⟩ hl.1 rfl (Nat.le_of_ble_eq_true rfl) dX8_init_4 ⟨by decide, by decide⟩ (fun v_ u_ H locs h_ I => ?_)
  obtain rfl := h_
  have I : IX D A s.heap ([(a, .inr (10, [.int pa, .int lo, .int hi]))]) H _ := I
  refine W.eq (g2 := F0 m 7 ls []) rfl ?_
  exact ru_v hQ S hr hlk (u := ()) I rfl dX8_init_7
set_option maxHeartbeats 4000000 in
set_option maxRecDepth 100000 in
theorem x_i10_X10 (l : Launch) (D : va_G) (cy : Nat → ClassId) (a : Nat) (u0 u1 u2 pa lo hi : Int32) : MS (α := Unit) l D cy yX10_init cX10_init 4 (Option.none : Option FieldType) rm_X10_init [.ref a, .int pa, .int lo, .int hi] ([(a, .inr (10, [.int u0, .int u1, .int u2]))]) (fun v_ (_ : Unit) => v_ = none) (fun _ => [(a, .inr (10, [.int pa, .int lo, .int hi]))]) := by
  refine MS.mk2 (by decide) (Nat.le_of_ble_eq_true rfl) [(0, .ref a), (1, .int pa), (2, .int lo), (3, .int hi)] rfl ?_
  intro p e s m args below meth c A ls Q hQ S hr hlk hnm hK hA I hl
  refine lv_aload_n S.1 S.2.1 dX10_init_0 rfl (lv_at hl 0 rfl) ?_
  refine lv_iload_n S.1 S.2.1 dX10_init_1 rfl (lv_at hl 1 rfl) ?_
  refine lv_iload_n S.1 S.2.1 dX10_init_2 rfl (lv_at hl 2 rfl) ?_
  refine lv_iload_n S.1 S.2.1 dX10_init_3 rfl (lv_at hl 3 rfl) ?_
  refine cI (np := 3) (a := a) (As := [.int pa, .int lo, .int hi]) (rest := []) S (x_i8_X10 l D cy a u0 u1 u2 pa lo hi) hK hA I wm_X10_1 wi_X8_init wn_X8 wk_X8_init rfl hd_X8_init rfl ⟨by decide, by decide⟩ hl.1 rfl (Nat.le_of_ble_eq_true rfl) dX10_init_4 ⟨by decide, by decide⟩ (fun v_ u_ H locs h_ I => ?_)
  obtain rfl := h_
  have I : IX D A s.heap ([(a, .inr (10, [.int pa, .int lo, .int hi]))]) H _ := I
  refine W.eq (g2 := F0 m 7 ls []) rfl ?_
  exact ru_v hQ S hr hlk (u := ()) I rfl dX10_init_7
set_option maxHeartbeats 4000000 in
set_option maxRecDepth 100000 in
theorem x_i1_X1 (l : Launch) (D : va_G) (cy : Nat → ClassId) (a : Nat) (u0 u1 u2 u3 pa lo hi : Int32) : MS (α := Unit) l D cy yX1_init cX1_init 4 (Option.none : Option FieldType) rm_X1_init [.ref a, .int pa, .int lo, .int hi] ([(a, .inr (1, [.int u0, .int u1, .int u2, .int u3]))]) (fun v_ (_ : Unit) => v_ = none) (fun _ => [(a, .inr (1, [.int pa, .int lo, .int hi, .int u3]))]) := by
  refine MS.mk2 (by decide) (Nat.le_of_ble_eq_true rfl) [(0, .ref a), (1, .int pa), (2, .int lo), (3, .int hi)] rfl ?_
  intro p e s m args below meth c A ls Q hQ S hr hlk hnm hK hA I hl
  refine lv_aload_n S.1 S.2.1 dX1_init_0 rfl (lv_at hl 0 rfl) ?_
  refine lv_iload_n S.1 S.2.1 dX1_init_1 rfl (lv_at hl 1 rfl) ?_
  refine lv_iload_n S.1 S.2.1 dX1_init_2 rfl (lv_at hl 2 rfl) ?_
  refine lv_iload_n S.1 S.2.1 dX1_init_3 rfl (lv_at hl 3 rfl) ?_
  refine cI (np := 3) (a := a) (As := [.int pa, .int lo, .int hi]) (rest := []) S (x_i2_X1 l D cy a u0 u1 u2 u3 pa lo hi) hK hA I wm_X1_1 wi_X2_init wn_X2 wk_X2_init rfl hd_X2_init rfl ⟨by decide, by decide⟩ hl.1 rfl (Nat.le_of_ble_eq_true rfl) dX1_init_4 ⟨by decide, by decide⟩ (fun v_ u_ H locs h_ I => ?_)
  obtain rfl := h_
  have I : IX D A s.heap ([(a, .inr (1, [.int pa, .int lo, .int hi, .int u3]))]) H _ := I
  refine W.eq (g2 := F0 m 7 ls []) rfl ?_
  exact ru_v hQ S hr hlk (u := ()) I rfl dX1_init_7
set_option maxHeartbeats 4000000 in
set_option maxRecDepth 100000 in
theorem x_i0_X0 (l : Launch) (D : va_G) (cy : Nat → ClassId) (a : Nat) (u0 u1 u2 u3 u4 pa lo hi to tp : Int32) : MS (α := Unit) l D cy yX0_init cX0_init 6 (Option.none : Option FieldType) rm_X0_init [.ref a, .int pa, .int lo, .int hi, .int to, .int tp] ([(a, .inr (0, [.int u0, .int u1, .int u2, .int u3, .int u4]))]) (fun v_ (_ : Unit) => v_ = none) (fun _ => [(a, .inr (0, [.int pa, .int lo, .int hi, .int to, .int tp]))]) := by
  refine MS.mk2 (by decide) (Nat.le_of_ble_eq_true rfl) [(0, .ref a), (1, .int pa), (2, .int lo), (3, .int hi), (4, .int to), (5, .int tp)] rfl ?_
  intro p e s m args below meth c A ls Q hQ S hr hlk hnm hK hA I hl
  refine lv_aload_n S.1 S.2.1 dX0_init_0 rfl (lv_at hl 0 rfl) ?_
  refine lv_iload_n S.1 S.2.1 dX0_init_1 rfl (lv_at hl 1 rfl) ?_
  refine lv_iload_n S.1 S.2.1 dX0_init_2 rfl (lv_at hl 2 rfl) ?_
  refine lv_iload_n S.1 S.2.1 dX0_init_3 rfl (lv_at hl 3 rfl) ?_
  refine cI (np := 3) (a := a) (As := [.int pa, .int lo, .int hi]) (rest := []) S (x_i2_X0 l D cy a u0 u1 u2 u3 u4 pa lo hi) hK hA I wm_X0_1 wi_X2_init wn_X2 wk_X2_init rfl hd_X2_init rfl ⟨by decide, by decide⟩ hl.1 rfl (Nat.le_of_ble_eq_true rfl) dX0_init_4 ⟨by decide, by decide⟩ (fun v_ u_ H locs h_ I => ?_)
  obtain rfl := h_
  have I : IX D A s.heap ([(a, .inr (0, [.int pa, .int lo, .int hi, .int u3, .int u4]))]) H _ := I
  refine W.eq (g2 := F0 m 7 ls []) rfl ?_
  refine lv_aload_n S.1 S.2.1 dX0_init_7 rfl (lv_at hl 0 rfl) ?_
  refine lv_iload S.1 S.2.1 dX0_init_8 (lv_at hl 4 rfl) ?_
  refine rpF (ci := 0) (q0 := 0) (T := TX0) (v := .int to) (ty := .int) 3 S hK I cl_X0 rfl wf_X0_7 (by decide) rfl tyX0_ok nmX0 rfl hnm rfl (by decide +kernel) rfl rfl (by exact Nat.le_of_ble_eq_true rfl) rfl dX0_init_10 (fun H locs I => ?_)
  have I : IX D A s.heap ([(a, .inr (0, [.int pa, .int lo, .int hi, .int to, .int u4]))]) H _ := I
  refine lv_aload_n S.1 S.2.1 dX0_init_13 rfl (lv_at hl 0 rfl) ?_
  refine lv_iload S.1 S.2.1 dX0_init_14 (lv_at hl 5 rfl) ?_
  refine rpF (ci := 0) (q0 := 0) (T := TX0) (v := .int tp) (ty := .int) 4 S hK I cl_X0 rfl wf_X0_13 (by decide) rfl tyX0_ok nmX0 rfl hnm rfl (by decide +kernel) rfl rfl (by exact Nat.le_of_ble_eq_true rfl) rfl dX0_init_16 (fun H locs I => ?_)
  have I : IX D A s.heap ([(a, .inr (0, [.int pa, .int lo, .int hi, .int to, .int tp]))]) H _ := I
  exact ru_v hQ S hr hlk (u := ()) I rfl dX0_init_19
set_option maxHeartbeats 4000000 in
set_option maxRecDepth 100000 in
theorem x_i3_X3 (l : Launch) (D : va_G) (cy : Nat → ClassId) (a : Nat) (u0 u1 u2 u3 u4 u5 pa v hn nd fi la : Int32) : MS (α := Unit) l D cy yX3_init cX3_init 7 (Option.none : Option FieldType) rm_X3_init [.ref a, .int pa, .int v, .int hn, .int nd, .int fi, .int la] ([(a, .inr (3, [.int u0, .int u1, .int u2, .int u3, .int u4, .int u5]))]) (fun v_ (_ : Unit) => v_ = none) (fun _ => [(a, .inr (3, [.int pa, .int v, .int hn, .int nd, .int fi, .int la]))]) := by
  refine MS.mk2 (by decide) (Nat.le_of_ble_eq_true rfl) [(0, .ref a), (1, .int pa), (2, .int v), (3, .int hn), (4, .int nd), (5, .int fi), (6, .int la)] rfl ?_
  intro p e s m args below meth c A ls Q hQ S hr hlk hnm hK hA I hl
  refine lv_aload_n S.1 S.2.1 dX3_init_0 rfl (lv_at hl 0 rfl) ?_
  refine oI (rest := []) S wm_X3_1 hl.1 ⟨by decide, by decide⟩ (Nat.le_of_ble_eq_true rfl) dX3_init_1 ?_
  refine lv_aload_n S.1 S.2.1 dX3_init_4 rfl (lv_at hl 0 rfl) ?_
  refine lv_iload_n S.1 S.2.1 dX3_init_5 rfl (lv_at hl 1 rfl) ?_
  refine rpF (ci := 3) (q0 := 0) (T := TX3) (v := .int pa) (ty := .int) 0 S hK I cl_X3 rfl wf_X3_7 (by decide) rfl tyX3_ok nmX3 rfl hnm rfl (by decide +kernel) rfl rfl (by exact Nat.le_of_ble_eq_true rfl) rfl dX3_init_6 (fun H locs I => ?_)
  have I : IX D A s.heap ([(a, .inr (3, [.int pa, .int u1, .int u2, .int u3, .int u4, .int u5]))]) H _ := I
  refine lv_aload_n S.1 S.2.1 dX3_init_9 rfl (lv_at hl 0 rfl) ?_
  refine lv_iload_n S.1 S.2.1 dX3_init_10 rfl (lv_at hl 2 rfl) ?_
  refine rpF (ci := 3) (q0 := 0) (T := TX3) (v := .int v) (ty := .int) 1 S hK I cl_X3 rfl wf_X3_13 (by decide) rfl tyX3_ok nmX3 rfl hnm rfl (by decide +kernel) rfl rfl (by exact Nat.le_of_ble_eq_true rfl) rfl dX3_init_11 (fun H locs I => ?_)
  have I : IX D A s.heap ([(a, .inr (3, [.int pa, .int v, .int u2, .int u3, .int u4, .int u5]))]) H _ := I
  refine lv_aload_n S.1 S.2.1 dX3_init_14 rfl (lv_at hl 0 rfl) ?_
  refine lv_iload_n S.1 S.2.1 dX3_init_15 rfl (lv_at hl 3 rfl) ?_
  refine rpF (ci := 3) (q0 := 0) (T := TX3) (v := .int hn) (ty := .int) 2 S hK I cl_X3 rfl wf_X3_16 (by decide) rfl tyX3_ok nmX3 rfl hnm rfl (by decide +kernel) rfl rfl (by exact Nat.le_of_ble_eq_true rfl) rfl dX3_init_16 (fun H locs I => ?_)
  have I : IX D A s.heap ([(a, .inr (3, [.int pa, .int v, .int hn, .int u3, .int u4, .int u5]))]) H _ := I
  refine lv_aload_n S.1 S.2.1 dX3_init_19 rfl (lv_at hl 0 rfl) ?_
  refine lv_iload S.1 S.2.1 dX3_init_20 (lv_at hl 4 rfl) ?_
  refine rpF (ci := 3) (q0 := 0) (T := TX3) (v := .int nd) (ty := .int) 3 S hK I cl_X3 rfl wf_X3_19 (by decide) rfl tyX3_ok nmX3 rfl hnm rfl (by decide +kernel) rfl rfl (by exact Nat.le_of_ble_eq_true rfl) rfl dX3_init_22 (fun H locs I => ?_)
  have I : IX D A s.heap ([(a, .inr (3, [.int pa, .int v, .int hn, .int nd, .int u4, .int u5]))]) H _ := I
  refine lv_aload_n S.1 S.2.1 dX3_init_25 rfl (lv_at hl 0 rfl) ?_
  refine lv_iload S.1 S.2.1 dX3_init_26 (lv_at hl 5 rfl) ?_
  refine rpF (ci := 3) (q0 := 0) (T := TX3) (v := .int fi) (ty := .int) 4 S hK I cl_X3 rfl wf_X3_22 (by decide) rfl tyX3_ok nmX3 rfl hnm rfl (by decide +kernel) rfl rfl (by exact Nat.le_of_ble_eq_true rfl) rfl dX3_init_28 (fun H locs I => ?_)
  have I : IX D A s.heap ([(a, .inr (3, [.int pa, .int v, .int hn, .int nd, .int fi, .int u5]))]) H _ := I
  refine lv_aload_n S.1 S.2.1 dX3_init_31 rfl (lv_at hl 0 rfl) ?_
  refine lv_iload S.1 S.2.1 dX3_init_32 (lv_at hl 6 rfl) ?_
  refine rpF (ci := 3) (q0 := 0) (T := TX3) (v := .int la) (ty := .int) 5 S hK I cl_X3 rfl wf_X3_25 (by decide) rfl tyX3_ok nmX3 rfl hnm rfl (by decide +kernel) rfl rfl (by exact Nat.le_of_ble_eq_true rfl) rfl dX3_init_34 (fun H locs I => ?_)
  have I : IX D A s.heap ([(a, .inr (3, [.int pa, .int v, .int hn, .int nd, .int fi, .int la]))]) H _ := I
  exact ru_v hQ S hr hlk (u := ()) I rfl dX3_init_37
set_option maxHeartbeats 4000000 in
set_option maxRecDepth 100000 in
theorem x_i7_X7 (l : Launch) (D : va_G) (cy : Nat → ClassId) (a : Nat) (u0 u1 u2 u3 pa v y w : Int32) : MS (α := Unit) l D cy yX7_init cX7_init 5 (Option.none : Option FieldType) rm_X7_init [.ref a, .int pa, .int v, .int y, .int w] ([(a, .inr (7, [.int u0, .int u1, .int u2, .int u3]))]) (fun v_ (_ : Unit) => v_ = none) (fun _ => [(a, .inr (7, [.int pa, .int v, .int y, .int w]))]) := by
  refine MS.mk2 (by decide) (Nat.le_of_ble_eq_true rfl) [(0, .ref a), (1, .int pa), (2, .int v), (3, .int y), (4, .int w)] rfl ?_
  intro p e s m args below meth c A ls Q hQ S hr hlk hnm hK hA I hl
  refine lv_aload_n S.1 S.2.1 dX7_init_0 rfl (lv_at hl 0 rfl) ?_
  refine oI (rest := []) S wm_X7_1 hl.1 ⟨by decide, by decide⟩ (Nat.le_of_ble_eq_true rfl) dX7_init_1 ?_
  refine lv_aload_n S.1 S.2.1 dX7_init_4 rfl (lv_at hl 0 rfl) ?_
  refine lv_iload_n S.1 S.2.1 dX7_init_5 rfl (lv_at hl 1 rfl) ?_
  refine rpF (ci := 7) (q0 := 0) (T := TX7) (v := .int pa) (ty := .int) 0 S hK I cl_X7 rfl wf_X7_7 (by decide) rfl tyX7_ok nmX7 rfl hnm rfl (by decide +kernel) rfl rfl (by exact Nat.le_of_ble_eq_true rfl) rfl dX7_init_6 (fun H locs I => ?_)
  have I : IX D A s.heap ([(a, .inr (7, [.int pa, .int u1, .int u2, .int u3]))]) H _ := I
  refine lv_aload_n S.1 S.2.1 dX7_init_9 rfl (lv_at hl 0 rfl) ?_
  refine lv_iload_n S.1 S.2.1 dX7_init_10 rfl (lv_at hl 2 rfl) ?_
  refine rpF (ci := 7) (q0 := 0) (T := TX7) (v := .int v) (ty := .int) 1 S hK I cl_X7 rfl wf_X7_13 (by decide) rfl tyX7_ok nmX7 rfl hnm rfl (by decide +kernel) rfl rfl (by exact Nat.le_of_ble_eq_true rfl) rfl dX7_init_11 (fun H locs I => ?_)
  have I : IX D A s.heap ([(a, .inr (7, [.int pa, .int v, .int u2, .int u3]))]) H _ := I
  refine lv_aload_n S.1 S.2.1 dX7_init_14 rfl (lv_at hl 0 rfl) ?_
  refine lv_iload_n S.1 S.2.1 dX7_init_15 rfl (lv_at hl 3 rfl) ?_
  refine rpF (ci := 7) (q0 := 0) (T := TX7) (v := .int y) (ty := .int) 2 S hK I cl_X7 rfl wf_X7_16 (by decide) rfl tyX7_ok nmX7 rfl hnm rfl (by decide +kernel) rfl rfl (by exact Nat.le_of_ble_eq_true rfl) rfl dX7_init_16 (fun H locs I => ?_)
  have I : IX D A s.heap ([(a, .inr (7, [.int pa, .int v, .int y, .int u3]))]) H _ := I
  refine lv_aload_n S.1 S.2.1 dX7_init_19 rfl (lv_at hl 0 rfl) ?_
  refine lv_iload S.1 S.2.1 dX7_init_20 (lv_at hl 4 rfl) ?_
  refine rpF (ci := 7) (q0 := 0) (T := TX7) (v := .int w) (ty := .int) 3 S hK I cl_X7 rfl wf_X7_19 (by decide) rfl tyX7_ok nmX7 rfl hnm rfl (by decide +kernel) rfl rfl (by exact Nat.le_of_ble_eq_true rfl) rfl dX7_init_22 (fun H locs I => ?_)
  have I : IX D A s.heap ([(a, .inr (7, [.int pa, .int v, .int y, .int w]))]) H _ := I
  exact ru_v hQ S hr hlk (u := ()) I rfl dX7_init_25
theorem nwd_X2 : ∀ j, j < 3 → defaultValue (tyX2 j) = vp_V [.int (nI 0), .int (nI 0), .int (nI 0)] j := by
  intro j hj
  rcases j with _ | _ | _ | j <;> first | rfl | omega
theorem nwd_X8 : ∀ j, j < 3 → defaultValue (tyX8 j) = vp_V [.int (nI 0), .int (nI 0), .int (nI 0)] j := by
  intro j hj
  rcases j with _ | _ | _ | j <;> first | rfl | omega
theorem nwd_X10 : ∀ j, j < 3 → defaultValue (tyX10 j) = vp_V [.int (nI 0), .int (nI 0), .int (nI 0)] j := by
  intro j hj
  rcases j with _ | _ | _ | j <;> first | rfl | omega
theorem nwd_X1 : ∀ j, j < 4 → defaultValue (tyX1 j) = vp_V [.int (nI 0), .int (nI 0), .int (nI 0), .int (nI 0)] j := by
  intro j hj
  rcases j with _ | _ | _ | _ | j <;> first | rfl | omega
theorem nwd_X0 : ∀ j, j < 5 → defaultValue (tyX0 j) = vp_V [.int (nI 0), .int (nI 0), .int (nI 0), .int (nI 0), .int (nI 0)] j := by
  intro j hj
  rcases j with _ | _ | _ | _ | _ | j <;> first | rfl | omega
theorem nwd_X3 : ∀ j, j < 6 → defaultValue (tyX3 j) = vp_V [.int (nI 0), .int (nI 0), .int (nI 0), .int (nI 0), .int (nI 0), .int (nI 0)] j := by
  intro j hj
  rcases j with _ | _ | _ | _ | _ | _ | j <;> first | rfl | omega
theorem nwd_X7 : ∀ j, j < 4 → defaultValue (tyX7 j) = vp_V [.int (nI 0), .int (nI 0), .int (nI 0), .int (nI 0)] j := by
  intro j hj
  rcases j with _ | _ | _ | _ | j <;> first | rfl | omega
set_option maxHeartbeats 4000000 in
set_option maxRecDepth 100000 in
theorem x_newHole (l : Launch) (D : va_G) (cy : Nat → ClassId) (q : Nat → Nat) (K : Nat → Nat) (C : Nat → Nat → Int32) (O : Nat → Nat → Option Nat) (L : List Nat) (f : Nat → va_E) (k x lo hi : Int32) : MS (α := List Nat × (Nat → va_E)) l D cy yX11_newHole cX11_newHole 4 (Option.some (FieldType.object "MendDesk$Hole")) rm_X11_newHole [.int k, .int x, .int lo, .int hi] (wX cy q K C O L f) (fun v_ u_ => (isK k = true ∧ ∃ a, a ∉ L ∧ v_ = some (.ref a) ∧ u_.1 = L ++ [a] ∧ u_.2 = va_up f a (hcell k.toNatClampNeg x lo hi (nI 0) (nI 0) (nI 0))) ∨ (isK k = false ∧ v_ = some .null ∧ u_ = (L, f))) (fun u_ => wX cy q K C O u_.1 u_.2) := by
  refine MS.mk2 (by decide) (Nat.le_of_ble_eq_true rfl) [(0, .int k), (1, .int x), (2, .int lo), (3, .int hi)] rfl ?_
  intro p e s m args below meth c A ls Q hQ S hr hlk hnm hK hA I hl
  refine lv_iload_n S.1 S.2.1 dX11_newHole_0 rfl (lv_at hl 0 rfl) ?_
  rcases sw_5 k with hsw | hsw | hsw | hsw | hsw | hsw
  · skip
    refine lv_tableIn (off := 35) (tgt := 36) S.1 S.2.1 dX11_newHole_1 (by rw [hsw]; decide) (by rw [hsw]; decide) (by rw [hsw]; rfl) (by decide) ?_
    refine nwP (ci := 2) (fs := [.int (nI 0), .int (nI 0), .int (nI 0)]) S hK hA I cl_X2 tyX2_ok wc_X11_98 wb_X2 wn_X2 rfl nwd_X2 ⟨by decide, by decide⟩ dX11_newHole_36 (fun a H hn_a I => ?_)
    have I : IX D A s.heap (wX cy q K C O (L ++ [a]) (va_up f a (.inr (2, [.int (nI 0), .int (nI 0), .int (nI 0)])))) H _ := I
    refine lv_dup S.1 S.2.1 dX11_newHole_39 rfl ?_
    refine lv_iload_n S.1 S.2.1 dX11_newHole_40 rfl (lv_at hl 1 rfl) ?_
    refine lv_iload_n S.1 S.2.1 dX11_newHole_41 rfl (lv_at hl 2 rfl) ?_
    refine lv_iload_n S.1 S.2.1 dX11_newHole_42 rfl (lv_at hl 3 rfl) ?_
    refine cIP (np := 3) (a := a) (As := [.int x, .int lo, .int hi]) (rest := [.ref a]) S (x_i2_X2 l D cy a (nI 0) (nI 0) (nI 0) x lo hi) hK hA hn_a I wm_X11_247 wi_X2_init wn_X2 wk_X2_init rfl hd_X2_init rfl ⟨by decide, by decide⟩ hl.1 rfl (Nat.le_of_ble_eq_true rfl) dX11_newHole_43 ⟨by decide, by decide⟩ (fun H locs I => ?_)
    have I : IX D A s.heap (wX cy q K C O (L ++ [a]) (va_up f a (.inr (2, [.int x, .int lo, .int hi])))) H _ := I
    refine tV (y := va_rf (some a)) rfl ?_
    exact ru_a hQ S hr hlk (u := ((L ++ [a]), (va_up f a (.inr (2, [.int x, .int lo, .int hi]))))) I (Or.inl ⟨by rw [hsw]; rfl, a, hn_a, rfl, rfl, by rw [hsw]; rfl⟩) dX11_newHole_46
  · skip
    refine lv_tableIn (off := 79) (tgt := 80) S.1 S.2.1 dX11_newHole_1 (by rw [hsw]; decide) (by rw [hsw]; decide) (by rw [hsw]; rfl) (by decide) ?_
    refine lv_null S.1 S.2.1 dX11_newHole_80 ?_
    refine tV (y := va_rf none) rfl ?_
    exact ru_a hQ S hr hlk (u := (L, f)) I (Or.inr ⟨(by rw [hsw]; rfl), rfl, rfl⟩) dX11_newHole_81
  · skip
    refine lv_tableIn (off := 46) (tgt := 47) S.1 S.2.1 dX11_newHole_1 (by rw [hsw]; decide) (by rw [hsw]; decide) (by rw [hsw]; rfl) (by decide) ?_
    refine nwP (ci := 8) (fs := [.int (nI 0), .int (nI 0), .int (nI 0)]) S hK hA I cl_X8 tyX8_ok wc_X11_250 wb_X8 wn_X8 rfl nwd_X8 ⟨by decide, by decide⟩ dX11_newHole_47 (fun a H hn_a I => ?_)
    have I : IX D A s.heap (wX cy q K C O (L ++ [a]) (va_up f a (.inr (8, [.int (nI 0), .int (nI 0), .int (nI 0)])))) H _ := I
    refine lv_dup S.1 S.2.1 dX11_newHole_50 rfl ?_
    refine lv_iload_n S.1 S.2.1 dX11_newHole_51 rfl (lv_at hl 1 rfl) ?_
    refine lv_iload_n S.1 S.2.1 dX11_newHole_52 rfl (lv_at hl 2 rfl) ?_
    refine lv_iload_n S.1 S.2.1 dX11_newHole_53 rfl (lv_at hl 3 rfl) ?_
    refine cIP (np := 3) (a := a) (As := [.int x, .int lo, .int hi]) (rest := [.ref a]) S (x_i8_X8 l D cy a (nI 0) (nI 0) (nI 0) x lo hi) hK hA hn_a I wm_X11_252 wi_X8_init wn_X8 wk_X8_init rfl hd_X8_init rfl ⟨by decide, by decide⟩ hl.1 rfl (Nat.le_of_ble_eq_true rfl) dX11_newHole_54 ⟨by decide, by decide⟩ (fun H locs I => ?_)
    have I : IX D A s.heap (wX cy q K C O (L ++ [a]) (va_up f a (.inr (8, [.int x, .int lo, .int hi])))) H _ := I
    refine tV (y := va_rf (some a)) rfl ?_
    exact ru_a hQ S hr hlk (u := ((L ++ [a]), (va_up f a (.inr (8, [.int x, .int lo, .int hi]))))) I (Or.inl ⟨by rw [hsw]; rfl, a, hn_a, rfl, rfl, by rw [hsw]; rfl⟩) dX11_newHole_57
  · skip
    refine lv_tableIn (off := 57) (tgt := 58) S.1 S.2.1 dX11_newHole_1 (by rw [hsw]; decide) (by rw [hsw]; decide) (by rw [hsw]; rfl) (by decide) ?_
    refine nwP (ci := 10) (fs := [.int (nI 0), .int (nI 0), .int (nI 0)]) S hK hA I cl_X10 tyX10_ok wc_X11_253 wb_X10 wn_X10 rfl nwd_X10 ⟨by decide, by decide⟩ dX11_newHole_58 (fun a H hn_a I => ?_)
    have I : IX D A s.heap (wX cy q K C O (L ++ [a]) (va_up f a (.inr (10, [.int (nI 0), .int (nI 0), .int (nI 0)])))) H _ := I
    refine lv_dup S.1 S.2.1 dX11_newHole_61 rfl ?_
    refine lv_iload_n S.1 S.2.1 dX11_newHole_62 rfl (lv_at hl 1 rfl) ?_
    refine lv_iload_n S.1 S.2.1 dX11_newHole_63 rfl (lv_at hl 2 rfl) ?_
    refine lv_iload_n S.1 S.2.1 dX11_newHole_64 rfl (lv_at hl 3 rfl) ?_
    refine cIP (np := 3) (a := a) (As := [.int x, .int lo, .int hi]) (rest := [.ref a]) S (x_i10_X10 l D cy a (nI 0) (nI 0) (nI 0) x lo hi) hK hA hn_a I wm_X11_255 wi_X10_init wn_X10 wk_X10_init rfl hd_X10_init rfl ⟨by decide, by decide⟩ hl.1 rfl (Nat.le_of_ble_eq_true rfl) dX11_newHole_65 ⟨by decide, by decide⟩ (fun H locs I => ?_)
    have I : IX D A s.heap (wX cy q K C O (L ++ [a]) (va_up f a (.inr (10, [.int x, .int lo, .int hi])))) H _ := I
    refine tV (y := va_rf (some a)) rfl ?_
    exact ru_a hQ S hr hlk (u := ((L ++ [a]), (va_up f a (.inr (10, [.int x, .int lo, .int hi]))))) I (Or.inl ⟨by rw [hsw]; rfl, a, hn_a, rfl, rfl, by rw [hsw]; rfl⟩) dX11_newHole_68
  · skip
    refine lv_tableIn (off := 68) (tgt := 69) S.1 S.2.1 dX11_newHole_1 (by rw [hsw]; decide) (by rw [hsw]; decide) (by rw [hsw]; rfl) (by decide) ?_
    refine nwP (ci := 1) (fs := [.int (nI 0), .int (nI 0), .int (nI 0), .int (nI 0)]) S hK hA I cl_X1 tyX1_ok wc_X11_105 wb_X1 wn_X1 rfl nwd_X1 ⟨by decide, by decide⟩ dX11_newHole_69 (fun a H hn_a I => ?_)
    have I : IX D A s.heap (wX cy q K C O (L ++ [a]) (va_up f a (.inr (1, [.int (nI 0), .int (nI 0), .int (nI 0), .int (nI 0)])))) H _ := I
    refine lv_dup S.1 S.2.1 dX11_newHole_72 rfl ?_
    refine lv_iload_n S.1 S.2.1 dX11_newHole_73 rfl (lv_at hl 1 rfl) ?_
    refine lv_iload_n S.1 S.2.1 dX11_newHole_74 rfl (lv_at hl 2 rfl) ?_
    refine lv_iload_n S.1 S.2.1 dX11_newHole_75 rfl (lv_at hl 3 rfl) ?_
    refine cIP (np := 3) (a := a) (As := [.int x, .int lo, .int hi]) (rest := [.ref a]) S (x_i1_X1 l D cy a (nI 0) (nI 0) (nI 0) (nI 0) x lo hi) hK hA hn_a I wm_X11_256 wi_X1_init wn_X1 wk_X1_init rfl hd_X1_init rfl ⟨by decide, by decide⟩ hl.1 rfl (Nat.le_of_ble_eq_true rfl) dX11_newHole_76 ⟨by decide, by decide⟩ (fun H locs I => ?_)
    have I : IX D A s.heap (wX cy q K C O (L ++ [a]) (va_up f a (.inr (1, [.int x, .int lo, .int hi, .int (nI 0)])))) H _ := I
    refine tV (y := va_rf (some a)) rfl ?_
    exact ru_a hQ S hr hlk (u := ((L ++ [a]), (va_up f a (.inr (1, [.int x, .int lo, .int hi, .int (nI 0)]))))) I (Or.inl ⟨by rw [hsw]; rfl, a, hn_a, rfl, rfl, by rw [hsw]; rfl⟩) dX11_newHole_79
  · skip
    refine lv_tableOut (tgt := 80) S.1 S.2.1 dX11_newHole_1 hsw.2 (by decide) ?_
    refine lv_null S.1 S.2.1 dX11_newHole_80 ?_
    refine tV (y := va_rf none) rfl ?_
    exact ru_a hQ S hr hlk (u := (L, f)) I (Or.inr ⟨(isK_no hsw.1), rfl, rfl⟩) dX11_newHole_81
set_option maxHeartbeats 4000000 in
set_option maxRecDepth 100000 in
theorem x_addHole (l : Launch) (D : va_G) (cy : Nat → ClassId) (q : Nat → Nat) (K : Nat → Nat) (C : Nat → Nat → Int32) (O : Nat → Nat → Option Nat) (L : List Nat) (f : Nat → va_E) (N : Nat → Nat) (R : Nat → Nat → Int32) (k x lo hi t : Int32) (a : Nat) (hW : WFm N R) (hrc : RelC K C O L f N R) (hk4 : k.toNatClampNeg ≤ 4) (ha : a ∈ L) (hfr : ∀ z, z < N 6 → O 8 z ≠ some a) (hf : f a = hcell k.toNatClampNeg x lo hi (nI t.toNatClampNeg) (upd (R 8) (N 6) x t.toNatClampNeg) (nI 0)) : MS (α := (Nat → Nat) × (Nat → Nat → Int32) × (Nat → Nat → Option Nat) × List Nat × (Nat → va_E)) l D cy yX5_addHole cX5_addHole 2 (Option.some FieldType.int) rm_X5_addHole [.ref (q 1), .ref a] (wX cy q K C O L f) (fun v_ u_ => v_ = some (.int (sp_add N R k x lo hi t).1) ∧ RelC u_.1 u_.2.1 u_.2.2.1 u_.2.2.2.1 u_.2.2.2.2 (sp_add N R k x lo hi t).2.1 (sp_add N R k x lo hi t).2.2) (fun u_ => wX cy q u_.1 u_.2.1 u_.2.2.1 u_.2.2.2.1 u_.2.2.2.2) := by
  refine MS.mk2 (by decide) (Nat.le_of_ble_eq_true rfl) [(0, .ref (q 1)), (1, .ref a)] rfl ?_
  intro p e s m args below meth c A ls Q hQ S hr hlk hnm hK hA I hl
  have hW0 := hW
  obtain ⟨hB, hPt, hBo, hH, hM, hQu⟩ := hW0
  have hB0 := hB
  obtain ⟨b0, b6, b17, b24, b30⟩ := hB0
  have hrc0 := hrc
  obtain ⟨hrel, hrg, hrm, hrp, hinj⟩ := hrc0
  have hrel0 := hrel
  obtain ⟨k0, k1, hC6, hK2, hC7, hHol⟩ := hrel0
  have hrm0 := hrm
  obtain ⟨k7, k8, hMe, hQe⟩ := hrm0
  have hrg0 := hrg
  obtain ⟨hC5, hG, hG3, hG2⟩ := hrg0
  have hp2 := pow_256 b17
  obtain ⟨k9, hC20, hK10, hC31⟩ := hrp
  have hgC : ∀ p, p < N 0 → C 5 p = R 1 p := fun p hp => hC5 p (by omega)
  refine lv_aload_n S.1 S.2.1 dX5_addHole_0 rfl (lv_at hl 0 rfl) ?_
  refine rg (ci := 5) (q0 := 1) (v := .int (nI (K 1))) 5 S hK I cl_X5 rfl wf_X5_31 (by decide) rfl rfl rfl dX5_addHole_1 ?_
  refine lv_bipush (v := nI 12) S.1 S.2.1 dX5_addHole_4 (by decide) ?_
  refine lv_icmp_lt (tgt := 12) S.1 S.2.1 dX5_addHole_6 (by decide) (fun c_6 => ?_) (fun c_6 => ?_)
  · skip
    have c_6o := c_6
    have c_6 := nI_cltT (by omega) (by omega) c_6
    refine lv_aload_n S.1 S.2.1 dX5_addHole_12 rfl (lv_at hl 0 rfl) ?_
    refine rg (ci := 5) (q0 := 1) (v := .ref (q 8)) 3 S hK I cl_X5 rfl wf_X5_23 (by decide) rfl rfl rfl dX5_addHole_13 ?_
    refine lv_aload_n S.1 S.2.1 dX5_addHole_16 rfl (lv_at hl 0 rfl) ?_
    refine rg (ci := 5) (q0 := 1) (v := .int (nI (K 1))) 5 S hK I cl_X5 rfl wf_X5_31 (by decide) rfl rfl rfl dX5_addHole_17 ?_
    refine lv_aload_n S.1 S.2.1 dX5_addHole_20 rfl (lv_at hl 1 rfl) ?_
    refine sq (q0 := 8) (t0 := 2) (n := 12) (Cn := RX2) (g := O 8) (K 1) S hK I rfl rfl (anyH hK I ha hk4 hf) rfl (by omega) (by decide) dX5_addHole_21 (fun H locs I => ?_)
    have I : IX D A s.heap (wX cy q K C (va_up O 8 (va_up (O 8) (K 1) (some a))) L f) H _ := I
    refine lv_aload_n S.1 S.2.1 dX5_addHole_22 rfl (lv_at hl 0 rfl) ?_
    refine lv_dup S.1 S.2.1 dX5_addHole_23 rfl ?_
    refine rg (ci := 5) (q0 := 1) (v := .int (nI (K 1))) 5 S hK I cl_X5 rfl wf_X5_31 (by decide) rfl rfl rfl dX5_addHole_24 ?_
    refine lv_dup_x1 S.1 S.2.1 dX5_addHole_27 rfl rfl ?_
    refine lv_iconst (v := nI 1) S.1 S.2.1 dX5_addHole_28 (by decide) ?_
    refine lv_iadd S.1 S.2.1 dX5_addHole_29 ?_
    refine tI (y := nI ((K 1) + 1)) (nI_add _ _) ?_
    refine rp (ci := 5) (q0 := 1) (v := .int (nI ((K 1) + 1))) (ty := .int) 5 S hK I cl_X5 rfl wf_X5_31 (by decide) rfl tyX5_ok nmX5 rfl (by decide +kernel) rfl rfl (by exact Nat.le_of_ble_eq_true rfl) rfl dX5_addHole_30 (fun H locs I => ?_)
    have I : IX D A s.heap (wX cy q (va_up K 1 ((K 1) + 1)) C (va_up O 8 (va_up (O 8) (K 1) (some a))) L f) H locs := I
    exact ru_i hQ S hr hlk (u := ((va_up K 1 ((K 1) + 1)), C, (va_up O 8 (va_up (O 8) (K 1) (some a))), L, f)) I (by rw [sp_add, if_neg (by omega)]; exact ⟨congrArg (fun z => some (Value.int (nI z))) k1, hole_rel (k := k) (x := x) (lo := lo) (hi := hi) (t := t) hrc hH ha hfr hf (congrArg (fun z => z + 1) k1) (congrArg (fun z => va_up (O 8) z (some a)) k1)⟩) dX5_addHole_33
  · skip
    have c_6o := c_6
    have c_6 := nI_cltF (by omega) (by omega) c_6
    refine lv_bipush (v := (-3)) S.1 S.2.1 dX5_addHole_9 (by decide) ?_
    exact ru_i hQ S hr hlk (u := (K, C, O, L, f)) I (by rw [sp_add, if_pos (by omega)]; exact ⟨rfl, hrc⟩) dX5_addHole_11
set_option maxHeartbeats 4000000 in
set_option maxRecDepth 100000 in
theorem x_addMend (l : Launch) (D : va_G) (cy : Nat → ClassId) (q : Nat → Nat) (K : Nat → Nat) (C : Nat → Nat → Int32) (O : Nat → Nat → Option Nat) (L : List Nat) (f : Nat → va_E) (N : Nat → Nat) (R : Nat → Nat → Int32) (x v hn nd fi la : Int32) (a : Nat) (hW : WFm N R) (hrc : RelC K C O L f N R) (ha : a ∈ L) (hf : f a = .inr (3, [.int x, .int v, .int hn, .int nd, .int fi, .int la])) : MS (α := (Nat → Nat) × (Nat → Nat → Int32) × (Nat → Nat → Option Nat) × List Nat × (Nat → va_E)) l D cy yX4_addMend cX4_addMend 2 (Option.some FieldType.int) rm_X4_addMend [.ref (q 3), .ref a] (wX cy q K C O L f) (fun v_ u_ => v_ = some (.int (sp_am N R x v hn nd fi la).1) ∧ RelC u_.1 u_.2.1 u_.2.2.1 u_.2.2.2.1 u_.2.2.2.2 (sp_am N R x v hn nd fi la).2.1 (sp_am N R x v hn nd fi la).2.2) (fun u_ => wX cy q u_.1 u_.2.1 u_.2.2.1 u_.2.2.2.1 u_.2.2.2.2) := by
  refine MS.mk2 (by decide) (Nat.le_of_ble_eq_true rfl) [(0, .ref (q 3)), (1, .ref a)] rfl ?_
  intro p e s m args below meth c A ls Q hQ S hr hlk hnm hK hA I hl
  have hW0 := hW
  obtain ⟨hB, hPt, hBo, hH, hM, hQu⟩ := hW0
  have hB0 := hB
  obtain ⟨b0, b6, b17, b24, b30⟩ := hB0
  have hrc0 := hrc
  obtain ⟨hrel, hrg, hrm, hrp, hinj⟩ := hrc0
  have hrel0 := hrel
  obtain ⟨k0, k1, hC6, hK2, hC7, hHol⟩ := hrel0
  have hrm0 := hrm
  obtain ⟨k7, k8, hMe, hQe⟩ := hrm0
  have hrg0 := hrg
  obtain ⟨hC5, hG, hG3, hG2⟩ := hrg0
  have hp2 := pow_256 b17
  obtain ⟨k9, hC20, hK10, hC31⟩ := hrp
  have hgC : ∀ p, p < N 0 → C 5 p = R 1 p := fun p hp => hC5 p (by omega)
  refine lv_aload_n S.1 S.2.1 dX4_addMend_0 rfl (lv_at hl 0 rfl) ?_
  refine rg (ci := 4) (q0 := 3) (v := .int (nI (K 7))) 5 S hK I cl_X4 rfl wf_X4_35 (by decide) rfl rfl rfl dX4_addMend_1 ?_
  refine lv_bipush (v := nI 8) S.1 S.2.1 dX4_addMend_4 (by decide) ?_
  refine lv_icmp_lt (tgt := 12) S.1 S.2.1 dX4_addMend_6 (by decide) (fun c_6 => ?_) (fun c_6 => ?_)
  · skip
    have c_6o := c_6
    have c_6 := nI_cltT (by omega) (by omega) c_6
    refine lv_aload_n S.1 S.2.1 dX4_addMend_12 rfl (lv_at hl 0 rfl) ?_
    refine rg (ci := 4) (q0 := 3) (v := .ref (q 12)) 2 S hK I cl_X4 rfl wf_X4_11 (by decide) rfl rfl rfl dX4_addMend_13 ?_
    refine lv_aload_n S.1 S.2.1 dX4_addMend_16 rfl (lv_at hl 0 rfl) ?_
    refine rg (ci := 4) (q0 := 3) (v := .int (nI (K 7))) 5 S hK I cl_X4 rfl wf_X4_35 (by decide) rfl rfl rfl dX4_addMend_17 ?_
    refine lv_aload_n S.1 S.2.1 dX4_addMend_20 rfl (lv_at hl 1 rfl) ?_
    refine sq (q0 := 12) (t0 := 3) (n := 8) (Cn := RX3) (g := O 12) (K 7) S hK I rfl rfl (anyS (ci := 3) hK I ha rfl hf) rfl (by omega) (by decide) dX4_addMend_21 (fun H locs I => ?_)
    have I : IX D A s.heap (wX cy q K C (va_up O 12 (va_up (O 12) (K 7) (some a))) L f) H _ := I
    refine lv_aload_n S.1 S.2.1 dX4_addMend_22 rfl (lv_at hl 0 rfl) ?_
    refine lv_dup S.1 S.2.1 dX4_addMend_23 rfl ?_
    refine rg (ci := 4) (q0 := 3) (v := .int (nI (K 7))) 5 S hK I cl_X4 rfl wf_X4_35 (by decide) rfl rfl rfl dX4_addMend_24 ?_
    refine lv_dup_x1 S.1 S.2.1 dX4_addMend_27 rfl rfl ?_
    refine lv_iconst (v := nI 1) S.1 S.2.1 dX4_addMend_28 (by decide) ?_
    refine lv_iadd S.1 S.2.1 dX4_addMend_29 ?_
    refine tI (y := nI ((K 7) + 1)) (nI_add _ _) ?_
    refine rp (ci := 4) (q0 := 3) (v := .int (nI ((K 7) + 1))) (ty := .int) 5 S hK I cl_X4 rfl wf_X4_35 (by decide) rfl tyX4_ok nmX4 rfl (by decide +kernel) rfl rfl (by exact Nat.le_of_ble_eq_true rfl) rfl dX4_addMend_30 (fun H locs I => ?_)
    have I : IX D A s.heap (wX cy q (va_up K 7 ((K 7) + 1)) C (va_up O 12 (va_up (O 12) (K 7) (some a))) L f) H locs := I
    exact ru_i hQ S hr hlk (u := ((va_up K 7 ((K 7) + 1)), C, (va_up O 12 (va_up (O 12) (K 7) (some a))), L, f)) I (by rw [sp_am, if_neg (by omega)]; exact ⟨congrArg (fun z => some (Value.int (nI z))) k7, mend_rel hrc ha hf (congrArg (fun z => z + 1) k7) (congrArg (fun z => va_up (O 12) z (some a)) k7)⟩) dX4_addMend_33
  · skip
    have c_6o := c_6
    have c_6 := nI_cltF (by omega) (by omega) c_6
    refine lv_bipush (v := (-3)) S.1 S.2.1 dX4_addMend_9 (by decide) ?_
    exact ru_i hQ S hr hlk (u := (K, C, O, L, f)) I (by rw [sp_am, if_pos (by omega)]; exact ⟨rfl, hrc⟩) dX4_addMend_11
set_option maxHeartbeats 4000000 in
set_option maxRecDepth 100000 in
theorem x_addQuarrel (l : Launch) (D : va_G) (cy : Nat → ClassId) (q : Nat → Nat) (K : Nat → Nat) (C : Nat → Nat → Int32) (O : Nat → Nat → Option Nat) (L : List Nat) (f : Nat → va_E) (N : Nat → Nat) (R : Nat → Nat → Int32) (x v y w : Int32) (a : Nat) (hW : WFm N R) (hrc : RelC K C O L f N R) (ha : a ∈ L) (hf : f a = .inr (7, [.int x, .int v, .int y, .int w])) : MS (α := (Nat → Nat) × (Nat → Nat → Int32) × (Nat → Nat → Option Nat) × List Nat × (Nat → va_E)) l D cy yX4_addQuarrel cX4_addQuarrel 2 (Option.some FieldType.int) rm_X4_addQuarrel [.ref (q 3), .ref a] (wX cy q K C O L f) (fun v_ u_ => v_ = some (.int (sp_aq N R x v y w).1) ∧ RelC u_.1 u_.2.1 u_.2.2.1 u_.2.2.2.1 u_.2.2.2.2 (sp_aq N R x v y w).2.1 (sp_aq N R x v y w).2.2) (fun u_ => wX cy q u_.1 u_.2.1 u_.2.2.1 u_.2.2.2.1 u_.2.2.2.2) := by
  refine MS.mk2 (by decide) (Nat.le_of_ble_eq_true rfl) [(0, .ref (q 3)), (1, .ref a)] rfl ?_
  intro p e s m args below meth c A ls Q hQ S hr hlk hnm hK hA I hl
  have hW0 := hW
  obtain ⟨hB, hPt, hBo, hH, hM, hQu⟩ := hW0
  have hB0 := hB
  obtain ⟨b0, b6, b17, b24, b30⟩ := hB0
  have hrc0 := hrc
  obtain ⟨hrel, hrg, hrm, hrp, hinj⟩ := hrc0
  have hrel0 := hrel
  obtain ⟨k0, k1, hC6, hK2, hC7, hHol⟩ := hrel0
  have hrm0 := hrm
  obtain ⟨k7, k8, hMe, hQe⟩ := hrm0
  have hrg0 := hrg
  obtain ⟨hC5, hG, hG3, hG2⟩ := hrg0
  have hp2 := pow_256 b17
  obtain ⟨k9, hC20, hK10, hC31⟩ := hrp
  have hgC : ∀ p, p < N 0 → C 5 p = R 1 p := fun p hp => hC5 p (by omega)
  refine lv_aload_n S.1 S.2.1 dX4_addQuarrel_0 rfl (lv_at hl 0 rfl) ?_
  refine rg (ci := 4) (q0 := 3) (v := .int (nI (K 8))) 6 S hK I cl_X4 rfl wf_X4_43 (by decide) rfl rfl rfl dX4_addQuarrel_1 ?_
  refine lv_bipush (v := nI 8) S.1 S.2.1 dX4_addQuarrel_4 (by decide) ?_
  refine lv_icmp_lt (tgt := 12) S.1 S.2.1 dX4_addQuarrel_6 (by decide) (fun c_6 => ?_) (fun c_6 => ?_)
  · skip
    have c_6o := c_6
    have c_6 := nI_cltT (by omega) (by omega) c_6
    refine lv_aload_n S.1 S.2.1 dX4_addQuarrel_12 rfl (lv_at hl 0 rfl) ?_
    refine rg (ci := 4) (q0 := 3) (v := .ref (q 13)) 3 S hK I cl_X4 rfl wf_X4_19 (by decide) rfl rfl rfl dX4_addQuarrel_13 ?_
    refine lv_aload_n S.1 S.2.1 dX4_addQuarrel_16 rfl (lv_at hl 0 rfl) ?_
    refine rg (ci := 4) (q0 := 3) (v := .int (nI (K 8))) 6 S hK I cl_X4 rfl wf_X4_43 (by decide) rfl rfl rfl dX4_addQuarrel_17 ?_
    refine lv_aload_n S.1 S.2.1 dX4_addQuarrel_20 rfl (lv_at hl 1 rfl) ?_
    refine sq (q0 := 13) (t0 := 4) (n := 8) (Cn := RX7) (g := O 13) (K 8) S hK I rfl rfl (anyS (ci := 7) hK I ha rfl hf) rfl (by omega) (by decide) dX4_addQuarrel_21 (fun H locs I => ?_)
    have I : IX D A s.heap (wX cy q K C (va_up O 13 (va_up (O 13) (K 8) (some a))) L f) H _ := I
    refine lv_aload_n S.1 S.2.1 dX4_addQuarrel_22 rfl (lv_at hl 0 rfl) ?_
    refine lv_dup S.1 S.2.1 dX4_addQuarrel_23 rfl ?_
    refine rg (ci := 4) (q0 := 3) (v := .int (nI (K 8))) 6 S hK I cl_X4 rfl wf_X4_43 (by decide) rfl rfl rfl dX4_addQuarrel_24 ?_
    refine lv_iconst (v := nI 1) S.1 S.2.1 dX4_addQuarrel_27 (by decide) ?_
    refine lv_iadd S.1 S.2.1 dX4_addQuarrel_28 ?_
    refine tI (y := nI ((K 8) + 1)) (nI_add _ _) ?_
    refine lv_dup_x1 S.1 S.2.1 dX4_addQuarrel_29 rfl rfl ?_
    refine rp (ci := 4) (q0 := 3) (v := .int (nI ((K 8) + 1))) (ty := .int) 6 S hK I cl_X4 rfl wf_X4_43 (by decide) rfl tyX4_ok nmX4 rfl (by decide +kernel) rfl rfl (by exact Nat.le_of_ble_eq_true rfl) rfl dX4_addQuarrel_30 (fun H locs I => ?_)
    have I : IX D A s.heap (wX cy q (va_up K 8 ((K 8) + 1)) C (va_up O 13 (va_up (O 13) (K 8) (some a))) L f) H locs := I
    exact ru_i hQ S hr hlk (u := ((va_up K 8 ((K 8) + 1)), C, (va_up O 13 (va_up (O 13) (K 8) (some a))), L, f)) I (by rw [sp_aq, if_neg (by omega)]; exact ⟨congrArg (fun z => some (Value.int (nI (z + 1)))) k8, quarrel_rel hrc ha hf (congrArg (fun z => z + 1) k8) (congrArg (fun z => va_up (O 13) z (some a)) k8)⟩) dX4_addQuarrel_33
  · skip
    have c_6o := c_6
    have c_6 := nI_cltF (by omega) (by omega) c_6
    refine lv_bipush (v := (-3)) S.1 S.2.1 dX4_addQuarrel_9 (by decide) ?_
    exact ru_i hQ S hr hlk (u := (K, C, O, L, f)) I (by rw [sp_aq, if_pos (by omega)]; exact ⟨rfl, hrc⟩) dX4_addQuarrel_11
set_option maxHeartbeats 4000000 in
set_option maxRecDepth 100000 in
theorem x_hole (l : Launch) (D : va_G) (cy : Nat → ClassId) (q : Nat → Nat) (K : Nat → Nat) (C : Nat → Nat → Int32) (O : Nat → Nat → Option Nat) (L : List Nat) (f : Nat → va_E) (N : Nat → Nat) (R : Nat → Nat → Int32) (k : Int32) (x : Int32) (lo : Int32) (hi : Int32) (hW : WFm N R) (hrc : RelC K C O L f N R) : MS (α := (Nat → Nat) × (Nat → Nat → Int32) × (Nat → Nat → Option Nat) × List Nat × (Nat → va_E)) l D cy yX11_hole cX11_hole 6 (Option.some FieldType.int) rm_X11_hole [.ref (q 0), .int k, .int x, .int lo, .int hi] (wX cy q K C O L f) (fun v_ u_ => v_ = some (.int (sp_hole N R k x lo hi).1) ∧ RelC u_.1 u_.2.1 u_.2.2.1 u_.2.2.2.1 u_.2.2.2.2 (sp_hole N R k x lo hi).2.1 (sp_hole N R k x lo hi).2.2) (fun u_ => wX cy q u_.1 u_.2.1 u_.2.2.1 u_.2.2.2.1 u_.2.2.2.2) := by
  refine MS.mk2 (by decide) (Nat.le_of_ble_eq_true rfl) [(0, .ref (q 0)), (1, .int k), (2, .int x), (3, .int lo), (4, .int hi)] rfl ?_
  intro p e s m args below meth c A ls Q hQ S hr hlk hnm hK hA I hl
  have hW0 := hW
  obtain ⟨hB, hPt, hBo, hH, hM, hQu⟩ := hW0
  have hB0 := hB
  obtain ⟨b0, b6, b17, b24, b30⟩ := hB0
  have hrc0 := hrc
  obtain ⟨hrel, hrg, hrm, hrp, hinj⟩ := hrc0
  have hrel0 := hrel
  obtain ⟨k0, k1, hC6, hK2, hC7, hHol⟩ := hrel0
  have hrm0 := hrm
  obtain ⟨k7, k8, hMe, hQe⟩ := hrm0
  have hrg0 := hrg
  obtain ⟨hC5, hG, hG3, hG2⟩ := hrg0
  have hp2 := pow_256 b17
  obtain ⟨k9, hC20, hK10, hC31⟩ := hrp
  have hgC : ∀ p, p < N 0 → C 5 p = R 1 p := fun p hp => hC5 p (by omega)
  refine lv_aload_n S.1 S.2.1 dX11_hole_0 rfl (lv_at hl 0 rfl) ?_
  refine rg (ci := 11) (q0 := 0) (v := .ref (q 1)) 0 S hK I cl_X11 rfl wf_X11_12 (by decide) rfl rfl rfl dX11_hole_1 ?_
  refine lv_iload_n S.1 S.2.1 dX11_hole_4 rfl (lv_at hl 2 rfl) ?_
  refine cV (np := 1) (ci := 5) (q0 := 1) (As := [.int x]) (rest := []) S (x_hasPart l D cy q K C O L f x (by omega)) hK hA I wm_X11_55 wi_X5_hasPart ws_X5_X5_hasPart wn_X5 wk_X5_hasPart ⟨rfl, hd_X5_hasPart⟩ rfl ⟨by decide, by decide⟩ rfl rfl hl.1 rfl (Nat.le_of_ble_eq_true rfl) dX11_hole_5 ⟨by decide, by decide⟩ (fun v_ u_ H locs h_ I => ?_)
  obtain rfl := h_
  have I : IX D A s.heap (wX cy q K C O L f) H locs := I
  refine W.eq (g2 := F0 m 8 ls [.int (bI (isP (K 0) x))]) rfl ?_
  refine lv_if_eq (tgt := 20) S.1 S.2.1 dX11_hole_8 (by decide) (fun c_8 => ?_) (fun c_8 => ?_)
  · skip
    have c_8 := bI_f c_8
    rw [k0] at c_8
    refine lv_iconst (v := (-1)) S.1 S.2.1 dX11_hole_20 (by decide) ?_
    exact ru_i hQ S hr hlk (u := (K, C, O, L, f)) I (by rw [sp_hole, if_neg (by simp [isSp, c_8])]; exact ⟨rfl, hrc⟩) dX11_hole_21
  · skip
    have c_8 := bI_t c_8
    rw [k0] at c_8
    refine lv_iload_n S.1 S.2.1 dX11_hole_11 rfl (lv_at hl 3 rfl) ?_
    refine lv_iload S.1 S.2.1 dX11_hole_12 (lv_at hl 4 rfl) ?_
    refine cS (np := 2) (As := [.int lo, .int hi]) (rest := []) S (x_isSpan l D cy (wX cy q K C O L f) lo hi) hK hA I wm_X11_80 wt_X11_isSpan wn_X11 wk_X11_isSpan ⟨rfl, hd_X11_isSpan⟩ rfl ⟨by decide, by decide⟩ hl.1 rfl (Nat.le_of_ble_eq_true rfl) dX11_hole_14 ⟨by decide, by decide⟩ (fun v_ u_ H locs h_ I => ?_)
    obtain rfl := h_
    have I : IX D A s.heap (wX cy q K C O L f) H locs := I
    refine W.eq (g2 := F0 m 17 ls [.int (bI (isV lo && (isV hi && decide (lo ≤ hi))))]) rfl ?_
    refine lv_if_ne (tgt := 22) S.1 S.2.1 dX11_hole_17 (by decide) (fun c_17 => ?_) (fun c_17 => ?_)
    · skip
      have c_17 := bI_t c_17
      refine lv_iload_n S.1 S.2.1 dX11_hole_22 rfl (lv_at hl 1 rfl) ?_
      refine lv_iload_n S.1 S.2.1 dX11_hole_23 rfl (lv_at hl 2 rfl) ?_
      refine lv_iload_n S.1 S.2.1 dX11_hole_24 rfl (lv_at hl 3 rfl) ?_
      refine lv_iload S.1 S.2.1 dX11_hole_25 (lv_at hl 4 rfl) ?_
      refine cS (np := 4) (As := [.int k, .int x, .int lo, .int hi]) (rest := []) S (x_newHole l D cy q K C O L f k x lo hi) hK hA I wm_X11_83 wt_X11_newHole wn_X11 wk_X11_newHole ⟨rfl, hd_X11_newHole⟩ rfl ⟨by decide, by decide⟩ hl.1 rfl (Nat.le_of_ble_eq_true rfl) dX11_hole_27 ⟨by decide, by decide⟩ (fun v_ u_ H locs h_ I => ?_)
      rcases h_ with ⟨hk, b, hn_b, rfl, hu1, hu2⟩ | ⟨hk, rfl, rfl⟩
      · skip
        obtain ⟨L2, f2⟩ := u_
        obtain rfl : L2 = L ++ [b] := hu1
        obtain rfl : f2 = va_up f b (hcell k.toNatClampNeg x lo hi (nI 0) (nI 0) (nI 0)) := hu2
        have I : IX D A s.heap (wX cy q K C O (L ++ [b]) (va_up f b (hcell k.toNatClampNeg x lo hi (nI 0) (nI 0) (nI 0)))) H locs := I
        refine W.eq (g2 := F0 m 30 ls [.ref b]) rfl ?_
        refine lv_astore (lv' := [(5, .ref b), (0, .ref (q 0)), (1, .int k), (2, .int x), (3, .int lo), (4, .int hi)]) S.1 S.2.1 dX11_hole_30 hl (by decide) rfl (fun ls hl => ?_)
        refine lv_aload S.1 S.2.1 dX11_hole_32 (lv_at hl 0 rfl) ?_
        refine lv_ifnonnull (tgt := 41) S.1 S.2.1 dX11_hole_34 (by decide) ?_
        refine lv_aload_n S.1 S.2.1 dX11_hole_41 rfl (lv_at hl 1 rfl) ?_
        refine rg (ci := 11) (q0 := 0) (v := .ref (q 1)) 0 S hK I cl_X11 rfl wf_X11_12 (by decide) rfl rfl rfl dX11_hole_42 ?_
        refine lv_aload S.1 S.2.1 dX11_hole_45 (lv_at hl 0 rfl) ?_
        refine cV (np := 1) (ci := 5) (q0 := 1) (As := [.ref b]) (rest := []) S (x_addHole l D cy q K C O (L ++ [b]) (va_up f b (hcell k.toNatClampNeg x lo hi (nI 0) (nI 0) (nI 0))) N R k x lo hi (-1) b hW (RelC_push hrc hn_b) (isK_4 hk).1 (List.mem_append_right L (List.mem_singleton.mpr rfl)) (fresh_8 hrc hn_b) (va_upS.trans (hcell_n1 (isK_4 hk).2))) hK hA I wm_X11_87 wi_X5_addHole ws_X5_X5_addHole wn_X5 wk_X5_addHole ⟨rfl, hd_X5_addHole⟩ rfl ⟨by decide, by decide⟩ rfl rfl hl.1 rfl (Nat.le_of_ble_eq_true rfl) dX11_hole_47 ⟨by decide, by decide⟩ (fun v_ u_ H locs h_ I => ?_)
        obtain ⟨rfl, hrc_47⟩ := h_
        obtain ⟨K_47, C_47, O_47, L_47, f_47⟩ := u_
        have I : IX D A s.heap (wX cy q K_47 C_47 O_47 L_47 f_47) H _ := I
        refine W.eq (g2 := F0 m 50 ls [.int ((sp_add N R k x lo hi (-1)).1)]) rfl ?_
        exact ru_i hQ S hr hlk (u := (K_47, C_47, O_47, L_47, f_47)) I (by rw [sp_hole, if_pos ⟨(isK_in.mpr hk).1, (isK_in.mpr hk).2, isSp_t c_8 c_17⟩]; exact ⟨rfl, hrc_47⟩) dX11_hole_50
      · skip
        have I : IX D A s.heap (wX cy q K C O L f) H locs := I
        refine W.eq (g2 := F0 m 30 ls [.null]) rfl ?_
        refine lv_astoreN (lv' := [(5, .null), (0, .ref (q 0)), (1, .int k), (2, .int x), (3, .int lo), (4, .int hi)]) S.1 S.2.1 dX11_hole_30 hl (by decide) rfl (fun ls hl => ?_)
        refine lv_aloadN S.1 S.2.1 dX11_hole_32 (lv_at hl 0 rfl) ?_
        refine lv_ifnonnullN S.1 S.2.1 dX11_hole_34 ?_
        refine lv_iconst (v := (-1)) S.1 S.2.1 dX11_hole_37 (by decide) ?_
        refine lv_goto (tgt := 50) S.1 S.2.1 dX11_hole_38 (by decide) ?_
        exact ru_i hQ S hr hlk (u := (K, C, O, L, f)) I (by rw [sp_hole, if_neg (fun h => by rw [isK_in.mp ⟨h.1, h.2.1⟩] at hk; cases hk)]; exact ⟨rfl, hrc⟩) dX11_hole_50
    · skip
      have c_17 := bI_f c_17
      refine lv_iconst (v := (-1)) S.1 S.2.1 dX11_hole_20 (by decide) ?_
      exact ru_i hQ S hr hlk (u := (K, C, O, L, f)) I (by rw [sp_hole, if_neg (by simp [isSp, c_8, c_17])]; exact ⟨rfl, hrc⟩) dX11_hole_21
set_option maxHeartbeats 4000000 in
set_option maxRecDepth 100000 in
theorem x_chained (l : Launch) (D : va_G) (cy : Nat → ClassId) (q : Nat → Nat) (K : Nat → Nat) (C : Nat → Nat → Int32) (O : Nat → Nat → Option Nat) (L : List Nat) (f : Nat → va_E) (N : Nat → Nat) (R : Nat → Nat → Int32) (x : Int32) (lo : Int32) (hi : Int32) (t : Int32) (hW : WFm N R) (hrc : RelC K C O L f N R) : MS (α := (Nat → Nat) × (Nat → Nat → Int32) × (Nat → Nat → Option Nat) × List Nat × (Nat → va_E)) l D cy yX11_chained cX11_chained 6 (Option.some FieldType.int) rm_X11_chained [.ref (q 0), .int x, .int lo, .int hi, .int t] (wX cy q K C O L f) (fun v_ u_ => v_ = some (.int (sp_chained N R x lo hi t).1) ∧ RelC u_.1 u_.2.1 u_.2.2.1 u_.2.2.2.1 u_.2.2.2.2 (sp_chained N R x lo hi t).2.1 (sp_chained N R x lo hi t).2.2) (fun u_ => wX cy q u_.1 u_.2.1 u_.2.2.1 u_.2.2.2.1 u_.2.2.2.2) := by
  refine MS.mk2 (by decide) (Nat.le_of_ble_eq_true rfl) [(0, .ref (q 0)), (1, .int x), (2, .int lo), (3, .int hi), (4, .int t)] rfl ?_
  intro p e s m args below meth c A ls Q hQ S hr hlk hnm hK hA I hl
  have hW0 := hW
  obtain ⟨hB, hPt, hBo, hH, hM, hQu⟩ := hW0
  have hB0 := hB
  obtain ⟨b0, b6, b17, b24, b30⟩ := hB0
  have hrc0 := hrc
  obtain ⟨hrel, hrg, hrm, hrp, hinj⟩ := hrc0
  have hrel0 := hrel
  obtain ⟨k0, k1, hC6, hK2, hC7, hHol⟩ := hrel0
  have hrm0 := hrm
  obtain ⟨k7, k8, hMe, hQe⟩ := hrm0
  have hrg0 := hrg
  obtain ⟨hC5, hG, hG3, hG2⟩ := hrg0
  have hp2 := pow_256 b17
  obtain ⟨k9, hC20, hK10, hC31⟩ := hrp
  have hgC : ∀ p, p < N 0 → C 5 p = R 1 p := fun p hp => hC5 p (by omega)
  refine lv_aload_n S.1 S.2.1 dX11_chained_0 rfl (lv_at hl 0 rfl) ?_
  refine rg (ci := 11) (q0 := 0) (v := .ref (q 1)) 0 S hK I cl_X11 rfl wf_X11_12 (by decide) rfl rfl rfl dX11_chained_1 ?_
  refine lv_iload S.1 S.2.1 dX11_chained_4 (lv_at hl 4 rfl) ?_
  refine cV (np := 1) (ci := 5) (q0 := 1) (As := [.int t]) (rest := []) S (x_holeAt l D cy q K C O L f t (by omega)) hK hA I wm_X11_91 wi_X5_holeAt ws_X5_X5_holeAt wn_X5 wk_X5_holeAt ⟨rfl, hd_X5_holeAt⟩ rfl ⟨by decide, by decide⟩ rfl rfl hl.1 rfl (Nat.le_of_ble_eq_true rfl) dX11_chained_6 ⟨by decide, by decide⟩ (fun v_ u_ H locs h_ I => ?_)
  obtain rfl := h_
  have I : IX D A s.heap (wX cy q K C O L f) H locs := I
  refine W.eq (g2 := F0 m 9 ls (va_rf (if isP (K 1) t = true then O 8 (t).toNatClampNeg else none) :: [])) rfl ?_
  by_cases hP : isP (N 6) t = true
  · skip
    obtain ⟨j, h_j, rfl⟩ := isP_of hP (by omega)
    have e_j : (nI j).toNatClampNeg = j := nI_clamp (by omega)
    obtain ⟨a, ho8, ha, hf⟩ := hHol j h_j
    have hkd := (hH j h_j).2.2.2.1
    refine tV (y := .ref a) (hat_some rfl (by omega) (by omega) ho8) ?_
    refine lv_astore (lv' := [(5, .ref a), (0, .ref (q 0)), (1, .int x), (2, .int lo), (3, .int hi), (4, .int (nI j))]) S.1 S.2.1 dX11_chained_9 hl (by decide) rfl (fun ls hl => ?_)
    refine lv_aload_n S.1 S.2.1 dX11_chained_11 rfl (lv_at hl 1 rfl) ?_
    refine rg (ci := 11) (q0 := 0) (v := .ref (q 1)) 0 S hK I cl_X11 rfl wf_X11_12 (by decide) rfl rfl rfl dX11_chained_12 ?_
    refine lv_iload_n S.1 S.2.1 dX11_chained_15 rfl (lv_at hl 2 rfl) ?_
    refine cV (np := 1) (ci := 5) (q0 := 1) (As := [.int x]) (rest := []) S (x_hasPart l D cy q K C O L f x (by omega)) hK hA I wm_X11_55 wi_X5_hasPart ws_X5_X5_hasPart wn_X5 wk_X5_hasPart ⟨rfl, hd_X5_hasPart⟩ rfl ⟨by decide, by decide⟩ rfl rfl hl.1 rfl (Nat.le_of_ble_eq_true rfl) dX11_chained_16 ⟨by decide, by decide⟩ (fun v_ u_ H locs h_ I => ?_)
    obtain rfl := h_
    have I : IX D A s.heap (wX cy q K C O L f) H locs := I
    refine W.eq (g2 := F0 m 19 ls [.int (bI (isP (K 0) x))]) rfl ?_
    refine lv_if_eq (tgt := 35) S.1 S.2.1 dX11_chained_19 (by decide) (fun c_19 => ?_) (fun c_19 => ?_)
    · skip
      have c_19 := bI_f c_19
      rw [k0] at c_19
      refine lv_iconst (v := (-1)) S.1 S.2.1 dX11_chained_35 (by decide) ?_
      exact ru_i hQ S hr hlk (u := (K, C, O, L, f)) I (by rw [sp_chained, if_neg (by simp [isSp, hP, c_19])]; exact ⟨rfl, hrc⟩) dX11_chained_36
    · skip
      have c_19 := bI_t c_19
      rw [k0] at c_19
      refine lv_iload_n S.1 S.2.1 dX11_chained_22 rfl (lv_at hl 3 rfl) ?_
      refine lv_iload_n S.1 S.2.1 dX11_chained_23 rfl (lv_at hl 4 rfl) ?_
      refine cS (np := 2) (As := [.int lo, .int hi]) (rest := []) S (x_isSpan l D cy (wX cy q K C O L f) lo hi) hK hA I wm_X11_80 wt_X11_isSpan wn_X11 wk_X11_isSpan ⟨rfl, hd_X11_isSpan⟩ rfl ⟨by decide, by decide⟩ hl.1 rfl (Nat.le_of_ble_eq_true rfl) dX11_chained_24 ⟨by decide, by decide⟩ (fun v_ u_ H locs h_ I => ?_)
      obtain rfl := h_
      have I : IX D A s.heap (wX cy q K C O L f) H locs := I
      refine W.eq (g2 := F0 m 27 ls [.int (bI (isV lo && (isV hi && decide (lo ≤ hi))))]) rfl ?_
      refine lv_if_eq (tgt := 35) S.1 S.2.1 dX11_chained_27 (by decide) (fun c_27 => ?_) (fun c_27 => ?_)
      · skip
        have c_27 := bI_f c_27
        refine lv_iconst (v := (-1)) S.1 S.2.1 dX11_chained_35 (by decide) ?_
        exact ru_i hQ S hr hlk (u := (K, C, O, L, f)) I (by rw [sp_chained, if_neg (by simp [isSp, hP, c_19, c_27])]; exact ⟨rfl, hrc⟩) dX11_chained_36
      · skip
        have c_27 := bI_t c_27
        refine lv_aload S.1 S.2.1 dX11_chained_30 (lv_at hl 0 rfl) ?_
        refine lv_ifnonnull (tgt := 37) S.1 S.2.1 dX11_chained_32 (by decide) ?_
        refine lv_aload_n S.1 S.2.1 dX11_chained_37 rfl (lv_at hl 1 rfl) ?_
        refine rg (ci := 11) (q0 := 0) (v := .ref (q 1)) 0 S hK I cl_X11 rfl wf_X11_12 (by decide) rfl rfl rfl dX11_chained_38 ?_
        refine nwP (ci := 0) (fs := [.int (nI 0), .int (nI 0), .int (nI 0), .int (nI 0), .int (nI 0)]) S hK hA I cl_X0 tyX0_ok wc_X11_95 wb_X0 wn_X0 rfl nwd_X0 ⟨by decide, by decide⟩ dX11_chained_41 (fun b H hn_b I => ?_)
        have I : IX D A s.heap (wX cy q K C O (L ++ [b]) (va_up f b (.inr (0, [.int (nI 0), .int (nI 0), .int (nI 0), .int (nI 0), .int (nI 0)])))) H _ := I
        refine lv_dup S.1 S.2.1 dX11_chained_44 rfl ?_
        refine lv_iload_n S.1 S.2.1 dX11_chained_45 rfl (lv_at hl 2 rfl) ?_
        refine lv_iload_n S.1 S.2.1 dX11_chained_46 rfl (lv_at hl 3 rfl) ?_
        refine lv_iload_n S.1 S.2.1 dX11_chained_47 rfl (lv_at hl 4 rfl) ?_
        refine lv_iload S.1 S.2.1 dX11_chained_48 (lv_at hl 5 rfl) ?_
        refine lv_aload S.1 S.2.1 dX11_chained_50 (lv_at hl 0 rfl) ?_
        have hab : a ≠ b := fun h9 => hn_b (h9 ▸ ha)
        refine rgH 0 (by decide) S hK I wf_X11_97 (List.mem_append_left [b] ha) ((va_upN hab).trans hf) rfl dX11_chained_52 ?_
        refine cIP (np := 5) (a := b) (As := [.int x, .int lo, .int hi, .int (nI j), .int (R 8 j)]) (rest := [.ref b, .ref (q 1)]) S (x_i0_X0 l D cy b (nI 0) (nI 0) (nI 0) (nI 0) (nI 0) x lo hi (nI j) (R 8 j)) hK hA hn_b I wm_X11_102 wi_X0_init wn_X0 wk_X0_init rfl hd_X0_init rfl ⟨by decide, by decide⟩ hl.1 rfl (Nat.le_of_ble_eq_true rfl) dX11_chained_55 ⟨by decide, by decide⟩ (fun H locs I => ?_)
        have I : IX D A s.heap (wX cy q K C O (L ++ [b]) (va_up f b (.inr (0, [.int x, .int lo, .int hi, .int (nI j), .int (R 8 j)])))) H _ := I
        refine cV (np := 1) (ci := 5) (q0 := 1) (As := [.ref b]) (rest := []) S (x_addHole l D cy q K C O (L ++ [b]) (va_up f b (.inr (0, [.int x, .int lo, .int hi, .int (nI j), .int (R 8 j)]))) N R (nI 1) x lo hi (nI j) b hW (RelC_push hrc hn_b) (by decide) (List.mem_append_right L (List.mem_singleton.mpr rfl)) (fresh_8 hrc hn_b) (by rw [va_upS, e_j, pk_un (by omega)]; rfl)) hK hA I wm_X11_87 wi_X5_addHole ws_X5_X5_addHole wn_X5 wk_X5_addHole ⟨rfl, hd_X5_addHole⟩ rfl ⟨by decide, by decide⟩ rfl rfl hl.1 rfl (Nat.le_of_ble_eq_true rfl) dX11_chained_58 ⟨by decide, by decide⟩ (fun v_ u_ H locs h_ I => ?_)
        obtain ⟨rfl, hrc_58⟩ := h_
        obtain ⟨K_58, C_58, O_58, L_58, f_58⟩ := u_
        have I : IX D A s.heap (wX cy q K_58 C_58 O_58 L_58 f_58) H _ := I
        refine W.eq (g2 := F0 m 61 ls [.int ((sp_add N R (nI 1) x lo hi (nI j)).1)]) rfl ?_
        exact ru_i hQ S hr hlk (u := (K_58, C_58, O_58, L_58, f_58)) I (by rw [sp_chained, if_pos ⟨isSp_t c_19 c_27, hP⟩]; exact ⟨rfl, hrc_58⟩) dX11_chained_61
  · skip
    have hPf := ts_nt hP
    refine tV (y := .null) (hat_none (by rw [k1]; exact hPf)) ?_
    refine lv_astoreN (lv' := [(5, .null), (0, .ref (q 0)), (1, .int x), (2, .int lo), (3, .int hi), (4, .int t)]) S.1 S.2.1 dX11_chained_9 hl (by decide) rfl (fun ls hl => ?_)
    refine lv_aload_n S.1 S.2.1 dX11_chained_11 rfl (lv_at hl 1 rfl) ?_
    refine rg (ci := 11) (q0 := 0) (v := .ref (q 1)) 0 S hK I cl_X11 rfl wf_X11_12 (by decide) rfl rfl rfl dX11_chained_12 ?_
    refine lv_iload_n S.1 S.2.1 dX11_chained_15 rfl (lv_at hl 2 rfl) ?_
    refine cV (np := 1) (ci := 5) (q0 := 1) (As := [.int x]) (rest := []) S (x_hasPart l D cy q K C O L f x (by omega)) hK hA I wm_X11_55 wi_X5_hasPart ws_X5_X5_hasPart wn_X5 wk_X5_hasPart ⟨rfl, hd_X5_hasPart⟩ rfl ⟨by decide, by decide⟩ rfl rfl hl.1 rfl (Nat.le_of_ble_eq_true rfl) dX11_chained_16 ⟨by decide, by decide⟩ (fun v_ u_ H locs h_ I => ?_)
    obtain rfl := h_
    have I : IX D A s.heap (wX cy q K C O L f) H locs := I
    refine W.eq (g2 := F0 m 19 ls [.int (bI (isP (K 0) x))]) rfl ?_
    refine lv_if_eq (tgt := 35) S.1 S.2.1 dX11_chained_19 (by decide) (fun c_19 => ?_) (fun c_19 => ?_)
    · skip
      have c_19 := bI_f c_19
      rw [k0] at c_19
      refine lv_iconst (v := (-1)) S.1 S.2.1 dX11_chained_35 (by decide) ?_
      exact ru_i hQ S hr hlk (u := (K, C, O, L, f)) I (by rw [sp_chained, if_neg (by simp [isSp, hPf, c_19])]; exact ⟨rfl, hrc⟩) dX11_chained_36
    · skip
      have c_19 := bI_t c_19
      rw [k0] at c_19
      refine lv_iload_n S.1 S.2.1 dX11_chained_22 rfl (lv_at hl 3 rfl) ?_
      refine lv_iload_n S.1 S.2.1 dX11_chained_23 rfl (lv_at hl 4 rfl) ?_
      refine cS (np := 2) (As := [.int lo, .int hi]) (rest := []) S (x_isSpan l D cy (wX cy q K C O L f) lo hi) hK hA I wm_X11_80 wt_X11_isSpan wn_X11 wk_X11_isSpan ⟨rfl, hd_X11_isSpan⟩ rfl ⟨by decide, by decide⟩ hl.1 rfl (Nat.le_of_ble_eq_true rfl) dX11_chained_24 ⟨by decide, by decide⟩ (fun v_ u_ H locs h_ I => ?_)
      obtain rfl := h_
      have I : IX D A s.heap (wX cy q K C O L f) H locs := I
      refine W.eq (g2 := F0 m 27 ls [.int (bI (isV lo && (isV hi && decide (lo ≤ hi))))]) rfl ?_
      refine lv_if_eq (tgt := 35) S.1 S.2.1 dX11_chained_27 (by decide) (fun c_27 => ?_) (fun c_27 => ?_)
      · skip
        have c_27 := bI_f c_27
        refine lv_iconst (v := (-1)) S.1 S.2.1 dX11_chained_35 (by decide) ?_
        exact ru_i hQ S hr hlk (u := (K, C, O, L, f)) I (by rw [sp_chained, if_neg (by simp [isSp, hPf, c_19, c_27])]; exact ⟨rfl, hrc⟩) dX11_chained_36
      · skip
        have c_27 := bI_t c_27
        refine lv_aloadN S.1 S.2.1 dX11_chained_30 (lv_at hl 0 rfl) ?_
        refine lv_ifnonnullN S.1 S.2.1 dX11_chained_32 ?_
        refine lv_iconst (v := (-1)) S.1 S.2.1 dX11_chained_35 (by decide) ?_
        exact ru_i hQ S hr hlk (u := (K, C, O, L, f)) I (by rw [sp_chained, if_neg (by simp [isSp, hPf, c_19, c_27])]; exact ⟨rfl, hrc⟩) dX11_chained_36
set_option maxHeartbeats 4000000 in
set_option maxRecDepth 100000 in
theorem x_mend (l : Launch) (D : va_G) (cy : Nat → ClassId) (q : Nat → Nat) (K : Nat → Nat) (C : Nat → Nat → Int32) (O : Nat → Nat → Option Nat) (L : List Nat) (f : Nat → va_E) (N : Nat → Nat) (R : Nat → Nat → Int32) (x : Int32) (v : Int32) (hn : Int32) (nd : Int32) (fi : Int32) (la : Int32) (hW : WFm N R) (hrc : RelC K C O L f N R) : MS (α := (Nat → Nat) × (Nat → Nat → Int32) × (Nat → Nat → Option Nat) × List Nat × (Nat → va_E)) l D cy yX11_mend cX11_mend 7 (Option.some FieldType.int) rm_X11_mend [.ref (q 0), .int x, .int v, .int hn, .int nd, .int fi, .int la] (wX cy q K C O L f) (fun v_ u_ => v_ = some (.int (sp_mend N R x v hn nd fi la).1) ∧ RelC u_.1 u_.2.1 u_.2.2.1 u_.2.2.2.1 u_.2.2.2.2 (sp_mend N R x v hn nd fi la).2.1 (sp_mend N R x v hn nd fi la).2.2) (fun u_ => wX cy q u_.1 u_.2.1 u_.2.2.1 u_.2.2.2.1 u_.2.2.2.2) := by
  refine MS.mk2 (by decide) (Nat.le_of_ble_eq_true rfl) [(0, .ref (q 0)), (1, .int x), (2, .int v), (3, .int hn), (4, .int nd), (5, .int fi), (6, .int la)] rfl ?_
  intro p e s m args below meth c A ls Q hQ S hr hlk hnm hK hA I hl
  have hW0 := hW
  obtain ⟨hB, hPt, hBo, hH, hM, hQu⟩ := hW0
  have hB0 := hB
  obtain ⟨b0, b6, b17, b24, b30⟩ := hB0
  have hrc0 := hrc
  obtain ⟨hrel, hrg, hrm, hrp, hinj⟩ := hrc0
  have hrel0 := hrel
  obtain ⟨k0, k1, hC6, hK2, hC7, hHol⟩ := hrel0
  have hrm0 := hrm
  obtain ⟨k7, k8, hMe, hQe⟩ := hrm0
  have hrg0 := hrg
  obtain ⟨hC5, hG, hG3, hG2⟩ := hrg0
  have hp2 := pow_256 b17
  obtain ⟨k9, hC20, hK10, hC31⟩ := hrp
  have hgC : ∀ p, p < N 0 → C 5 p = R 1 p := fun p hp => hC5 p (by omega)
  refine lv_aload_n S.1 S.2.1 dX11_mend_0 rfl (lv_at hl 0 rfl) ?_
  refine rg (ci := 11) (q0 := 0) (v := .ref (q 1)) 0 S hK I cl_X11 rfl wf_X11_12 (by decide) rfl rfl rfl dX11_mend_1 ?_
  refine lv_iload_n S.1 S.2.1 dX11_mend_4 rfl (lv_at hl 1 rfl) ?_
  refine cV (np := 1) (ci := 5) (q0 := 1) (As := [.int x]) (rest := []) S (x_hasPart l D cy q K C O L f x (by omega)) hK hA I wm_X11_55 wi_X5_hasPart ws_X5_X5_hasPart wn_X5 wk_X5_hasPart ⟨rfl, hd_X5_hasPart⟩ rfl ⟨by decide, by decide⟩ rfl rfl hl.1 rfl (Nat.le_of_ble_eq_true rfl) dX11_mend_5 ⟨by decide, by decide⟩ (fun v_ u_ H locs h_ I => ?_)
  obtain rfl := h_
  have I : IX D A s.heap (wX cy q K C O L f) H locs := I
  refine W.eq (g2 := F0 m 8 ls [.int (bI (isP (K 0) x))]) rfl ?_
  refine lv_if_eq (tgt := 28) S.1 S.2.1 dX11_mend_8 (by decide) (fun c_8 => ?_) (fun c_8 => ?_)
  · skip
    have c_8 := bI_f c_8
    rw [k0] at c_8
    refine lv_iconst (v := (-1)) S.1 S.2.1 dX11_mend_28 (by decide) ?_
    exact ru_i hQ S hr hlk (u := (K, C, O, L, f)) I (by rw [sp_mend, if_neg (by simp [c_8])]; exact ⟨rfl, hrc⟩) dX11_mend_29
  · skip
    have c_8 := bI_t c_8
    rw [k0] at c_8
    refine lv_iload_n S.1 S.2.1 dX11_mend_11 rfl (lv_at hl 2 rfl) ?_
    refine cS (np := 1) (As := [.int v]) (rest := []) S (x_isVersion l D cy (wX cy q K C O L f) v) hK hA I wm_X11_43 wt_X11_isVersion wn_X11 wk_X11_isVersion ⟨rfl, hd_X11_isVersion⟩ rfl ⟨by decide, by decide⟩ hl.1 rfl (Nat.le_of_ble_eq_true rfl) dX11_mend_12 ⟨by decide, by decide⟩ (fun v_ u_ H locs h_ I => ?_)
    obtain rfl := h_
    have I : IX D A s.heap (wX cy q K C O L f) H locs := I
    refine W.eq (g2 := F0 m 15 ls [.int (bI (isV v))]) rfl ?_
    refine lv_if_eq (tgt := 28) S.1 S.2.1 dX11_mend_15 (by decide) (fun c_15 => ?_) (fun c_15 => ?_)
    · skip
      have c_15 := bI_f c_15
      refine lv_iconst (v := (-1)) S.1 S.2.1 dX11_mend_28 (by decide) ?_
      exact ru_i hQ S hr hlk (u := (K, C, O, L, f)) I (by rw [sp_mend, if_neg (by simp [c_8, c_15])]; exact ⟨rfl, hrc⟩) dX11_mend_29
    · skip
      have c_15 := bI_t c_15
      refine lv_iload_n S.1 S.2.1 dX11_mend_18 rfl (lv_at hl 3 rfl) ?_
      refine lv_iconst (v := nI 1) S.1 S.2.1 dX11_mend_19 (by decide) ?_
      refine lv_bipush (v := nI 9) S.1 S.2.1 dX11_mend_20 (by decide) ?_
      refine cS (np := 3) (As := [.int hn, .int (nI 1), .int (nI 9)]) (rest := []) S (x_isBetween l D cy (wX cy q K C O L f) hn (nI 1) (nI 9)) hK hA I wm_X11_47 wt_X11_isBetween wn_X11 wk_X11_isBetween ⟨rfl, hd_X11_isBetween⟩ rfl ⟨by decide, by decide⟩ hl.1 rfl (Nat.le_of_ble_eq_true rfl) dX11_mend_22 ⟨by decide, by decide⟩ (fun v_ u_ H locs h_ I => ?_)
      obtain rfl := h_
      have I : IX D A s.heap (wX cy q K C O L f) H locs := I
      refine W.eq (g2 := F0 m 25 ls [.int (bI (inB hn (nI 1) (nI 9)))]) rfl ?_
      refine lv_if_ne (tgt := 30) S.1 S.2.1 dX11_mend_25 (by decide) (fun c_25 => ?_) (fun c_25 => ?_)
      · skip
        have c_25 := bI_t c_25
        refine lv_iload S.1 S.2.1 dX11_mend_30 (lv_at hl 4 rfl) ?_
        refine lv_iconst (v := (-1)) S.1 S.2.1 dX11_mend_32 (by decide) ?_
        refine lv_icmp_eq (tgt := 50) S.1 S.2.1 dX11_mend_33 (by decide) (fun c_33 => ?_) (fun c_33 => ?_)
        · skip
          refine lv_iload S.1 S.2.1 dX11_mend_50 (lv_at hl 5 rfl) ?_
          refine lv_iconst (v := nI 0) S.1 S.2.1 dX11_mend_52 (by decide) ?_
          refine lv_iconst (v := nI 5) S.1 S.2.1 dX11_mend_53 (by decide) ?_
          refine cS (np := 3) (As := [.int fi, .int (nI 0), .int (nI 5)]) (rest := []) S (x_isBetween l D cy (wX cy q K C O L f) fi (nI 0) (nI 5)) hK hA I wm_X11_47 wt_X11_isBetween wn_X11 wk_X11_isBetween ⟨rfl, hd_X11_isBetween⟩ rfl ⟨by decide, by decide⟩ hl.1 rfl (Nat.le_of_ble_eq_true rfl) dX11_mend_54 ⟨by decide, by decide⟩ (fun v_ u_ H locs h_ I => ?_)
          obtain rfl := h_
          have I : IX D A s.heap (wX cy q K C O L f) H locs := I
          refine W.eq (g2 := F0 m 57 ls [.int (bI (inB fi (nI 0) (nI 5)))]) rfl ?_
          refine lv_if_eq (tgt := 71) S.1 S.2.1 dX11_mend_57 (by decide) (fun c_57 => ?_) (fun c_57 => ?_)
          · skip
            have c_57 := bI_f c_57
            refine lv_iconst (v := (-1)) S.1 S.2.1 dX11_mend_71 (by decide) ?_
            exact ru_i hQ S hr hlk (u := (K, C, O, L, f)) I (by rw [sp_mend, if_neg (fun h9 => by have h8 := fl_in.mp h9.2.2.2.2; simp [c_57] at h8)]; exact ⟨rfl, hrc⟩) dX11_mend_72
          · skip
            have c_57 := bI_t c_57
            refine lv_iload S.1 S.2.1 dX11_mend_60 (lv_at hl 6 rfl) ?_
            refine lv_iload S.1 S.2.1 dX11_mend_62 (lv_at hl 5 rfl) ?_
            refine lv_iconst (v := nI 5) S.1 S.2.1 dX11_mend_64 (by decide) ?_
            refine cS (np := 3) (As := [.int la, .int fi, .int (nI 5)]) (rest := []) S (x_isBetween l D cy (wX cy q K C O L f) la fi (nI 5)) hK hA I wm_X11_47 wt_X11_isBetween wn_X11 wk_X11_isBetween ⟨rfl, hd_X11_isBetween⟩ rfl ⟨by decide, by decide⟩ hl.1 rfl (Nat.le_of_ble_eq_true rfl) dX11_mend_65 ⟨by decide, by decide⟩ (fun v_ u_ H locs h_ I => ?_)
            obtain rfl := h_
            have I : IX D A s.heap (wX cy q K C O L f) H locs := I
            refine W.eq (g2 := F0 m 68 ls [.int (bI (inB la fi (nI 5)))]) rfl ?_
            refine lv_if_ne (tgt := 73) S.1 S.2.1 dX11_mend_68 (by decide) (fun c_68 => ?_) (fun c_68 => ?_)
            · skip
              have c_68 := bI_t c_68
              refine lv_aload_n S.1 S.2.1 dX11_mend_73 rfl (lv_at hl 0 rfl) ?_
              refine rg (ci := 11) (q0 := 0) (v := .ref (q 3)) 2 S hK I cl_X11 rfl wf_X11_30 (by decide) rfl rfl rfl dX11_mend_74 ?_
              refine nwP (ci := 3) (fs := [.int (nI 0), .int (nI 0), .int (nI 0), .int (nI 0), .int (nI 0), .int (nI 0)]) S hK hA I cl_X3 tyX3_ok wc_X11_158 wb_X3 wn_X3 rfl nwd_X3 ⟨by decide, by decide⟩ dX11_mend_77 (fun b H hn_b I => ?_)
              have I : IX D A s.heap (wX cy q K C O (L ++ [b]) (va_up f b (.inr (3, [.int (nI 0), .int (nI 0), .int (nI 0), .int (nI 0), .int (nI 0), .int (nI 0)])))) H _ := I
              refine lv_dup S.1 S.2.1 dX11_mend_80 rfl ?_
              refine lv_iload_n S.1 S.2.1 dX11_mend_81 rfl (lv_at hl 1 rfl) ?_
              refine lv_iload_n S.1 S.2.1 dX11_mend_82 rfl (lv_at hl 2 rfl) ?_
              refine lv_iload_n S.1 S.2.1 dX11_mend_83 rfl (lv_at hl 3 rfl) ?_
              refine lv_iload S.1 S.2.1 dX11_mend_84 (lv_at hl 4 rfl) ?_
              refine lv_iload S.1 S.2.1 dX11_mend_86 (lv_at hl 5 rfl) ?_
              refine lv_iload S.1 S.2.1 dX11_mend_88 (lv_at hl 6 rfl) ?_
              refine cIP (np := 6) (a := b) (As := [.int x, .int v, .int hn, .int nd, .int fi, .int la]) (rest := [.ref b, .ref (q 3)]) S (x_i3_X3 l D cy b (nI 0) (nI 0) (nI 0) (nI 0) (nI 0) (nI 0) x v hn nd fi la) hK hA hn_b I wm_X11_160 wi_X3_init wn_X3 wk_X3_init rfl hd_X3_init rfl ⟨by decide, by decide⟩ hl.1 rfl (Nat.le_of_ble_eq_true rfl) dX11_mend_90 ⟨by decide, by decide⟩ (fun H locs I => ?_)
              have I : IX D A s.heap (wX cy q K C O (L ++ [b]) (va_up f b (.inr (3, [.int x, .int v, .int hn, .int nd, .int fi, .int la])))) H _ := I
              refine cV (np := 1) (ci := 4) (q0 := 3) (As := [.ref b]) (rest := []) S (x_addMend l D cy q K C O (L ++ [b]) (va_up f b (.inr (3, [.int x, .int v, .int hn, .int nd, .int fi, .int la]))) N R x v hn nd fi la b hW (RelC_push hrc hn_b) (List.mem_append_right L (List.mem_singleton.mpr rfl)) va_upS) hK hA I wm_X11_163 wi_X4_addMend ws_X4_X4_addMend wn_X4 wk_X4_addMend ⟨rfl, hd_X4_addMend⟩ rfl ⟨by decide, by decide⟩ rfl rfl hl.1 rfl (Nat.le_of_ble_eq_true rfl) dX11_mend_93 ⟨by decide, by decide⟩ (fun v_ u_ H locs h_ I => ?_)
              obtain ⟨rfl, hrc_93⟩ := h_
              obtain ⟨K_93, C_93, O_93, L_93, f_93⟩ := u_
              have I : IX D A s.heap (wX cy q K_93 C_93 O_93 L_93 f_93) H _ := I
              refine W.eq (g2 := F0 m 96 ls [.int ((sp_am N R x v hn nd fi la).1)]) rfl ?_
              exact ru_i hQ S hr hlk (u := (K_93, C_93, O_93, L_93, f_93)) I (by rw [sp_mend, if_pos ⟨c_8, c_15, c_25, (nd_in (by omega)).trans (by simp [c_33]), fl_in.mpr ⟨c_57, c_68⟩⟩]; exact ⟨rfl, hrc_93⟩) dX11_mend_96
            · skip
              have c_68 := bI_f c_68
              refine lv_iconst (v := (-1)) S.1 S.2.1 dX11_mend_71 (by decide) ?_
              exact ru_i hQ S hr hlk (u := (K, C, O, L, f)) I (by rw [sp_mend, if_neg (fun h9 => by have h8 := fl_in.mp h9.2.2.2.2; simp [c_57, c_68] at h8)]; exact ⟨rfl, hrc⟩) dX11_mend_72
        · skip
          refine lv_aload_n S.1 S.2.1 dX11_mend_36 rfl (lv_at hl 0 rfl) ?_
          refine rg (ci := 11) (q0 := 0) (v := .ref (q 3)) 2 S hK I cl_X11 rfl wf_X11_30 (by decide) rfl rfl rfl dX11_mend_37 ?_
          refine lv_iload S.1 S.2.1 dX11_mend_40 (lv_at hl 4 rfl) ?_
          refine cV (np := 1) (ci := 4) (q0 := 3) (As := [.int nd]) (rest := []) S (x_mendAt l D cy q K C O L f nd (by omega)) hK hA I wm_X11_154 wi_X4_mendAt ws_X4_X4_mendAt wn_X4 wk_X4_mendAt ⟨rfl, hd_X4_mendAt⟩ rfl ⟨by decide, by decide⟩ rfl rfl hl.1 rfl (Nat.le_of_ble_eq_true rfl) dX11_mend_42 ⟨by decide, by decide⟩ (fun v_ u_ H locs h_ I => ?_)
          obtain rfl := h_
          have I : IX D A s.heap (wX cy q K C O L f) H locs := I
          refine W.eq (g2 := F0 m 45 ls (va_rf (if isP (K 7) nd = true then O 12 (nd).toNatClampNeg else none) :: [])) rfl ?_
          by_cases hP : isP (N 17) nd = true
          · skip
            obtain ⟨j, h_j, rfl⟩ := isP_of hP (by omega)
            have e_j : (nI j).toNatClampNeg = j := nI_clamp (by omega)
            obtain ⟨a, ho12, ha, hf⟩ := hMe j h_j
            refine tV (y := .ref a) (mat_some rfl (by omega) (by omega) ho12) ?_
            refine lv_ifnonnull (tgt := 50) S.1 S.2.1 dX11_mend_45 (by decide) ?_
            refine lv_iload S.1 S.2.1 dX11_mend_50 (lv_at hl 5 rfl) ?_
            refine lv_iconst (v := nI 0) S.1 S.2.1 dX11_mend_52 (by decide) ?_
            refine lv_iconst (v := nI 5) S.1 S.2.1 dX11_mend_53 (by decide) ?_
            refine cS (np := 3) (As := [.int fi, .int (nI 0), .int (nI 5)]) (rest := []) S (x_isBetween l D cy (wX cy q K C O L f) fi (nI 0) (nI 5)) hK hA I wm_X11_47 wt_X11_isBetween wn_X11 wk_X11_isBetween ⟨rfl, hd_X11_isBetween⟩ rfl ⟨by decide, by decide⟩ hl.1 rfl (Nat.le_of_ble_eq_true rfl) dX11_mend_54 ⟨by decide, by decide⟩ (fun v_ u_ H locs h_ I => ?_)
            obtain rfl := h_
            have I : IX D A s.heap (wX cy q K C O L f) H locs := I
            refine W.eq (g2 := F0 m 57 ls [.int (bI (inB fi (nI 0) (nI 5)))]) rfl ?_
            refine lv_if_eq (tgt := 71) S.1 S.2.1 dX11_mend_57 (by decide) (fun c_57 => ?_) (fun c_57 => ?_)
            · skip
              have c_57 := bI_f c_57
              refine lv_iconst (v := (-1)) S.1 S.2.1 dX11_mend_71 (by decide) ?_
              exact ru_i hQ S hr hlk (u := (K, C, O, L, f)) I (by rw [sp_mend, if_neg (fun h9 => by have h8 := fl_in.mp h9.2.2.2.2; simp [c_57] at h8)]; exact ⟨rfl, hrc⟩) dX11_mend_72
            · skip
              have c_57 := bI_t c_57
              refine lv_iload S.1 S.2.1 dX11_mend_60 (lv_at hl 6 rfl) ?_
              refine lv_iload S.1 S.2.1 dX11_mend_62 (lv_at hl 5 rfl) ?_
              refine lv_iconst (v := nI 5) S.1 S.2.1 dX11_mend_64 (by decide) ?_
              refine cS (np := 3) (As := [.int la, .int fi, .int (nI 5)]) (rest := []) S (x_isBetween l D cy (wX cy q K C O L f) la fi (nI 5)) hK hA I wm_X11_47 wt_X11_isBetween wn_X11 wk_X11_isBetween ⟨rfl, hd_X11_isBetween⟩ rfl ⟨by decide, by decide⟩ hl.1 rfl (Nat.le_of_ble_eq_true rfl) dX11_mend_65 ⟨by decide, by decide⟩ (fun v_ u_ H locs h_ I => ?_)
              obtain rfl := h_
              have I : IX D A s.heap (wX cy q K C O L f) H locs := I
              refine W.eq (g2 := F0 m 68 ls [.int (bI (inB la fi (nI 5)))]) rfl ?_
              refine lv_if_ne (tgt := 73) S.1 S.2.1 dX11_mend_68 (by decide) (fun c_68 => ?_) (fun c_68 => ?_)
              · skip
                have c_68 := bI_t c_68
                refine lv_aload_n S.1 S.2.1 dX11_mend_73 rfl (lv_at hl 0 rfl) ?_
                refine rg (ci := 11) (q0 := 0) (v := .ref (q 3)) 2 S hK I cl_X11 rfl wf_X11_30 (by decide) rfl rfl rfl dX11_mend_74 ?_
                refine nwP (ci := 3) (fs := [.int (nI 0), .int (nI 0), .int (nI 0), .int (nI 0), .int (nI 0), .int (nI 0)]) S hK hA I cl_X3 tyX3_ok wc_X11_158 wb_X3 wn_X3 rfl nwd_X3 ⟨by decide, by decide⟩ dX11_mend_77 (fun b H hn_b I => ?_)
                have I : IX D A s.heap (wX cy q K C O (L ++ [b]) (va_up f b (.inr (3, [.int (nI 0), .int (nI 0), .int (nI 0), .int (nI 0), .int (nI 0), .int (nI 0)])))) H _ := I
                refine lv_dup S.1 S.2.1 dX11_mend_80 rfl ?_
                refine lv_iload_n S.1 S.2.1 dX11_mend_81 rfl (lv_at hl 1 rfl) ?_
                refine lv_iload_n S.1 S.2.1 dX11_mend_82 rfl (lv_at hl 2 rfl) ?_
                refine lv_iload_n S.1 S.2.1 dX11_mend_83 rfl (lv_at hl 3 rfl) ?_
                refine lv_iload S.1 S.2.1 dX11_mend_84 (lv_at hl 4 rfl) ?_
                refine lv_iload S.1 S.2.1 dX11_mend_86 (lv_at hl 5 rfl) ?_
                refine lv_iload S.1 S.2.1 dX11_mend_88 (lv_at hl 6 rfl) ?_
                refine cIP (np := 6) (a := b) (As := [.int x, .int v, .int hn, .int (nI j), .int fi, .int la]) (rest := [.ref b, .ref (q 3)]) S (x_i3_X3 l D cy b (nI 0) (nI 0) (nI 0) (nI 0) (nI 0) (nI 0) x v hn (nI j) fi la) hK hA hn_b I wm_X11_160 wi_X3_init wn_X3 wk_X3_init rfl hd_X3_init rfl ⟨by decide, by decide⟩ hl.1 rfl (Nat.le_of_ble_eq_true rfl) dX11_mend_90 ⟨by decide, by decide⟩ (fun H locs I => ?_)
                have I : IX D A s.heap (wX cy q K C O (L ++ [b]) (va_up f b (.inr (3, [.int x, .int v, .int hn, .int (nI j), .int fi, .int la])))) H _ := I
                refine cV (np := 1) (ci := 4) (q0 := 3) (As := [.ref b]) (rest := []) S (x_addMend l D cy q K C O (L ++ [b]) (va_up f b (.inr (3, [.int x, .int v, .int hn, .int (nI j), .int fi, .int la]))) N R x v hn (nI j) fi la b hW (RelC_push hrc hn_b) (List.mem_append_right L (List.mem_singleton.mpr rfl)) va_upS) hK hA I wm_X11_163 wi_X4_addMend ws_X4_X4_addMend wn_X4 wk_X4_addMend ⟨rfl, hd_X4_addMend⟩ rfl ⟨by decide, by decide⟩ rfl rfl hl.1 rfl (Nat.le_of_ble_eq_true rfl) dX11_mend_93 ⟨by decide, by decide⟩ (fun v_ u_ H locs h_ I => ?_)
                obtain ⟨rfl, hrc_93⟩ := h_
                obtain ⟨K_93, C_93, O_93, L_93, f_93⟩ := u_
                have I : IX D A s.heap (wX cy q K_93 C_93 O_93 L_93 f_93) H _ := I
                refine W.eq (g2 := F0 m 96 ls [.int ((sp_am N R x v hn (nI j) fi la).1)]) rfl ?_
                exact ru_i hQ S hr hlk (u := (K_93, C_93, O_93, L_93, f_93)) I (by rw [sp_mend, if_pos ⟨c_8, c_15, c_25, (nd_in (by omega)).trans (by simp [hP]), fl_in.mpr ⟨c_57, c_68⟩⟩]; exact ⟨rfl, hrc_93⟩) dX11_mend_96
              · skip
                have c_68 := bI_f c_68
                refine lv_iconst (v := (-1)) S.1 S.2.1 dX11_mend_71 (by decide) ?_
                exact ru_i hQ S hr hlk (u := (K, C, O, L, f)) I (by rw [sp_mend, if_neg (fun h9 => by have h8 := fl_in.mp h9.2.2.2.2; simp [c_57, c_68] at h8)]; exact ⟨rfl, hrc⟩) dX11_mend_72
          · skip
            have hPf := ts_nt hP
            refine tV (y := .null) (mat_none (by rw [k7]; exact hPf)) ?_
            refine lv_ifnonnullN S.1 S.2.1 dX11_mend_45 ?_
            refine lv_iconst (v := (-1)) S.1 S.2.1 dX11_mend_48 (by decide) ?_
            exact ru_i hQ S hr hlk (u := (K, C, O, L, f)) I (by rw [sp_mend, if_neg (fun h9 => by have h8 := h9.2.2.2.1; rw [nd_in (by omega), hPf] at h8; simp [c_33] at h8)]; exact ⟨rfl, hrc⟩) dX11_mend_49
      · skip
        have c_25 := bI_f c_25
        refine lv_iconst (v := (-1)) S.1 S.2.1 dX11_mend_28 (by decide) ?_
        exact ru_i hQ S hr hlk (u := (K, C, O, L, f)) I (by rw [sp_mend, if_neg (by simp [c_8, c_15, c_25])]; exact ⟨rfl, hrc⟩) dX11_mend_29
set_option maxHeartbeats 4000000 in
set_option maxRecDepth 100000 in
theorem x_quarrel (l : Launch) (D : va_G) (cy : Nat → ClassId) (q : Nat → Nat) (K : Nat → Nat) (C : Nat → Nat → Int32) (O : Nat → Nat → Option Nat) (L : List Nat) (f : Nat → va_E) (N : Nat → Nat) (R : Nat → Nat → Int32) (x : Int32) (v : Int32) (y : Int32) (w : Int32) (hW : WFm N R) (hrc : RelC K C O L f N R) : MS (α := (Nat → Nat) × (Nat → Nat → Int32) × (Nat → Nat → Option Nat) × List Nat × (Nat → va_E)) l D cy yX11_quarrel cX11_quarrel 5 (Option.some FieldType.int) rm_X11_quarrel [.ref (q 0), .int x, .int v, .int y, .int w] (wX cy q K C O L f) (fun v_ u_ => v_ = some (.int (sp_quarrel N R x v y w).1) ∧ RelC u_.1 u_.2.1 u_.2.2.1 u_.2.2.2.1 u_.2.2.2.2 (sp_quarrel N R x v y w).2.1 (sp_quarrel N R x v y w).2.2) (fun u_ => wX cy q u_.1 u_.2.1 u_.2.2.1 u_.2.2.2.1 u_.2.2.2.2) := by
  refine MS.mk2 (by decide) (Nat.le_of_ble_eq_true rfl) [(0, .ref (q 0)), (1, .int x), (2, .int v), (3, .int y), (4, .int w)] rfl ?_
  intro p e s m args below meth c A ls Q hQ S hr hlk hnm hK hA I hl
  have hW0 := hW
  obtain ⟨hB, hPt, hBo, hH, hM, hQu⟩ := hW0
  have hB0 := hB
  obtain ⟨b0, b6, b17, b24, b30⟩ := hB0
  have hrc0 := hrc
  obtain ⟨hrel, hrg, hrm, hrp, hinj⟩ := hrc0
  have hrel0 := hrel
  obtain ⟨k0, k1, hC6, hK2, hC7, hHol⟩ := hrel0
  have hrm0 := hrm
  obtain ⟨k7, k8, hMe, hQe⟩ := hrm0
  have hrg0 := hrg
  obtain ⟨hC5, hG, hG3, hG2⟩ := hrg0
  have hp2 := pow_256 b17
  obtain ⟨k9, hC20, hK10, hC31⟩ := hrp
  have hgC : ∀ p, p < N 0 → C 5 p = R 1 p := fun p hp => hC5 p (by omega)
  refine lv_aload_n S.1 S.2.1 dX11_quarrel_0 rfl (lv_at hl 0 rfl) ?_
  refine rg (ci := 11) (q0 := 0) (v := .ref (q 1)) 0 S hK I cl_X11 rfl wf_X11_12 (by decide) rfl rfl rfl dX11_quarrel_1 ?_
  refine lv_iload_n S.1 S.2.1 dX11_quarrel_4 rfl (lv_at hl 1 rfl) ?_
  refine cV (np := 1) (ci := 5) (q0 := 1) (As := [.int x]) (rest := []) S (x_hasPart l D cy q K C O L f x (by omega)) hK hA I wm_X11_55 wi_X5_hasPart ws_X5_X5_hasPart wn_X5 wk_X5_hasPart ⟨rfl, hd_X5_hasPart⟩ rfl ⟨by decide, by decide⟩ rfl rfl hl.1 rfl (Nat.le_of_ble_eq_true rfl) dX11_quarrel_5 ⟨by decide, by decide⟩ (fun v_ u_ H locs h_ I => ?_)
  obtain rfl := h_
  have I : IX D A s.heap (wX cy q K C O L f) H locs := I
  refine W.eq (g2 := F0 m 8 ls [.int (bI (isP (K 0) x))]) rfl ?_
  refine lv_if_eq (tgt := 27) S.1 S.2.1 dX11_quarrel_8 (by decide) (fun c_8 => ?_) (fun c_8 => ?_)
  · skip
    have c_8 := bI_f c_8
    rw [k0] at c_8
    refine lv_iconst (v := (-1)) S.1 S.2.1 dX11_quarrel_27 (by decide) ?_
    exact ru_i hQ S hr hlk (u := (K, C, O, L, f)) I (by rw [sp_quarrel, if_neg (by simp [c_8])]; exact ⟨rfl, hrc⟩) dX11_quarrel_28
  · skip
    have c_8 := bI_t c_8
    rw [k0] at c_8
    refine lv_aload_n S.1 S.2.1 dX11_quarrel_11 rfl (lv_at hl 0 rfl) ?_
    refine rg (ci := 11) (q0 := 0) (v := .ref (q 1)) 0 S hK I cl_X11 rfl wf_X11_12 (by decide) rfl rfl rfl dX11_quarrel_12 ?_
    refine lv_iload_n S.1 S.2.1 dX11_quarrel_15 rfl (lv_at hl 3 rfl) ?_
    refine cV (np := 1) (ci := 5) (q0 := 1) (As := [.int y]) (rest := []) S (x_hasPart l D cy q K C O L f y (by omega)) hK hA I wm_X11_55 wi_X5_hasPart ws_X5_X5_hasPart wn_X5 wk_X5_hasPart ⟨rfl, hd_X5_hasPart⟩ rfl ⟨by decide, by decide⟩ rfl rfl hl.1 rfl (Nat.le_of_ble_eq_true rfl) dX11_quarrel_16 ⟨by decide, by decide⟩ (fun v_ u_ H locs h_ I => ?_)
    obtain rfl := h_
    have I : IX D A s.heap (wX cy q K C O L f) H locs := I
    refine W.eq (g2 := F0 m 19 ls [.int (bI (isP (K 0) y))]) rfl ?_
    refine lv_if_eq (tgt := 27) S.1 S.2.1 dX11_quarrel_19 (by decide) (fun c_19 => ?_) (fun c_19 => ?_)
    · skip
      have c_19 := bI_f c_19
      rw [k0] at c_19
      refine lv_iconst (v := (-1)) S.1 S.2.1 dX11_quarrel_27 (by decide) ?_
      exact ru_i hQ S hr hlk (u := (K, C, O, L, f)) I (by rw [sp_quarrel, if_neg (by simp [c_8, c_19])]; exact ⟨rfl, hrc⟩) dX11_quarrel_28
    · skip
      have c_19 := bI_t c_19
      rw [k0] at c_19
      refine lv_iload_n S.1 S.2.1 dX11_quarrel_22 rfl (lv_at hl 1 rfl) ?_
      refine lv_iload_n S.1 S.2.1 dX11_quarrel_23 rfl (lv_at hl 3 rfl) ?_
      refine lv_icmp_ne (tgt := 29) S.1 S.2.1 dX11_quarrel_24 (by decide) (fun c_24 => ?_) (fun c_24 => ?_)
      · skip
        refine lv_iload_n S.1 S.2.1 dX11_quarrel_29 rfl (lv_at hl 2 rfl) ?_
        refine cS (np := 1) (As := [.int v]) (rest := []) S (x_isVersion l D cy (wX cy q K C O L f) v) hK hA I wm_X11_43 wt_X11_isVersion wn_X11 wk_X11_isVersion ⟨rfl, hd_X11_isVersion⟩ rfl ⟨by decide, by decide⟩ hl.1 rfl (Nat.le_of_ble_eq_true rfl) dX11_quarrel_30 ⟨by decide, by decide⟩ (fun v_ u_ H locs h_ I => ?_)
        obtain rfl := h_
        have I : IX D A s.heap (wX cy q K C O L f) H locs := I
        refine W.eq (g2 := F0 m 33 ls [.int (bI (isV v))]) rfl ?_
        refine lv_if_eq (tgt := 44) S.1 S.2.1 dX11_quarrel_33 (by decide) (fun c_33 => ?_) (fun c_33 => ?_)
        · skip
          have c_33 := bI_f c_33
          refine lv_iconst (v := (-1)) S.1 S.2.1 dX11_quarrel_44 (by decide) ?_
          exact ru_i hQ S hr hlk (u := (K, C, O, L, f)) I (by rw [sp_quarrel, if_neg (by simp [c_8, c_19, c_24, c_33])]; exact ⟨rfl, hrc⟩) dX11_quarrel_45
        · skip
          have c_33 := bI_t c_33
          refine lv_iload S.1 S.2.1 dX11_quarrel_36 (lv_at hl 4 rfl) ?_
          refine cS (np := 1) (As := [.int w]) (rest := []) S (x_isVersion l D cy (wX cy q K C O L f) w) hK hA I wm_X11_43 wt_X11_isVersion wn_X11 wk_X11_isVersion ⟨rfl, hd_X11_isVersion⟩ rfl ⟨by decide, by decide⟩ hl.1 rfl (Nat.le_of_ble_eq_true rfl) dX11_quarrel_38 ⟨by decide, by decide⟩ (fun v_ u_ H locs h_ I => ?_)
          obtain rfl := h_
          have I : IX D A s.heap (wX cy q K C O L f) H locs := I
          refine W.eq (g2 := F0 m 41 ls [.int (bI (isV w))]) rfl ?_
          refine lv_if_ne (tgt := 46) S.1 S.2.1 dX11_quarrel_41 (by decide) (fun c_41 => ?_) (fun c_41 => ?_)
          · skip
            have c_41 := bI_t c_41
            refine lv_aload_n S.1 S.2.1 dX11_quarrel_46 rfl (lv_at hl 0 rfl) ?_
            refine rg (ci := 11) (q0 := 0) (v := .ref (q 3)) 2 S hK I cl_X11 rfl wf_X11_30 (by decide) rfl rfl rfl dX11_quarrel_47 ?_
            refine nwP (ci := 7) (fs := [.int (nI 0), .int (nI 0), .int (nI 0), .int (nI 0)]) S hK hA I cl_X7 tyX7_ok wc_X11_167 wb_X7 wn_X7 rfl nwd_X7 ⟨by decide, by decide⟩ dX11_quarrel_50 (fun b H hn_b I => ?_)
            have I : IX D A s.heap (wX cy q K C O (L ++ [b]) (va_up f b (.inr (7, [.int (nI 0), .int (nI 0), .int (nI 0), .int (nI 0)])))) H _ := I
            refine lv_dup S.1 S.2.1 dX11_quarrel_53 rfl ?_
            refine lv_iload_n S.1 S.2.1 dX11_quarrel_54 rfl (lv_at hl 1 rfl) ?_
            refine lv_iload_n S.1 S.2.1 dX11_quarrel_55 rfl (lv_at hl 2 rfl) ?_
            refine lv_iload_n S.1 S.2.1 dX11_quarrel_56 rfl (lv_at hl 3 rfl) ?_
            refine lv_iload S.1 S.2.1 dX11_quarrel_57 (lv_at hl 4 rfl) ?_
            refine cIP (np := 4) (a := b) (As := [.int x, .int v, .int y, .int w]) (rest := [.ref b, .ref (q 3)]) S (x_i7_X7 l D cy b (nI 0) (nI 0) (nI 0) (nI 0) x v y w) hK hA hn_b I wm_X11_169 wi_X7_init wn_X7 wk_X7_init rfl hd_X7_init rfl ⟨by decide, by decide⟩ hl.1 rfl (Nat.le_of_ble_eq_true rfl) dX11_quarrel_59 ⟨by decide, by decide⟩ (fun H locs I => ?_)
            have I : IX D A s.heap (wX cy q K C O (L ++ [b]) (va_up f b (.inr (7, [.int x, .int v, .int y, .int w])))) H _ := I
            refine cV (np := 1) (ci := 4) (q0 := 3) (As := [.ref b]) (rest := []) S (x_addQuarrel l D cy q K C O (L ++ [b]) (va_up f b (.inr (7, [.int x, .int v, .int y, .int w]))) N R x v y w b hW (RelC_push hrc hn_b) (List.mem_append_right L (List.mem_singleton.mpr rfl)) va_upS) hK hA I wm_X11_172 wi_X4_addQuarrel ws_X4_X4_addQuarrel wn_X4 wk_X4_addQuarrel ⟨rfl, hd_X4_addQuarrel⟩ rfl ⟨by decide, by decide⟩ rfl rfl hl.1 rfl (Nat.le_of_ble_eq_true rfl) dX11_quarrel_62 ⟨by decide, by decide⟩ (fun v_ u_ H locs h_ I => ?_)
            obtain ⟨rfl, hrc_62⟩ := h_
            obtain ⟨K_62, C_62, O_62, L_62, f_62⟩ := u_
            have I : IX D A s.heap (wX cy q K_62 C_62 O_62 L_62 f_62) H _ := I
            refine W.eq (g2 := F0 m 65 ls [.int ((sp_aq N R x v y w).1)]) rfl ?_
            exact ru_i hQ S hr hlk (u := (K_62, C_62, O_62, L_62, f_62)) I (by rw [sp_quarrel, if_pos ⟨c_8, c_19, c_24, c_33, c_41⟩]; exact ⟨rfl, hrc_62⟩) dX11_quarrel_65
          · skip
            have c_41 := bI_f c_41
            refine lv_iconst (v := (-1)) S.1 S.2.1 dX11_quarrel_44 (by decide) ?_
            exact ru_i hQ S hr hlk (u := (K, C, O, L, f)) I (by rw [sp_quarrel, if_neg (by simp [c_8, c_19, c_24, c_33, c_41])]; exact ⟨rfl, hrc⟩) dX11_quarrel_45
      · skip
        refine lv_iconst (v := (-1)) S.1 S.2.1 dX11_quarrel_27 (by decide) ?_
        exact ru_i hQ S hr hlk (u := (K, C, O, L, f)) I (by rw [sp_quarrel, if_neg (by simp [c_8, c_19, c_24])]; exact ⟨rfl, hrc⟩) dX11_quarrel_28
