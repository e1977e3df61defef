set_option maxHeartbeats 4000000 in
set_option maxRecDepth 100000 in
theorem c_in (l : Launch) (D : va_G) (cy : Nat → ClassId) (w0 : va_W) (v a b : Int32) : MS (α := Unit) l D cy yX12_in cX12_in 3 (Option.some FieldType.boolean) rm_X12_in [.int v, .int a, .int b] (w0) (fun v_ (_ : Unit) => v_ = some (.int (bI (inB v a b)))) (fun _ => w0) := by
  refine MS.mk2 (by decide) (Nat.le_of_ble_eq_true rfl) [(0, .int v), (1, .int a), (2, .int b)] rfl ?_
  intro p e s m args below meth c A ls Q hQ S hr hlk hnm hK hA I hl
  refine lv_iload_n S.1 S.2.1 dX12_in_0 rfl (lv_at hl 0 rfl) ?_
  refine lv_iload_n S.1 S.2.1 dX12_in_1 rfl (lv_at hl 1 rfl) ?_
  refine lv_icmp_lt (tgt := 14) S.1 S.2.1 dX12_in_2 (by decide) (fun c_2 => ?_) (fun c_2 => ?_)
  · skip
    refine lv_iconst (v := nI 0) S.1 S.2.1 dX12_in_14 (by decide) ?_
    exact ru_z hQ S hr hlk (by decide) (u := ()) I (congrArg (fun z => some (Value.int z)) (bI_0 (inB_a c_2))) dX12_in_15
  · skip
    refine lv_iload_n S.1 S.2.1 dX12_in_5 rfl (lv_at hl 0 rfl) ?_
    refine lv_iload_n S.1 S.2.1 dX12_in_6 rfl (lv_at hl 2 rfl) ?_
    refine lv_icmp_gt (tgt := 14) S.1 S.2.1 dX12_in_7 (by decide) (fun c_7 => ?_) (fun c_7 => ?_)
    · skip
      refine lv_iconst (v := nI 0) S.1 S.2.1 dX12_in_14 (by decide) ?_
      exact ru_z hQ S hr hlk (by decide) (u := ()) I (congrArg (fun z => some (Value.int z)) (bI_0 (inB_b c_7))) dX12_in_15
    · skip
      refine lv_iconst (v := nI 1) S.1 S.2.1 dX12_in_10 (by decide) ?_
      refine lv_goto (tgt := 15) S.1 S.2.1 dX12_in_11 (by decide) ?_
      exact ru_z hQ S hr hlk (by decide) (u := ()) I (congrArg (fun z => some (Value.int z)) (bI_1 (inB_1 c_2 c_7))) dX12_in_15
set_option maxHeartbeats 4000000 in
set_option maxRecDepth 100000 in
theorem c_isVersion (l : Launch) (D : va_G) (cy : Nat → ClassId) (w0 : va_W) (v : Int32) : MS (α := Unit) l D cy yX12_isVersion cX12_isVersion 1 (Option.some FieldType.boolean) rm_X12_isVersion [.int v] (w0) (fun v_ (_ : Unit) => v_ = some (.int (bI (isV v)))) (fun _ => w0) := by
  refine MS.mk2 (by decide) (Nat.le_of_ble_eq_true rfl) [(0, .int v)] rfl ?_
  intro p e s m args below meth c A ls Q hQ S hr hlk hnm hK hA I hl
  refine lv_iload_n S.1 S.2.1 dX12_isVersion_0 rfl (lv_at hl 0 rfl) ?_
  refine lv_iconst (v := nI 1) S.1 S.2.1 dX12_isVersion_1 (by decide) ?_
  refine lv_bipush (v := nI 9) S.1 S.2.1 dX12_isVersion_2 (by decide) ?_
  refine cS (np := 3) (As := [.int v, .int (nI 1), .int (nI 9)]) (rest := []) S (c_in l D cy (w0) v (nI 1) (nI 9)) hK hA I wm_X12_99 wt_X12_in wn_X12 wk_X12_in ⟨rfl, hd_X12_in⟩ rfl ⟨by decide, by decide⟩ hl.1 rfl (Nat.le_of_ble_eq_true rfl) dX12_isVersion_4 ⟨by decide, by decide⟩ (fun v_ u_ H locs h_ I => ?_)
  obtain rfl := h_
  have I : IX D A s.heap (w0) H locs := I
  refine W.eq (g2 := F0 m 7 ls [.int (bI (inB v (nI 1) (nI 9)))]) rfl ?_
  exact ru_z hQ S hr hlk (bI_01 _) (u := ()) I rfl dX12_isVersion_7
set_option maxHeartbeats 4000000 in
set_option maxRecDepth 100000 in
theorem c_isPart (l : Launch) (D : va_G) (cy : Nat → ClassId) (q : Nat → Nat) (N : Nat → Nat) (R X : Nat → Nat → Int32) (x : Int32) (hB : Bd N) : MS (α := Unit) l D cy yX12_isPart cX12_isPart 2 (Option.some FieldType.boolean) rm_X12_isPart [.ref (q 33), .int x] (wM cy q N R X) (fun v_ (_ : Unit) => v_ = some (.int (bI (isP (N 0) x)))) (fun _ => wM cy q N R X) := by
  refine MS.mk2 (by decide) (Nat.le_of_ble_eq_true rfl) [(0, .ref (q 33)), (1, .int x)] rfl ?_
  intro p e s m args below meth c A ls Q hQ S hr hlk hnm hK hA I hl
  have hB0 := hB
  obtain ⟨b0, b6, b17, b24, b30⟩ := hB0
  refine lv_iload_n S.1 S.2.1 dX12_isPart_0 rfl (lv_at hl 1 rfl) ?_
  refine lv_iconst (v := nI 0) S.1 S.2.1 dX12_isPart_1 (by decide) ?_
  refine lv_aload_n S.1 S.2.1 dX12_isPart_2 rfl (lv_at hl 0 rfl) ?_
  refine rg (ci := 12) (q0 := 0) (v := .int (nI (N 0))) 0 S hK I cl_X12 rfl wf_X12_95 (by decide) rfl rfl rfl dX12_isPart_3 ?_
  refine lv_iconst (v := nI 1) S.1 S.2.1 dX12_isPart_6 (by decide) ?_
  refine lv_isub S.1 S.2.1 dX12_isPart_7 ?_
  refine cS (np := 3) (As := [.int x, .int (nI 0), .int ((nI (N 0)) - (nI 1))]) (rest := []) S (c_in l D cy (wM cy q N R X) x (nI 0) ((nI (N 0)) - (nI 1))) hK hA I wm_X12_99 wt_X12_in wn_X12 wk_X12_in ⟨rfl, hd_X12_in⟩ rfl ⟨by decide, by decide⟩ hl.1 rfl (Nat.le_of_ble_eq_true rfl) dX12_isPart_8 ⟨by decide, by decide⟩ (fun v_ u_ H locs h_ I => ?_)
  obtain rfl := h_
  have I : IX D A s.heap (wM cy q N R X) H locs := I
  refine W.eq (g2 := F0 m 11 ls [.int (bI (inB x (nI 0) ((nI (N 0)) - (nI 1))))]) rfl ?_
  refine tI (y := bI (isP (N 0) x)) (congrArg bI (isP_in (by omega) _)) ?_
  exact ru_z hQ S hr hlk (bI_01 _) (u := ()) I rfl dX12_isPart_11
set_option maxHeartbeats 4000000 in
set_option maxRecDepth 100000 in
theorem c_isHole (l : Launch) (D : va_G) (cy : Nat → ClassId) (q : Nat → Nat) (N : Nat → Nat) (R X : Nat → Nat → Int32) (x : Int32) (hB : Bd N) : MS (α := Unit) l D cy yX12_isHole cX12_isHole 2 (Option.some FieldType.boolean) rm_X12_isHole [.ref (q 33), .int x] (wM cy q N R X) (fun v_ (_ : Unit) => v_ = some (.int (bI (isP (N 6) x)))) (fun _ => wM cy q N R X) := by
  refine MS.mk2 (by decide) (Nat.le_of_ble_eq_true rfl) [(0, .ref (q 33)), (1, .int x)] rfl ?_
  intro p e s m args below meth c A ls Q hQ S hr hlk hnm hK hA I hl
  have hB0 := hB
  obtain ⟨b0, b6, b17, b24, b30⟩ := hB0
  refine lv_iload_n S.1 S.2.1 dX12_isHole_0 rfl (lv_at hl 1 rfl) ?_
  refine lv_iconst (v := nI 0) S.1 S.2.1 dX12_isHole_1 (by decide) ?_
  refine lv_aload_n S.1 S.2.1 dX12_isHole_2 rfl (lv_at hl 0 rfl) ?_
  refine rg (ci := 12) (q0 := 0) (v := .int (nI (N 6))) 6 S hK I cl_X12 rfl wf_X12_110 (by decide) rfl rfl rfl dX12_isHole_3 ?_
  refine lv_iconst (v := nI 1) S.1 S.2.1 dX12_isHole_6 (by decide) ?_
  refine lv_isub S.1 S.2.1 dX12_isHole_7 ?_
  refine cS (np := 3) (As := [.int x, .int (nI 0), .int ((nI (N 6)) - (nI 1))]) (rest := []) S (c_in l D cy (wM cy q N R X) x (nI 0) ((nI (N 6)) - (nI 1))) hK hA I wm_X12_99 wt_X12_in wn_X12 wk_X12_in ⟨rfl, hd_X12_in⟩ rfl ⟨by decide, by decide⟩ hl.1 rfl (Nat.le_of_ble_eq_true rfl) dX12_isHole_8 ⟨by decide, by decide⟩ (fun v_ u_ H locs h_ I => ?_)
  obtain rfl := h_
  have I : IX D A s.heap (wM cy q N R X) H locs := I
  refine W.eq (g2 := F0 m 11 ls [.int (bI (inB x (nI 0) ((nI (N 6)) - (nI 1))))]) rfl ?_
  refine tI (y := bI (isP (N 6) x)) (congrArg bI (isP_in (by omega) _)) ?_
  exact ru_z hQ S hr hlk (bI_01 _) (u := ()) I rfl dX12_isHole_11
set_option maxHeartbeats 4000000 in
set_option maxRecDepth 100000 in
theorem c_isMend (l : Launch) (D : va_G) (cy : Nat → ClassId) (q : Nat → Nat) (N : Nat → Nat) (R X : Nat → Nat → Int32) (x : Int32) (hB : Bd N) : MS (α := Unit) l D cy yX12_isMend cX12_isMend 2 (Option.some FieldType.boolean) rm_X12_isMend [.ref (q 33), .int x] (wM cy q N R X) (fun v_ (_ : Unit) => v_ = some (.int (bI (isP (N 17) x)))) (fun _ => wM cy q N R X) := by
  refine MS.mk2 (by decide) (Nat.le_of_ble_eq_true rfl) [(0, .ref (q 33)), (1, .int x)] rfl ?_
  intro p e s m args below meth c A ls Q hQ S hr hlk hnm hK hA I hl
  have hB0 := hB
  obtain ⟨b0, b6, b17, b24, b30⟩ := hB0
  refine lv_iload_n S.1 S.2.1 dX12_isMend_0 rfl (lv_at hl 1 rfl) ?_
  refine lv_iconst (v := nI 0) S.1 S.2.1 dX12_isMend_1 (by decide) ?_
  refine lv_aload_n S.1 S.2.1 dX12_isMend_2 rfl (lv_at hl 0 rfl) ?_
  refine rg (ci := 12) (q0 := 0) (v := .int (nI (N 17))) 17 S hK I cl_X12 rfl wf_X12_123 (by decide) rfl rfl rfl dX12_isMend_3 ?_
  refine lv_iconst (v := nI 1) S.1 S.2.1 dX12_isMend_6 (by decide) ?_
  refine lv_isub S.1 S.2.1 dX12_isMend_7 ?_
  refine cS (np := 3) (As := [.int x, .int (nI 0), .int ((nI (N 17)) - (nI 1))]) (rest := []) S (c_in l D cy (wM cy q N R X) x (nI 0) ((nI (N 17)) - (nI 1))) hK hA I wm_X12_99 wt_X12_in wn_X12 wk_X12_in ⟨rfl, hd_X12_in⟩ rfl ⟨by decide, by decide⟩ hl.1 rfl (Nat.le_of_ble_eq_true rfl) dX12_isMend_8 ⟨by decide, by decide⟩ (fun v_ u_ H locs h_ I => ?_)
  obtain rfl := h_
  have I : IX D A s.heap (wM cy q N R X) H locs := I
  refine W.eq (g2 := F0 m 11 ls [.int (bI (inB x (nI 0) ((nI (N 17)) - (nI 1))))]) rfl ?_
  refine tI (y := bI (isP (N 17) x)) (congrArg bI (isP_in (by omega) _)) ?_
  exact ru_z hQ S hr hlk (bI_01 _) (u := ()) I rfl dX12_isMend_11
set_option maxHeartbeats 4000000 in
set_option maxRecDepth 100000 in
theorem c_part (l : Launch) (D : va_G) (cy : Nat → ClassId) (q : Nat → Nat) (N : Nat → Nat) (R X : Nat → Nat → Int32) (v w o : Int32) (hB : Bd N) (hz_o : o = 0 ∨ o = 1) : MS (α := SR) l D cy yX12_part cX12_part 4 (Option.some FieldType.int) rm_X12_part [.ref (q 33), .int v, .int w, .int o] (wM cy q N R X) (fun v_ u_ => v_ = some (.int (sp_part N R v w o).1) ∧ u_ = (sp_part N R v w o).2) (fun u_ => wM cy q u_.1 u_.2 X) := by
  refine MS.mk2 (by decide) (Nat.le_of_ble_eq_true rfl) [(0, .ref (q 33)), (1, .int v), (2, .int w), (3, .int o)] rfl ?_
  intro p e s m args below meth c A ls Q hQ S hr hlk hnm hK hA I hl
  have hB0 := hB
  obtain ⟨b0, b6, b17, b24, b30⟩ := hB0
  refine lv_iload_n S.1 S.2.1 dX12_part_0 rfl (lv_at hl 1 rfl) ?_
  refine cS (np := 1) (As := [.int v]) (rest := []) S (c_isVersion l D cy (wM cy q N R X) v) hK hA I wm_X12_103 wt_X12_isVersion wn_X12 wk_X12_isVersion ⟨rfl, hd_X12_isVersion⟩ rfl ⟨by decide, by decide⟩ hl.1 rfl (Nat.le_of_ble_eq_true rfl) dX12_part_1 ⟨by decide, by decide⟩ (fun v_ u_ H locs h_ I => ?_)
  obtain rfl := h_
  have I : IX D A s.heap (wM cy q N R X) H locs := I
  refine W.eq (g2 := F0 m 4 ls [.int (bI (isV v))]) rfl ?_
  refine lv_if_eq (tgt := 18) S.1 S.2.1 dX12_part_4 (by decide) (fun c_4 => ?_) (fun c_4 => ?_)
  · skip
    have c_4 := bI_f c_4
    refine lv_iconst (v := (-1)) S.1 S.2.1 dX12_part_18 (by decide) ?_
    exact ru_i hQ S hr hlk (u := (N, R)) I (by simp [sp_part, c_4, bI]) dX12_part_19
  · skip
    have c_4 := bI_t c_4
    refine lv_iload_n S.1 S.2.1 dX12_part_7 rfl (lv_at hl 2 rfl) ?_
    refine lv_iconst (v := nI 0) S.1 S.2.1 dX12_part_8 (by decide) ?_
    refine lv_sipush (v := nI 1000) S.1 S.2.1 dX12_part_9 (by decide) ?_
    refine cS (np := 3) (As := [.int w, .int (nI 0), .int (nI 1000)]) (rest := []) S (c_in l D cy (wM cy q N R X) w (nI 0) (nI 1000)) hK hA I wm_X12_99 wt_X12_in wn_X12 wk_X12_in ⟨rfl, hd_X12_in⟩ rfl ⟨by decide, by decide⟩ hl.1 rfl (Nat.le_of_ble_eq_true rfl) dX12_part_12 ⟨by decide, by decide⟩ (fun v_ u_ H locs h_ I => ?_)
    obtain rfl := h_
    have I : IX D A s.heap (wM cy q N R X) H locs := I
    refine W.eq (g2 := F0 m 15 ls [.int (bI (inB w (nI 0) (nI 1000)))]) rfl ?_
    refine lv_if_ne (tgt := 20) S.1 S.2.1 dX12_part_15 (by decide) (fun c_15 => ?_) (fun c_15 => ?_)
    · skip
      have c_15 := bI_t c_15
      refine lv_aload_n S.1 S.2.1 dX12_part_20 rfl (lv_at hl 0 rfl) ?_
      refine rg (ci := 12) (q0 := 0) (v := .int (nI (N 0))) 0 S hK I cl_X12 rfl wf_X12_95 (by decide) rfl rfl rfl dX12_part_21 ?_
      refine lv_bipush (v := nI 8) S.1 S.2.1 dX12_part_24 (by decide) ?_
      refine lv_icmp_ne (tgt := 32) S.1 S.2.1 dX12_part_26 (by decide) (fun c_26 => ?_) (fun c_26 => ?_)
      · skip
        have c_26o := c_26
        have c_26 := nI_cneT (by omega) (by omega) c_26
        refine lv_aload_n S.1 S.2.1 dX12_part_32 rfl (lv_at hl 0 rfl) ?_
        refine rg (ci := 12) (q0 := 0) (v := .ref (q 1)) 1 S hK I cl_X12 rfl wf_X12_7 (by decide) rfl rfl rfl dX12_part_33 ?_
        refine lv_aload_n S.1 S.2.1 dX12_part_36 rfl (lv_at hl 0 rfl) ?_
        refine rg (ci := 12) (q0 := 0) (v := .int (nI (N 0))) 0 S hK I cl_X12 rfl wf_X12_95 (by decide) rfl rfl rfl dX12_part_37 ?_
        refine lv_iload_n S.1 S.2.1 dX12_part_40 rfl (lv_at hl 1 rfl) ?_
        refine si (q0 := 1) (n := 8) (f := R 1) (N 0) S hK I rfl rfl (by omega) (by decide) dX12_part_41 (fun H locs I => ?_)
        have I : IX D A s.heap (wM cy q N (va_up R 1 (upd (R 1) (N 0) v)) X) H locs := I
        refine lv_aload_n S.1 S.2.1 dX12_part_42 rfl (lv_at hl 0 rfl) ?_
        refine rg (ci := 12) (q0 := 0) (v := .ref (q 2)) 2 S hK I cl_X12 rfl wf_X12_13 (by decide) rfl rfl rfl dX12_part_43 ?_
        refine lv_aload_n S.1 S.2.1 dX12_part_46 rfl (lv_at hl 0 rfl) ?_
        refine rg (ci := 12) (q0 := 0) (v := .int (nI (N 0))) 0 S hK I cl_X12 rfl wf_X12_95 (by decide) rfl rfl rfl dX12_part_47 ?_
        refine lv_iload_n S.1 S.2.1 dX12_part_50 rfl (lv_at hl 2 rfl) ?_
        refine si (q0 := 2) (n := 8) (f := R 2) (N 0) S hK I rfl rfl (by omega) (by decide) dX12_part_51 (fun H locs I => ?_)
        have I : IX D A s.heap (wM cy q N (va_up (va_up R 1 (upd (R 1) (N 0) v)) 2 (upd (R 2) (N 0) w)) X) H locs := I
        refine lv_aload_n S.1 S.2.1 dX12_part_52 rfl (lv_at hl 0 rfl) ?_
        refine rg (ci := 12) (q0 := 0) (v := .ref (q 3)) 3 S hK I cl_X12 rfl wf_X12_16 (by decide) rfl rfl rfl dX12_part_53 ?_
        refine lv_aload_n S.1 S.2.1 dX12_part_56 rfl (lv_at hl 0 rfl) ?_
        refine rg (ci := 12) (q0 := 0) (v := .int (nI (N 0))) 0 S hK I cl_X12 rfl wf_X12_95 (by decide) rfl rfl rfl dX12_part_57 ?_
        refine lv_iload_n S.1 S.2.1 dX12_part_60 rfl (lv_at hl 3 rfl) ?_
        refine sz (q0 := 3) (n := 8) (f := R 3) (N 0) S hK I rfl rfl (by omega) (by decide) (by assumption) dX12_part_61 (fun H locs I => ?_)
        have I : IX D A s.heap (wM cy q N (va_up (va_up (va_up R 1 (upd (R 1) (N 0) v)) 2 (upd (R 2) (N 0) w)) 3 (upd (R 3) (N 0) o)) X) H locs := I
        refine lv_aload_n S.1 S.2.1 dX12_part_62 rfl (lv_at hl 0 rfl) ?_
        refine lv_dup S.1 S.2.1 dX12_part_63 rfl ?_
        refine rg (ci := 12) (q0 := 0) (v := .int (nI (N 0))) 0 S hK I cl_X12 rfl wf_X12_95 (by decide) rfl rfl rfl dX12_part_64 ?_
        refine lv_iconst (v := nI 1) S.1 S.2.1 dX12_part_67 (by decide) ?_
        refine lv_iadd S.1 S.2.1 dX12_part_68 ?_
        refine tI (y := nI ((N 0) + 1)) (nI_add _ _) ?_
        refine rp (ci := 12) (q0 := 0) (v := .int (nI ((N 0) + 1))) (ty := .int) 0 S hK I cl_X12 rfl wf_X12_95 (by decide) rfl tyX12_ok nmX12 rfl (by decide +kernel) rfl rfl (by exact Nat.le_of_ble_eq_true rfl) rfl dX12_part_69 (fun H locs I => ?_)
        have I : IX D A s.heap (wM cy q (va_up N 0 ((N 0) + 1)) (va_up (va_up (va_up R 1 (upd (R 1) (N 0) v)) 2 (upd (R 2) (N 0) w)) 3 (upd (R 3) (N 0) o)) X) H locs := I
        refine lv_aload_n S.1 S.2.1 dX12_part_72 rfl (lv_at hl 0 rfl) ?_
        refine rg (ci := 12) (q0 := 0) (v := .int (nI ((N 0) + 1))) 0 S hK I cl_X12 rfl wf_X12_95 (by decide) rfl rfl rfl dX12_part_73 ?_
        refine lv_iconst (v := nI 1) S.1 S.2.1 dX12_part_76 (by decide) ?_
        refine lv_isub S.1 S.2.1 dX12_part_77 ?_
        refine tI (y := nI (N 0)) (by rw [pk_sub (by omega)]; rfl) ?_
        exact ru_i hQ S hr hlk (u := ((va_up N 0 ((N 0) + 1)), (va_up (va_up (va_up R 1 (upd (R 1) (N 0) v)) 2 (upd (R 2) (N 0) w)) 3 (upd (R 3) (N 0) o)))) I (by simp [sp_part, c_4, c_15, c_26o, c_26, bI]) dX12_part_78
      · skip
        have c_26o := c_26
        have c_26 := nI_cneF (by omega) (by omega) c_26
        refine lv_bipush (v := (-3)) S.1 S.2.1 dX12_part_29 (by decide) ?_
        exact ru_i hQ S hr hlk (u := (N, R)) I (by simp [sp_part, c_4, c_15, c_26o, c_26, bI]) dX12_part_31
    · skip
      have c_15 := bI_f c_15
      refine lv_iconst (v := (-1)) S.1 S.2.1 dX12_part_18 (by decide) ?_
      exact ru_i hQ S hr hlk (u := (N, R)) I (by simp [sp_part, c_4, c_15, bI]) dX12_part_19
set_option maxHeartbeats 4000000 in
set_option maxRecDepth 100000 in
theorem c_link (l : Launch) (D : va_G) (cy : Nat → ClassId) (q : Nat → Nat) (N : Nat → Nat) (R X : Nat → Nat → Int32) (f t o : Int32) (hB : Bd N) (hz_o : o = 0 ∨ o = 1) : MS (α := SR) l D cy yX12_link cX12_link 5 (Option.some FieldType.int) rm_X12_link [.ref (q 33), .int f, .int t, .int o] (wM cy q N R X) (fun v_ u_ => v_ = some (.int (sp_link N R f t o).1) ∧ u_ = (sp_link N R f t o).2) (fun u_ => wM cy q u_.1 u_.2 X) := by
  refine MS.mk2 (by decide) (Nat.le_of_ble_eq_true rfl) [(0, .ref (q 33)), (1, .int f), (2, .int t), (3, .int o)] rfl ?_
  intro p e s m args below meth c A ls Q hQ S hr hlk hnm hK hA I hl
  have hB0 := hB
  obtain ⟨b0, b6, b17, b24, b30⟩ := hB0
  refine lv_aload_n S.1 S.2.1 dX12_link_0 rfl (lv_at hl 0 rfl) ?_
  refine lv_iload_n S.1 S.2.1 dX12_link_1 rfl (lv_at hl 1 rfl) ?_
  refine cV (np := 1) (ci := 12) (q0 := 0) (As := [.int f]) (rest := []) S (c_isPart l D cy q N R X (f) hB) hK hA I wm_X12_107 wi_X12_isPart ws_X12_X12_isPart wn_X12 wk_X12_isPart ⟨rfl, hd_X12_isPart⟩ rfl ⟨by decide, by decide⟩ rfl rfl hl.1 rfl (Nat.le_of_ble_eq_true rfl) dX12_link_2 ⟨by decide, by decide⟩ (fun v_ u_ H locs h_ I => ?_)
  obtain rfl := h_
  have I : IX D A s.heap (wM cy q N R X) H locs := I
  refine W.eq (g2 := F0 m 5 ls [.int (bI (isP (N 0) f))]) rfl ?_
  refine lv_if_eq (tgt := 21) S.1 S.2.1 dX12_link_5 (by decide) (fun c_5 => ?_) (fun c_5 => ?_)
  · skip
    have c_5 := bI_f c_5
    refine lv_iconst (v := (-1)) S.1 S.2.1 dX12_link_21 (by decide) ?_
    exact ru_i hQ S hr hlk (u := (N, R)) I (by simp [sp_link, c_5, bI, nI_one, nI_zero]) dX12_link_22
  · skip
    have c_5 := bI_t c_5
    obtain ⟨jf, h_jf, rfl⟩ := isP_of c_5 (by omega)
    have e_jf : (nI jf).toNatClampNeg = jf := nI_clamp (by omega)
    refine lv_aload_n S.1 S.2.1 dX12_link_8 rfl (lv_at hl 0 rfl) ?_
    refine lv_iload_n S.1 S.2.1 dX12_link_9 rfl (lv_at hl 2 rfl) ?_
    refine cV (np := 1) (ci := 12) (q0 := 0) (As := [.int t]) (rest := []) S (c_isPart l D cy q N R X (t) hB) hK hA I wm_X12_107 wi_X12_isPart ws_X12_X12_isPart wn_X12 wk_X12_isPart ⟨rfl, hd_X12_isPart⟩ rfl ⟨by decide, by decide⟩ rfl rfl hl.1 rfl (Nat.le_of_ble_eq_true rfl) dX12_link_10 ⟨by decide, by decide⟩ (fun v_ u_ H locs h_ I => ?_)
    obtain rfl := h_
    have I : IX D A s.heap (wM cy q N R X) H locs := I
    refine W.eq (g2 := F0 m 13 ls [.int (bI (isP (N 0) t))]) rfl ?_
    refine lv_if_eq (tgt := 21) S.1 S.2.1 dX12_link_13 (by decide) (fun c_13 => ?_) (fun c_13 => ?_)
    · skip
      have c_13 := bI_f c_13
      refine lv_iconst (v := (-1)) S.1 S.2.1 dX12_link_21 (by decide) ?_
      exact ru_i hQ S hr hlk (u := (N, R)) I (by simp [sp_link, c_5, e_jf, c_13, bI, nI_one, nI_zero]) dX12_link_22
    · skip
      have c_13 := bI_t c_13
      obtain ⟨jt, h_jt, rfl⟩ := isP_of c_13 (by omega)
      have e_jt : (nI jt).toNatClampNeg = jt := nI_clamp (by omega)
      refine lv_iload_n S.1 S.2.1 dX12_link_16 rfl (lv_at hl 1 rfl) ?_
      refine lv_iload_n S.1 S.2.1 dX12_link_17 rfl (lv_at hl 2 rfl) ?_
      refine lv_icmp_ne (tgt := 23) S.1 S.2.1 dX12_link_18 (by decide) (fun c_18 => ?_) (fun c_18 => ?_)
      · skip
        have c_18o := c_18
        have c_18 := nI_cneT (by omega) (by omega) c_18
        refine lv_aload_n S.1 S.2.1 dX12_link_23 rfl (lv_at hl 0 rfl) ?_
        refine rg (ci := 12) (q0 := 0) (v := .ref (q 5)) 5 S hK I cl_X12 rfl wf_X12_23 (by decide) rfl rfl rfl dX12_link_24 ?_
        refine lv_bipush (v := nI 8) S.1 S.2.1 dX12_link_27 (by decide) ?_
        refine lv_iload_n S.1 S.2.1 dX12_link_29 rfl (lv_at hl 1 rfl) ?_
        refine lv_imul S.1 S.2.1 dX12_link_30 ?_
        refine tI (y := nI (8 * jf)) (pk_mul _ _) ?_
        refine lv_iload_n S.1 S.2.1 dX12_link_31 rfl (lv_at hl 2 rfl) ?_
        refine lv_iadd S.1 S.2.1 dX12_link_32 ?_
        refine tI (y := nI ((8 * jf) + jt)) (nI_add _ _) ?_
        refine rz (q0 := 5) (n := 64) (f := R 5) ((8 * jf) + jt) S hK I rfl rfl (by omega) (by decide) dX12_link_33 ?_
        refine lv_if_eq (tgt := 41) S.1 S.2.1 dX12_link_34 (by decide) (fun c_34 => ?_) (fun c_34 => ?_)
        · skip
          refine lv_iconst (v := nI 0) S.1 S.2.1 dX12_link_41 (by decide) ?_
          refine lv_istore (lv' := [(4, .int (nI 0)), (0, .ref (q 33)), (1, .int (nI jf)), (2, .int (nI jt)), (3, .int o)]) S.1 S.2.1 dX12_link_42 hl (by decide) rfl (fun ls hl => ?_)
          refine lv_aload_n S.1 S.2.1 dX12_link_44 rfl (lv_at hl 1 rfl) ?_
          refine rg (ci := 12) (q0 := 0) (v := .ref (q 5)) 5 S hK I cl_X12 rfl wf_X12_23 (by decide) rfl rfl rfl dX12_link_45 ?_
          refine lv_bipush (v := nI 8) S.1 S.2.1 dX12_link_48 (by decide) ?_
          refine lv_iload_n S.1 S.2.1 dX12_link_50 rfl (lv_at hl 2 rfl) ?_
          refine lv_imul S.1 S.2.1 dX12_link_51 ?_
          refine tI (y := nI (8 * jf)) (pk_mul _ _) ?_
          refine lv_iload_n S.1 S.2.1 dX12_link_52 rfl (lv_at hl 3 rfl) ?_
          refine lv_iadd S.1 S.2.1 dX12_link_53 ?_
          refine tI (y := nI ((8 * jf) + jt)) (nI_add _ _) ?_
          refine lv_iload_n S.1 S.2.1 dX12_link_54 rfl (lv_at hl 4 rfl) ?_
          refine sz (q0 := 5) (n := 64) (f := R 5) ((8 * jf) + jt) S hK I rfl rfl (by omega) (by decide) (by assumption) dX12_link_55 (fun H locs I => ?_)
          have I : IX D A s.heap (wM cy q N (va_up R 5 (upd (R 5) ((8 * jf) + jt) o)) X) H locs := I
          refine lv_iload S.1 S.2.1 dX12_link_56 (lv_at hl 0 rfl) ?_
          exact ru_i hQ S hr hlk (u := (N, (va_up R 5 (upd (R 5) ((8 * jf) + jt) o)))) I (by simp [sp_link, c_5, e_jf, c_13, e_jt, c_18o, c_18, c_34, bI, nI_one, nI_zero]) dX12_link_58
        · skip
          refine lv_iconst (v := nI 1) S.1 S.2.1 dX12_link_37 (by decide) ?_
          refine lv_goto (tgt := 42) S.1 S.2.1 dX12_link_38 (by decide) ?_
          refine lv_istore (lv' := [(4, .int (nI 1)), (0, .ref (q 33)), (1, .int (nI jf)), (2, .int (nI jt)), (3, .int o)]) S.1 S.2.1 dX12_link_42 hl (by decide) rfl (fun ls hl => ?_)
          refine lv_aload_n S.1 S.2.1 dX12_link_44 rfl (lv_at hl 1 rfl) ?_
          refine rg (ci := 12) (q0 := 0) (v := .ref (q 5)) 5 S hK I cl_X12 rfl wf_X12_23 (by decide) rfl rfl rfl dX12_link_45 ?_
          refine lv_bipush (v := nI 8) S.1 S.2.1 dX12_link_48 (by decide) ?_
          refine lv_iload_n S.1 S.2.1 dX12_link_50 rfl (lv_at hl 2 rfl) ?_
          refine lv_imul S.1 S.2.1 dX12_link_51 ?_
          refine tI (y := nI (8 * jf)) (pk_mul _ _) ?_
          refine lv_iload_n S.1 S.2.1 dX12_link_52 rfl (lv_at hl 3 rfl) ?_
          refine lv_iadd S.1 S.2.1 dX12_link_53 ?_
          refine tI (y := nI ((8 * jf) + jt)) (nI_add _ _) ?_
          refine lv_iload_n S.1 S.2.1 dX12_link_54 rfl (lv_at hl 4 rfl) ?_
          refine sz (q0 := 5) (n := 64) (f := R 5) ((8 * jf) + jt) S hK I rfl rfl (by omega) (by decide) (by assumption) dX12_link_55 (fun H locs I => ?_)
          have I : IX D A s.heap (wM cy q N (va_up R 5 (upd (R 5) ((8 * jf) + jt) o)) X) H locs := I
          refine lv_iload S.1 S.2.1 dX12_link_56 (lv_at hl 0 rfl) ?_
          exact ru_i hQ S hr hlk (u := (N, (va_up R 5 (upd (R 5) ((8 * jf) + jt) o)))) I (by simp [sp_link, c_5, e_jf, c_13, e_jt, c_18o, c_18, c_34, bI, nI_one, nI_zero]) dX12_link_58
      · skip
        have c_18o := c_18
        have c_18 := nI_cneF (by omega) (by omega) c_18
        refine lv_iconst (v := (-1)) S.1 S.2.1 dX12_link_21 (by decide) ?_
        exact ru_i hQ S hr hlk (u := (N, R)) I (by simp [sp_link, c_5, e_jf, c_13, e_jt, c_18o, c_18, bI, nI_one, nI_zero]) dX12_link_22
set_option maxHeartbeats 4000000 in
set_option maxRecDepth 100000 in
theorem c_guard (l : Launch) (D : va_G) (cy : Nat → ClassId) (q : Nat → Nat) (N : Nat → Nat) (R X : Nat → Nat → Int32) (x o : Int32) (hB : Bd N) (hz_o : o = 0 ∨ o = 1) : MS (α := SR) l D cy yX12_guard cX12_guard 4 (Option.some FieldType.int) rm_X12_guard [.ref (q 33), .int x, .int o] (wM cy q N R X) (fun v_ u_ => v_ = some (.int (sp_guard N R x o).1) ∧ u_ = (sp_guard N R x o).2) (fun u_ => wM cy q u_.1 u_.2 X) := by
  refine MS.mk2 (by decide) (Nat.le_of_ble_eq_true rfl) [(0, .ref (q 33)), (1, .int x), (2, .int o)] rfl ?_
  intro p e s m args below meth c A ls Q hQ S hr hlk hnm hK hA I hl
  have hB0 := hB
  obtain ⟨b0, b6, b17, b24, b30⟩ := hB0
  refine lv_aload_n S.1 S.2.1 dX12_guard_0 rfl (lv_at hl 0 rfl) ?_
  refine lv_iload_n S.1 S.2.1 dX12_guard_1 rfl (lv_at hl 1 rfl) ?_
  refine cV (np := 1) (ci := 12) (q0 := 0) (As := [.int x]) (rest := []) S (c_isPart l D cy q N R X (x) hB) hK hA I wm_X12_107 wi_X12_isPart ws_X12_X12_isPart wn_X12 wk_X12_isPart ⟨rfl, hd_X12_isPart⟩ rfl ⟨by decide, by decide⟩ rfl rfl hl.1 rfl (Nat.le_of_ble_eq_true rfl) dX12_guard_2 ⟨by decide, by decide⟩ (fun v_ u_ H locs h_ I => ?_)
  obtain rfl := h_
  have I : IX D A s.heap (wM cy q N R X) H locs := I
  refine W.eq (g2 := F0 m 5 ls [.int (bI (isP (N 0) x))]) rfl ?_
  refine lv_if_ne (tgt := 10) S.1 S.2.1 dX12_guard_5 (by decide) (fun c_5 => ?_) (fun c_5 => ?_)
  · skip
    have c_5 := bI_t c_5
    obtain ⟨j, h_j, rfl⟩ := isP_of c_5 (by omega)
    have e_j : (nI j).toNatClampNeg = j := nI_clamp (by omega)
    refine lv_aload_n S.1 S.2.1 dX12_guard_10 rfl (lv_at hl 0 rfl) ?_
    refine rg (ci := 12) (q0 := 0) (v := .ref (q 4)) 4 S hK I cl_X12 rfl wf_X12_20 (by decide) rfl rfl rfl dX12_guard_11 ?_
    refine lv_iload_n S.1 S.2.1 dX12_guard_14 rfl (lv_at hl 1 rfl) ?_
    refine rz (q0 := 4) (n := 8) (f := R 4) j S hK I rfl rfl (by omega) (by decide) dX12_guard_15 ?_
    refine lv_if_eq (tgt := 23) S.1 S.2.1 dX12_guard_16 (by decide) (fun c_16 => ?_) (fun c_16 => ?_)
    · skip
      refine lv_iconst (v := nI 0) S.1 S.2.1 dX12_guard_23 (by decide) ?_
      refine lv_istore_n (lv' := [(3, .int (nI 0)), (0, .ref (q 33)), (1, .int (nI j)), (2, .int o)]) S.1 S.2.1 dX12_guard_24 rfl hl (by decide) rfl (fun ls hl => ?_)
      refine lv_aload_n S.1 S.2.1 dX12_guard_25 rfl (lv_at hl 1 rfl) ?_
      refine rg (ci := 12) (q0 := 0) (v := .ref (q 4)) 4 S hK I cl_X12 rfl wf_X12_20 (by decide) rfl rfl rfl dX12_guard_26 ?_
      refine lv_iload_n S.1 S.2.1 dX12_guard_29 rfl (lv_at hl 2 rfl) ?_
      refine lv_iload_n S.1 S.2.1 dX12_guard_30 rfl (lv_at hl 3 rfl) ?_
      refine sz (q0 := 4) (n := 8) (f := R 4) j S hK I rfl rfl (by omega) (by decide) (by assumption) dX12_guard_31 (fun H locs I => ?_)
      have I : IX D A s.heap (wM cy q N (va_up R 4 (upd (R 4) j o)) X) H locs := I
      refine lv_iload_n S.1 S.2.1 dX12_guard_32 rfl (lv_at hl 0 rfl) ?_
      exact ru_i hQ S hr hlk (u := (N, (va_up R 4 (upd (R 4) j o)))) I (by simp [sp_guard, c_5, e_j, c_16, bI, nI_one, nI_zero]) dX12_guard_33
    · skip
      refine lv_iconst (v := nI 1) S.1 S.2.1 dX12_guard_19 (by decide) ?_
      refine lv_goto (tgt := 24) S.1 S.2.1 dX12_guard_20 (by decide) ?_
      refine lv_istore_n (lv' := [(3, .int (nI 1)), (0, .ref (q 33)), (1, .int (nI j)), (2, .int o)]) S.1 S.2.1 dX12_guard_24 rfl hl (by decide) rfl (fun ls hl => ?_)
      refine lv_aload_n S.1 S.2.1 dX12_guard_25 rfl (lv_at hl 1 rfl) ?_
      refine rg (ci := 12) (q0 := 0) (v := .ref (q 4)) 4 S hK I cl_X12 rfl wf_X12_20 (by decide) rfl rfl rfl dX12_guard_26 ?_
      refine lv_iload_n S.1 S.2.1 dX12_guard_29 rfl (lv_at hl 2 rfl) ?_
      refine lv_iload_n S.1 S.2.1 dX12_guard_30 rfl (lv_at hl 3 rfl) ?_
      refine sz (q0 := 4) (n := 8) (f := R 4) j S hK I rfl rfl (by omega) (by decide) (by assumption) dX12_guard_31 (fun H locs I => ?_)
      have I : IX D A s.heap (wM cy q N (va_up R 4 (upd (R 4) j o)) X) H locs := I
      refine lv_iload_n S.1 S.2.1 dX12_guard_32 rfl (lv_at hl 0 rfl) ?_
      exact ru_i hQ S hr hlk (u := (N, (va_up R 4 (upd (R 4) j o)))) I (by simp [sp_guard, c_5, e_j, c_16, bI, nI_one, nI_zero]) dX12_guard_33
  · skip
    have c_5 := bI_f c_5
    refine lv_iconst (v := (-1)) S.1 S.2.1 dX12_guard_8 (by decide) ?_
    exact ru_i hQ S hr hlk (u := (N, R)) I (by simp [sp_guard, c_5, bI, nI_one, nI_zero]) dX12_guard_9
set_option maxHeartbeats 4000000 in
set_option maxRecDepth 100000 in
theorem c_version (l : Launch) (D : va_G) (cy : Nat → ClassId) (q : Nat → Nat) (N : Nat → Nat) (R X : Nat → Nat → Int32) (x v : Int32) (hB : Bd N) : MS (α := SR) l D cy yX12_version cX12_version 4 (Option.some FieldType.int) rm_X12_version [.ref (q 33), .int x, .int v] (wM cy q N R X) (fun v_ u_ => v_ = some (.int (sp_version N R x v).1) ∧ u_ = (sp_version N R x v).2) (fun u_ => wM cy q u_.1 u_.2 X) := by
  refine MS.mk2 (by decide) (Nat.le_of_ble_eq_true rfl) [(0, .ref (q 33)), (1, .int x), (2, .int v)] rfl ?_
  intro p e s m args below meth c A ls Q hQ S hr hlk hnm hK hA I hl
  have hB0 := hB
  obtain ⟨b0, b6, b17, b24, b30⟩ := hB0
  refine lv_aload_n S.1 S.2.1 dX12_version_0 rfl (lv_at hl 0 rfl) ?_
  refine lv_iload_n S.1 S.2.1 dX12_version_1 rfl (lv_at hl 1 rfl) ?_
  refine cV (np := 1) (ci := 12) (q0 := 0) (As := [.int x]) (rest := []) S (c_isPart l D cy q N R X (x) hB) hK hA I wm_X12_107 wi_X12_isPart ws_X12_X12_isPart wn_X12 wk_X12_isPart ⟨rfl, hd_X12_isPart⟩ rfl ⟨by decide, by decide⟩ rfl rfl hl.1 rfl (Nat.le_of_ble_eq_true rfl) dX12_version_2 ⟨by decide, by decide⟩ (fun v_ u_ H locs h_ I => ?_)
  obtain rfl := h_
  have I : IX D A s.heap (wM cy q N R X) H locs := I
  refine W.eq (g2 := F0 m 5 ls [.int (bI (isP (N 0) x))]) rfl ?_
  refine lv_if_eq (tgt := 15) S.1 S.2.1 dX12_version_5 (by decide) (fun c_5 => ?_) (fun c_5 => ?_)
  · skip
    have c_5 := bI_f c_5
    refine lv_iconst (v := (-1)) S.1 S.2.1 dX12_version_15 (by decide) ?_
    exact ru_i hQ S hr hlk (u := (N, R)) I (by simp [sp_version, c_5, bI]) dX12_version_16
  · skip
    have c_5 := bI_t c_5
    obtain ⟨j, h_j, rfl⟩ := isP_of c_5 (by omega)
    have e_j : (nI j).toNatClampNeg = j := nI_clamp (by omega)
    refine lv_iload_n S.1 S.2.1 dX12_version_8 rfl (lv_at hl 2 rfl) ?_
    refine cS (np := 1) (As := [.int v]) (rest := []) S (c_isVersion l D cy (wM cy q N R X) v) hK hA I wm_X12_103 wt_X12_isVersion wn_X12 wk_X12_isVersion ⟨rfl, hd_X12_isVersion⟩ rfl ⟨by decide, by decide⟩ hl.1 rfl (Nat.le_of_ble_eq_true rfl) dX12_version_9 ⟨by decide, by decide⟩ (fun v_ u_ H locs h_ I => ?_)
    obtain rfl := h_
    have I : IX D A s.heap (wM cy q N R X) H locs := I
    refine W.eq (g2 := F0 m 12 ls [.int (bI (isV v))]) rfl ?_
    refine lv_if_ne (tgt := 17) S.1 S.2.1 dX12_version_12 (by decide) (fun c_12 => ?_) (fun c_12 => ?_)
    · skip
      have c_12 := bI_t c_12
      refine lv_aload_n S.1 S.2.1 dX12_version_17 rfl (lv_at hl 0 rfl) ?_
      refine rg (ci := 12) (q0 := 0) (v := .ref (q 1)) 1 S hK I cl_X12 rfl wf_X12_7 (by decide) rfl rfl rfl dX12_version_18 ?_
      refine lv_iload_n S.1 S.2.1 dX12_version_21 rfl (lv_at hl 1 rfl) ?_
      refine ri (q0 := 1) (n := 8) (f := R 1) j S hK I rfl rfl (by omega) (by decide) dX12_version_22 ?_
      refine lv_istore_n (lv' := [(3, .int (R 1 j)), (0, .ref (q 33)), (1, .int (nI j)), (2, .int v)]) S.1 S.2.1 dX12_version_23 rfl hl (by decide) rfl (fun ls hl => ?_)
      refine lv_aload_n S.1 S.2.1 dX12_version_24 rfl (lv_at hl 1 rfl) ?_
      refine rg (ci := 12) (q0 := 0) (v := .ref (q 1)) 1 S hK I cl_X12 rfl wf_X12_7 (by decide) rfl rfl rfl dX12_version_25 ?_
      refine lv_iload_n S.1 S.2.1 dX12_version_28 rfl (lv_at hl 2 rfl) ?_
      refine lv_iload_n S.1 S.2.1 dX12_version_29 rfl (lv_at hl 3 rfl) ?_
      refine si (q0 := 1) (n := 8) (f := R 1) j S hK I rfl rfl (by omega) (by decide) dX12_version_30 (fun H locs I => ?_)
      have I : IX D A s.heap (wM cy q N (va_up R 1 (upd (R 1) j v)) X) H locs := I
      refine lv_iload_n S.1 S.2.1 dX12_version_31 rfl (lv_at hl 0 rfl) ?_
      exact ru_i hQ S hr hlk (u := (N, (va_up R 1 (upd (R 1) j v)))) I (by simp [sp_version, c_5, e_j, c_12, bI]) dX12_version_32
    · skip
      have c_12 := bI_f c_12
      refine lv_iconst (v := (-1)) S.1 S.2.1 dX12_version_15 (by decide) ?_
      exact ru_i hQ S hr hlk (u := (N, R)) I (by simp [sp_version, c_5, e_j, c_12, bI]) dX12_version_16
set_option maxHeartbeats 4000000 in
set_option maxRecDepth 100000 in
theorem c_wake (l : Launch) (D : va_G) (cy : Nat → ClassId) (q : Nat → Nat) (N : Nat → Nat) (R X : Nat → Nat → Int32) (h o : Int32) (hB : Bd N) (hz_o : o = 0 ∨ o = 1) : MS (α := SR) l D cy yX12_wake cX12_wake 4 (Option.some FieldType.int) rm_X12_wake [.ref (q 33), .int h, .int o] (wM cy q N R X) (fun v_ u_ => v_ = some (.int (sp_wake N R h o).1) ∧ u_ = (sp_wake N R h o).2) (fun u_ => wM cy q u_.1 u_.2 X) := by
  refine MS.mk2 (by decide) (Nat.le_of_ble_eq_true rfl) [(0, .ref (q 33)), (1, .int h), (2, .int o)] rfl ?_
  intro p e s m args below meth c A ls Q hQ S hr hlk hnm hK hA I hl
  have hB0 := hB
  obtain ⟨b0, b6, b17, b24, b30⟩ := hB0
  refine lv_aload_n S.1 S.2.1 dX12_wake_0 rfl (lv_at hl 0 rfl) ?_
  refine lv_iload_n S.1 S.2.1 dX12_wake_1 rfl (lv_at hl 1 rfl) ?_
  refine cV (np := 1) (ci := 12) (q0 := 0) (As := [.int h]) (rest := []) S (c_isHole l D cy q N R X (h) hB) hK hA I wm_X12_120 wi_X12_isHole ws_X12_X12_isHole wn_X12 wk_X12_isHole ⟨rfl, hd_X12_isHole⟩ rfl ⟨by decide, by decide⟩ rfl rfl hl.1 rfl (Nat.le_of_ble_eq_true rfl) dX12_wake_2 ⟨by decide, by decide⟩ (fun v_ u_ H locs h_ I => ?_)
  obtain rfl := h_
  have I : IX D A s.heap (wM cy q N R X) H locs := I
  refine W.eq (g2 := F0 m 5 ls [.int (bI (isP (N 6) h))]) rfl ?_
  refine lv_if_ne (tgt := 10) S.1 S.2.1 dX12_wake_5 (by decide) (fun c_5 => ?_) (fun c_5 => ?_)
  · skip
    have c_5 := bI_t c_5
    obtain ⟨j, h_j, rfl⟩ := isP_of c_5 (by omega)
    have e_j : (nI j).toNatClampNeg = j := nI_clamp (by omega)
    refine lv_aload_n S.1 S.2.1 dX12_wake_10 rfl (lv_at hl 0 rfl) ?_
    refine rg (ci := 12) (q0 := 0) (v := .ref (q 7)) 7 S hK I cl_X12 rfl wf_X12_26 (by decide) rfl rfl rfl dX12_wake_11 ?_
    refine lv_iload_n S.1 S.2.1 dX12_wake_14 rfl (lv_at hl 1 rfl) ?_
    refine ri (q0 := 6) (n := 12) (f := R 7) j S hK I rfl rfl (by omega) (by decide) dX12_wake_15 ?_
    refine lv_iconst (v := nI 4) S.1 S.2.1 dX12_wake_16 (by decide) ?_
    refine lv_icmp_eq (tgt := 23) S.1 S.2.1 dX12_wake_17 (by decide) (fun c_17 => ?_) (fun c_17 => ?_)
    · skip
      refine lv_aload_n S.1 S.2.1 dX12_wake_23 rfl (lv_at hl 0 rfl) ?_
      refine rg (ci := 12) (q0 := 0) (v := .ref (q 12)) 12 S hK I cl_X12 rfl wf_X12_41 (by decide) rfl rfl rfl dX12_wake_24 ?_
      refine lv_iload_n S.1 S.2.1 dX12_wake_27 rfl (lv_at hl 1 rfl) ?_
      refine rz (q0 := 11) (n := 12) (f := R 12) j S hK I rfl rfl (by omega) (by decide) dX12_wake_28 ?_
      refine lv_if_eq (tgt := 36) S.1 S.2.1 dX12_wake_29 (by decide) (fun c_29 => ?_) (fun c_29 => ?_)
      · skip
        refine lv_iconst (v := nI 0) S.1 S.2.1 dX12_wake_36 (by decide) ?_
        refine lv_istore_n (lv' := [(3, .int (nI 0)), (0, .ref (q 33)), (1, .int (nI j)), (2, .int o)]) S.1 S.2.1 dX12_wake_37 rfl hl (by decide) rfl (fun ls hl => ?_)
        refine lv_aload_n S.1 S.2.1 dX12_wake_38 rfl (lv_at hl 1 rfl) ?_
        refine rg (ci := 12) (q0 := 0) (v := .ref (q 12)) 12 S hK I cl_X12 rfl wf_X12_41 (by decide) rfl rfl rfl dX12_wake_39 ?_
        refine lv_iload_n S.1 S.2.1 dX12_wake_42 rfl (lv_at hl 2 rfl) ?_
        refine lv_iload_n S.1 S.2.1 dX12_wake_43 rfl (lv_at hl 3 rfl) ?_
        refine sz (q0 := 11) (n := 12) (f := R 12) j S hK I rfl rfl (by omega) (by decide) (by assumption) dX12_wake_44 (fun H locs I => ?_)
        have I : IX D A s.heap (wM cy q N (va_up R 12 (upd (R 12) j o)) X) H locs := I
        refine lv_iload_n S.1 S.2.1 dX12_wake_45 rfl (lv_at hl 0 rfl) ?_
        exact ru_i hQ S hr hlk (u := (N, (va_up R 12 (upd (R 12) j o)))) I (by simp [sp_wake, c_5, e_j, c_17, c_29, bI, nI_one, nI_zero]) dX12_wake_46
      · skip
        refine lv_iconst (v := nI 1) S.1 S.2.1 dX12_wake_32 (by decide) ?_
        refine lv_goto (tgt := 37) S.1 S.2.1 dX12_wake_33 (by decide) ?_
        refine lv_istore_n (lv' := [(3, .int (nI 1)), (0, .ref (q 33)), (1, .int (nI j)), (2, .int o)]) S.1 S.2.1 dX12_wake_37 rfl hl (by decide) rfl (fun ls hl => ?_)
        refine lv_aload_n S.1 S.2.1 dX12_wake_38 rfl (lv_at hl 1 rfl) ?_
        refine rg (ci := 12) (q0 := 0) (v := .ref (q 12)) 12 S hK I cl_X12 rfl wf_X12_41 (by decide) rfl rfl rfl dX12_wake_39 ?_
        refine lv_iload_n S.1 S.2.1 dX12_wake_42 rfl (lv_at hl 2 rfl) ?_
        refine lv_iload_n S.1 S.2.1 dX12_wake_43 rfl (lv_at hl 3 rfl) ?_
        refine sz (q0 := 11) (n := 12) (f := R 12) j S hK I rfl rfl (by omega) (by decide) (by assumption) dX12_wake_44 (fun H locs I => ?_)
        have I : IX D A s.heap (wM cy q N (va_up R 12 (upd (R 12) j o)) X) H locs := I
        refine lv_iload_n S.1 S.2.1 dX12_wake_45 rfl (lv_at hl 0 rfl) ?_
        exact ru_i hQ S hr hlk (u := (N, (va_up R 12 (upd (R 12) j o)))) I (by simp [sp_wake, c_5, e_j, c_17, c_29, bI, nI_one, nI_zero]) dX12_wake_46
    · skip
      refine lv_bipush (v := (-13)) S.1 S.2.1 dX12_wake_20 (by decide) ?_
      exact ru_i hQ S hr hlk (u := (N, R)) I (by simp [sp_wake, c_5, e_j, c_17, bI, nI_one, nI_zero]) dX12_wake_22
  · skip
    have c_5 := bI_f c_5
    refine lv_iconst (v := (-1)) S.1 S.2.1 dX12_wake_8 (by decide) ?_
    exact ru_i hQ S hr hlk (u := (N, R)) I (by simp [sp_wake, c_5, bI, nI_one, nI_zero]) dX12_wake_9
set_option maxHeartbeats 4000000 in
set_option maxRecDepth 100000 in
theorem c_add (l : Launch) (D : va_G) (cy : Nat → ClassId) (q : Nat → Nat) (N : Nat → Nat) (R X : Nat → Nat → Int32) (k x a b t : Int32) (hB : Bd N) : MS (α := SR) l D cy yX12_add cX12_add 6 (Option.some FieldType.int) rm_X12_add [.ref (q 33), .int k, .int x, .int a, .int b, .int t] (wM cy q N R X) (fun v_ u_ => v_ = some (.int (sp_add N R k x a b t).1) ∧ u_ = (sp_add N R k x a b t).2) (fun u_ => wM cy q u_.1 u_.2 X) := by
  refine MS.mk2 (by decide) (Nat.le_of_ble_eq_true rfl) [(0, .ref (q 33)), (1, .int k), (2, .int x), (3, .int a), (4, .int b), (5, .int t)] rfl ?_
  intro p e s m args below meth c A ls Q hQ S hr hlk hnm hK hA I hl
  have hB0 := hB
  obtain ⟨b0, b6, b17, b24, b30⟩ := hB0
  refine lv_aload_n S.1 S.2.1 dX12_add_0 rfl (lv_at hl 0 rfl) ?_
  refine rg (ci := 12) (q0 := 0) (v := .int (nI (N 6))) 6 S hK I cl_X12 rfl wf_X12_110 (by decide) rfl rfl rfl dX12_add_1 ?_
  refine lv_bipush (v := nI 12) S.1 S.2.1 dX12_add_4 (by decide) ?_
  refine lv_icmp_ne (tgt := 12) S.1 S.2.1 dX12_add_6 (by decide) (fun c_6 => ?_) (fun c_6 => ?_)
  · skip
    have c_6o := c_6
    have c_6 := nI_cneT (by omega) (by omega) c_6
    refine lv_aload_n S.1 S.2.1 dX12_add_12 rfl (lv_at hl 0 rfl) ?_
    refine rg (ci := 12) (q0 := 0) (v := .ref (q 7)) 7 S hK I cl_X12 rfl wf_X12_26 (by decide) rfl rfl rfl dX12_add_13 ?_
    refine lv_aload_n S.1 S.2.1 dX12_add_16 rfl (lv_at hl 0 rfl) ?_
    refine rg (ci := 12) (q0 := 0) (v := .int (nI (N 6))) 6 S hK I cl_X12 rfl wf_X12_110 (by decide) rfl rfl rfl dX12_add_17 ?_
    refine lv_iload_n S.1 S.2.1 dX12_add_20 rfl (lv_at hl 1 rfl) ?_
    refine si (q0 := 6) (n := 12) (f := R 7) (N 6) S hK I rfl rfl (by omega) (by decide) dX12_add_21 (fun H locs I => ?_)
    have I : IX D A s.heap (wM cy q N (va_up R 7 (upd (R 7) (N 6) k)) X) H locs := I
    refine lv_aload_n S.1 S.2.1 dX12_add_22 rfl (lv_at hl 0 rfl) ?_
    refine rg (ci := 12) (q0 := 0) (v := .ref (q 8)) 8 S hK I cl_X12 rfl wf_X12_29 (by decide) rfl rfl rfl dX12_add_23 ?_
    refine lv_aload_n S.1 S.2.1 dX12_add_26 rfl (lv_at hl 0 rfl) ?_
    refine rg (ci := 12) (q0 := 0) (v := .int (nI (N 6))) 6 S hK I cl_X12 rfl wf_X12_110 (by decide) rfl rfl rfl dX12_add_27 ?_
    refine lv_iload_n S.1 S.2.1 dX12_add_30 rfl (lv_at hl 2 rfl) ?_
    refine si (q0 := 7) (n := 12) (f := R 8) (N 6) S hK I rfl rfl (by omega) (by decide) dX12_add_31 (fun H locs I => ?_)
    have I : IX D A s.heap (wM cy q N (va_up (va_up R 7 (upd (R 7) (N 6) k)) 8 (upd (R 8) (N 6) x)) X) H locs := I
    refine lv_aload_n S.1 S.2.1 dX12_add_32 rfl (lv_at hl 0 rfl) ?_
    refine rg (ci := 12) (q0 := 0) (v := .ref (q 9)) 9 S hK I cl_X12 rfl wf_X12_32 (by decide) rfl rfl rfl dX12_add_33 ?_
    refine lv_aload_n S.1 S.2.1 dX12_add_36 rfl (lv_at hl 0 rfl) ?_
    refine rg (ci := 12) (q0 := 0) (v := .int (nI (N 6))) 6 S hK I cl_X12 rfl wf_X12_110 (by decide) rfl rfl rfl dX12_add_37 ?_
    refine lv_iload_n S.1 S.2.1 dX12_add_40 rfl (lv_at hl 3 rfl) ?_
    refine si (q0 := 8) (n := 12) (f := R 9) (N 6) S hK I rfl rfl (by omega) (by decide) dX12_add_41 (fun H locs I => ?_)
    have I : IX D A s.heap (wM cy q N (va_up (va_up (va_up R 7 (upd (R 7) (N 6) k)) 8 (upd (R 8) (N 6) x)) 9 (upd (R 9) (N 6) a)) X) H locs := I
    refine lv_aload_n S.1 S.2.1 dX12_add_42 rfl (lv_at hl 0 rfl) ?_
    refine rg (ci := 12) (q0 := 0) (v := .ref (q 10)) 10 S hK I cl_X12 rfl wf_X12_35 (by decide) rfl rfl rfl dX12_add_43 ?_
    refine lv_aload_n S.1 S.2.1 dX12_add_46 rfl (lv_at hl 0 rfl) ?_
    refine rg (ci := 12) (q0 := 0) (v := .int (nI (N 6))) 6 S hK I cl_X12 rfl wf_X12_110 (by decide) rfl rfl rfl dX12_add_47 ?_
    refine lv_iload S.1 S.2.1 dX12_add_50 (lv_at hl 4 rfl) ?_
    refine si (q0 := 9) (n := 12) (f := R 10) (N 6) S hK I rfl rfl (by omega) (by decide) dX12_add_52 (fun H locs I => ?_)
    have I : IX D A s.heap (wM cy q N (va_up (va_up (va_up (va_up R 7 (upd (R 7) (N 6) k)) 8 (upd (R 8) (N 6) x)) 9 (upd (R 9) (N 6) a)) 10 (upd (R 10) (N 6) b)) X) H locs := I
    refine lv_aload_n S.1 S.2.1 dX12_add_53 rfl (lv_at hl 0 rfl) ?_
    refine rg (ci := 12) (q0 := 0) (v := .ref (q 11)) 11 S hK I cl_X12 rfl wf_X12_38 (by decide) rfl rfl rfl dX12_add_54 ?_
    refine lv_aload_n S.1 S.2.1 dX12_add_57 rfl (lv_at hl 0 rfl) ?_
    refine rg (ci := 12) (q0 := 0) (v := .int (nI (N 6))) 6 S hK I cl_X12 rfl wf_X12_110 (by decide) rfl rfl rfl dX12_add_58 ?_
    refine lv_iload S.1 S.2.1 dX12_add_61 (lv_at hl 5 rfl) ?_
    refine si (q0 := 10) (n := 12) (f := R 11) (N 6) S hK I rfl rfl (by omega) (by decide) dX12_add_63 (fun H locs I => ?_)
    have I : IX D A s.heap (wM cy q N (va_up (va_up (va_up (va_up (va_up R 7 (upd (R 7) (N 6) k)) 8 (upd (R 8) (N 6) x)) 9 (upd (R 9) (N 6) a)) 10 (upd (R 10) (N 6) b)) 11 (upd (R 11) (N 6) t)) X) H locs := I
    refine lv_aload_n S.1 S.2.1 dX12_add_64 rfl (lv_at hl 0 rfl) ?_
    refine rg (ci := 12) (q0 := 0) (v := .ref (q 12)) 12 S hK I cl_X12 rfl wf_X12_41 (by decide) rfl rfl rfl dX12_add_65 ?_
    refine lv_aload_n S.1 S.2.1 dX12_add_68 rfl (lv_at hl 0 rfl) ?_
    refine rg (ci := 12) (q0 := 0) (v := .int (nI (N 6))) 6 S hK I cl_X12 rfl wf_X12_110 (by decide) rfl rfl rfl dX12_add_69 ?_
    refine lv_iconst (v := nI 0) S.1 S.2.1 dX12_add_72 (by decide) ?_
    refine sz (q0 := 11) (n := 12) (f := R 12) (N 6) S hK I rfl rfl (by omega) (by decide) (by decide) dX12_add_73 (fun H locs I => ?_)
    have I : IX D A s.heap (wM cy q N (va_up (va_up (va_up (va_up (va_up (va_up R 7 (upd (R 7) (N 6) k)) 8 (upd (R 8) (N 6) x)) 9 (upd (R 9) (N 6) a)) 10 (upd (R 10) (N 6) b)) 11 (upd (R 11) (N 6) t)) 12 (upd (R 12) (N 6) (nI 0))) X) H locs := I
    refine lv_aload_n S.1 S.2.1 dX12_add_74 rfl (lv_at hl 0 rfl) ?_
    refine lv_dup S.1 S.2.1 dX12_add_75 rfl ?_
    refine rg (ci := 12) (q0 := 0) (v := .int (nI (N 6))) 6 S hK I cl_X12 rfl wf_X12_110 (by decide) rfl rfl rfl dX12_add_76 ?_
    refine lv_iconst (v := nI 1) S.1 S.2.1 dX12_add_79 (by decide) ?_
    refine lv_iadd S.1 S.2.1 dX12_add_80 ?_
    refine tI (y := nI ((N 6) + 1)) (nI_add _ _) ?_
    refine rp (ci := 12) (q0 := 0) (v := .int (nI ((N 6) + 1))) (ty := .int) 6 S hK I cl_X12 rfl wf_X12_110 (by decide) rfl tyX12_ok nmX12 rfl (by decide +kernel) rfl rfl (by exact Nat.le_of_ble_eq_true rfl) rfl dX12_add_81 (fun H locs I => ?_)
    have I : IX D A s.heap (wM cy q (va_up N 6 ((N 6) + 1)) (va_up (va_up (va_up (va_up (va_up (va_up R 7 (upd (R 7) (N 6) k)) 8 (upd (R 8) (N 6) x)) 9 (upd (R 9) (N 6) a)) 10 (upd (R 10) (N 6) b)) 11 (upd (R 11) (N 6) t)) 12 (upd (R 12) (N 6) (nI 0))) X) H locs := I
    refine lv_aload_n S.1 S.2.1 dX12_add_84 rfl (lv_at hl 0 rfl) ?_
    refine rg (ci := 12) (q0 := 0) (v := .int (nI ((N 6) + 1))) 6 S hK I cl_X12 rfl wf_X12_110 (by decide) rfl rfl rfl dX12_add_85 ?_
    refine lv_iconst (v := nI 1) S.1 S.2.1 dX12_add_88 (by decide) ?_
    refine lv_isub S.1 S.2.1 dX12_add_89 ?_
    refine tI (y := nI (N 6)) (by rw [pk_sub (by omega)]; rfl) ?_
    exact ru_i hQ S hr hlk (u := ((va_up N 6 ((N 6) + 1)), (va_up (va_up (va_up (va_up (va_up (va_up R 7 (upd (R 7) (N 6) k)) 8 (upd (R 8) (N 6) x)) 9 (upd (R 9) (N 6) a)) 10 (upd (R 10) (N 6) b)) 11 (upd (R 11) (N 6) t)) 12 (upd (R 12) (N 6) (nI 0))))) I (by simp [sp_add, c_6o, c_6, bI]) dX12_add_90
  · skip
    have c_6o := c_6
    have c_6 := nI_cneF (by omega) (by omega) c_6
    refine lv_bipush (v := (-3)) S.1 S.2.1 dX12_add_9 (by decide) ?_
    exact ru_i hQ S hr hlk (u := (N, R)) I (by simp [sp_add, c_6o, c_6, bI]) dX12_add_11
