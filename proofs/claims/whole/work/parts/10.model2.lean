set_option maxHeartbeats 4000000 in
set_option maxRecDepth 100000 in
theorem c_isSpan (l : Launch) (D : va_G) (cy : Nat → ClassId) (q : Nat → Nat) (N : Nat → Nat) (R X : Nat → Nat → Int32) (x a b : Int32) (hB : Bd N) : MS (α := Unit) l D cy yX12_isSpan cX12_isSpan 4 (Option.some FieldType.boolean) rm_X12_isSpan [.ref (q 33), .int x, .int a, .int b] (wM cy q N R X) (fun v_ (_ : Unit) => v_ = some (.int (bI (isSp N x a b)))) (fun _ => wM cy q N R X) := by
  refine MS.mk2 (by decide) (Nat.le_of_ble_eq_true rfl) [(0, .ref (q 33)), (1, .int x), (2, .int a), (3, .int b)] rfl ?_
  intro p e s m args below meth c A ls Q hQ S hr hlk hnm hK hA I hl
  have hB0 := hB
  obtain ⟨b0, b6, b17, b24, b30⟩ := hB0
  refine lv_aload_n S.1 S.2.1 dX12_isSpan_0 rfl (lv_at hl 0 rfl) ?_
  refine lv_iload_n S.1 S.2.1 dX12_isSpan_1 rfl (lv_at hl 1 rfl) ?_
  refine cV (np := 1) (ci := 12) (q0 := 0) (As := [.int x]) (rest := []) S (c_isPart l D cy q N R X (x) hB) hK hA I wm_X12_107 wi_X12_isPart ws_X12_X12_isPart wn_X12 wk_X12_isPart ⟨rfl, hd_X12_isPart⟩ rfl ⟨by decide, by decide⟩ rfl rfl hl.1 rfl (Nat.le_of_ble_eq_true rfl) dX12_isSpan_2 ⟨by decide, by decide⟩ (fun v_ u_ H locs h_ I => ?_)
  obtain rfl := h_
  have I : IX D A s.heap (wM cy q N R X) H locs := I
  refine W.eq (g2 := F0 m 5 ls [.int (bI (isP (N 0) x))]) rfl ?_
  refine lv_if_eq (tgt := 31) S.1 S.2.1 dX12_isSpan_5 (by decide) (fun c_5 => ?_) (fun c_5 => ?_)
  · skip
    have c_5 := bI_f c_5
    refine lv_iconst (v := nI 0) S.1 S.2.1 dX12_isSpan_31 (by decide) ?_
    exact ru_z hQ S hr hlk (by decide) (u := ()) I (congrArg (fun z => some (Value.int z)) (bI_0 (by simp [isSp, c_5]))) dX12_isSpan_32
  · skip
    have c_5 := bI_t c_5
    refine lv_iload_n S.1 S.2.1 dX12_isSpan_8 rfl (lv_at hl 2 rfl) ?_
    refine cS (np := 1) (As := [.int a]) (rest := []) S (c_isVersion l D cy (wM cy q N R X) a) hK hA I wm_X12_103 wt_X12_isVersion wn_X12 wk_X12_isVersion ⟨rfl, hd_X12_isVersion⟩ rfl ⟨by decide, by decide⟩ hl.1 rfl (Nat.le_of_ble_eq_true rfl) dX12_isSpan_9 ⟨by decide, by decide⟩ (fun v_ u_ H locs h_ I => ?_)
    obtain rfl := h_
    have I : IX D A s.heap (wM cy q N R X) H locs := I
    refine W.eq (g2 := F0 m 12 ls [.int (bI (isV a))]) rfl ?_
    refine lv_if_eq (tgt := 31) S.1 S.2.1 dX12_isSpan_12 (by decide) (fun c_12 => ?_) (fun c_12 => ?_)
    · skip
      have c_12 := bI_f c_12
      refine lv_iconst (v := nI 0) S.1 S.2.1 dX12_isSpan_31 (by decide) ?_
      exact ru_z hQ S hr hlk (by decide) (u := ()) I (congrArg (fun z => some (Value.int z)) (bI_0 (by simp [isSp, c_5, c_12]))) dX12_isSpan_32
    · skip
      have c_12 := bI_t c_12
      refine lv_iload_n S.1 S.2.1 dX12_isSpan_15 rfl (lv_at hl 3 rfl) ?_
      refine cS (np := 1) (As := [.int b]) (rest := []) S (c_isVersion l D cy (wM cy q N R X) b) hK hA I wm_X12_103 wt_X12_isVersion wn_X12 wk_X12_isVersion ⟨rfl, hd_X12_isVersion⟩ rfl ⟨by decide, by decide⟩ hl.1 rfl (Nat.le_of_ble_eq_true rfl) dX12_isSpan_16 ⟨by decide, by decide⟩ (fun v_ u_ H locs h_ I => ?_)
      obtain rfl := h_
      have I : IX D A s.heap (wM cy q N R X) H locs := I
      refine W.eq (g2 := F0 m 19 ls [.int (bI (isV b))]) rfl ?_
      refine lv_if_eq (tgt := 31) S.1 S.2.1 dX12_isSpan_19 (by decide) (fun c_19 => ?_) (fun c_19 => ?_)
      · skip
        have c_19 := bI_f c_19
        refine lv_iconst (v := nI 0) S.1 S.2.1 dX12_isSpan_31 (by decide) ?_
        exact ru_z hQ S hr hlk (by decide) (u := ()) I (congrArg (fun z => some (Value.int z)) (bI_0 (by simp [isSp, c_5, c_12, c_19]))) dX12_isSpan_32
      · skip
        have c_19 := bI_t c_19
        refine lv_iload_n S.1 S.2.1 dX12_isSpan_22 rfl (lv_at hl 2 rfl) ?_
        refine lv_iload_n S.1 S.2.1 dX12_isSpan_23 rfl (lv_at hl 3 rfl) ?_
        refine lv_icmp_gt (tgt := 31) S.1 S.2.1 dX12_isSpan_24 (by decide) (fun c_24 => ?_) (fun c_24 => ?_)
        · skip
          refine lv_iconst (v := nI 0) S.1 S.2.1 dX12_isSpan_31 (by decide) ?_
          exact ru_z hQ S hr hlk (by decide) (u := ()) I (congrArg (fun z => some (Value.int z)) (bI_0 (by simp [isSp, c_5, c_12, c_19, (show ¬ a ≤ b from (fa_of_lt c_24).2.1)]))) dX12_isSpan_32
        · skip
          refine lv_iconst (v := nI 1) S.1 S.2.1 dX12_isSpan_27 (by decide) ?_
          refine lv_goto (tgt := 32) S.1 S.2.1 dX12_isSpan_28 (by decide) ?_
          exact ru_z hQ S hr hlk (by decide) (u := ()) I (congrArg (fun z => some (Value.int z)) (bI_1 (by simp [isSp, c_5, c_12, c_19, fa_of_nlt c_24]))) dX12_isSpan_32
set_option maxHeartbeats 4000000 in
set_option maxRecDepth 100000 in
theorem c_hole (l : Launch) (D : va_G) (cy : Nat → ClassId) (q : Nat → Nat) (N : Nat → Nat) (R X : Nat → Nat → Int32) (k x a b : Int32) (hB : Bd N) : MS (α := SR) l D cy yX12_hole cX12_hole 5 (Option.some FieldType.int) rm_X12_hole [.ref (q 33), .int k, .int x, .int a, .int b] (wM cy q N R X) (fun v_ u_ => v_ = some (.int (sp_hole N R k x a b).1) ∧ u_ = (sp_hole N R k x a b).2) (fun u_ => wM cy q u_.1 u_.2 X) := by
  refine MS.mk2 (by decide) (Nat.le_of_ble_eq_true rfl) [(0, .ref (q 33)), (1, .int k), (2, .int x), (3, .int a), (4, .int b)] rfl ?_
  intro p e s m args below meth c A ls Q hQ S hr hlk hnm hK hA I hl
  have hB0 := hB
  obtain ⟨b0, b6, b17, b24, b30⟩ := hB0
  refine lv_iload_n S.1 S.2.1 dX12_hole_0 rfl (lv_at hl 1 rfl) ?_
  refine lv_iconst (v := nI 0) S.1 S.2.1 dX12_hole_1 (by decide) ?_
  refine lv_iconst (v := nI 4) S.1 S.2.1 dX12_hole_2 (by decide) ?_
  refine cS (np := 3) (As := [.int k, .int (nI 0), .int (nI 4)]) (rest := []) S (c_in l D cy (wM cy q N R X) k (nI 0) (nI 4)) hK hA I wm_X12_99 wt_X12_in wn_X12 wk_X12_in ⟨rfl, hd_X12_in⟩ rfl ⟨by decide, by decide⟩ hl.1 rfl (Nat.le_of_ble_eq_true rfl) dX12_hole_3 ⟨by decide, by decide⟩ (fun v_ u_ H locs h_ I => ?_)
  obtain rfl := h_
  have I : IX D A s.heap (wM cy q N R X) H locs := I
  refine W.eq (g2 := F0 m 6 ls [.int (bI (inB k (nI 0) (nI 4)))]) rfl ?_
  refine lv_if_eq (tgt := 25) S.1 S.2.1 dX12_hole_6 (by decide) (fun c_6 => ?_) (fun c_6 => ?_)
  · skip
    have c_6 := bI_f c_6
    refine lv_iconst (v := (-1)) S.1 S.2.1 dX12_hole_25 (by decide) ?_
    refine lv_goto (tgt := 39) S.1 S.2.1 dX12_hole_26 (by decide) ?_
    exact ru_i hQ S hr hlk (u := (N, R)) I (by simp [sp_hole, c_6]) dX12_hole_39
  · skip
    have c_6 := bI_t c_6
    refine lv_iload_n S.1 S.2.1 dX12_hole_9 rfl (lv_at hl 1 rfl) ?_
    refine lv_iconst (v := nI 1) S.1 S.2.1 dX12_hole_10 (by decide) ?_
    refine lv_icmp_eq (tgt := 25) S.1 S.2.1 dX12_hole_11 (by decide) (fun c_11 => ?_) (fun c_11 => ?_)
    · skip
      refine lv_iconst (v := (-1)) S.1 S.2.1 dX12_hole_25 (by decide) ?_
      refine lv_goto (tgt := 39) S.1 S.2.1 dX12_hole_26 (by decide) ?_
      exact ru_i hQ S hr hlk (u := (N, R)) I (by simp [sp_hole, c_6, c_11]) dX12_hole_39
    · skip
      refine lv_aload_n S.1 S.2.1 dX12_hole_14 rfl (lv_at hl 0 rfl) ?_
      refine lv_iload_n S.1 S.2.1 dX12_hole_15 rfl (lv_at hl 2 rfl) ?_
      refine lv_iload_n S.1 S.2.1 dX12_hole_16 rfl (lv_at hl 3 rfl) ?_
      refine lv_iload S.1 S.2.1 dX12_hole_17 (lv_at hl 4 rfl) ?_
      refine cV (np := 3) (ci := 12) (q0 := 0) (As := [.int x, .int a, .int b]) (rest := []) S (c_isSpan l D cy q N R X x a b hB) hK hA I wm_X12_113 wi_X12_isSpan ws_X12_X12_isSpan wn_X12 wk_X12_isSpan ⟨rfl, hd_X12_isSpan⟩ rfl ⟨by decide, by decide⟩ rfl rfl hl.1 rfl (Nat.le_of_ble_eq_true rfl) dX12_hole_19 ⟨by decide, by decide⟩ (fun v_ u_ H locs h_ I => ?_)
      obtain rfl := h_
      have I : IX D A s.heap (wM cy q N R X) H locs := I
      refine W.eq (g2 := F0 m 22 ls [.int (bI (isSp N x a b))]) rfl ?_
      refine lv_if_ne (tgt := 29) S.1 S.2.1 dX12_hole_22 (by decide) (fun c_22 => ?_) (fun c_22 => ?_)
      · skip
        have c_22 := bI_t c_22
        refine lv_aload_n S.1 S.2.1 dX12_hole_29 rfl (lv_at hl 0 rfl) ?_
        refine lv_iload_n S.1 S.2.1 dX12_hole_30 rfl (lv_at hl 1 rfl) ?_
        refine lv_iload_n S.1 S.2.1 dX12_hole_31 rfl (lv_at hl 2 rfl) ?_
        refine lv_iload_n S.1 S.2.1 dX12_hole_32 rfl (lv_at hl 3 rfl) ?_
        refine lv_iload S.1 S.2.1 dX12_hole_33 (lv_at hl 4 rfl) ?_
        refine lv_iconst (v := (-1)) S.1 S.2.1 dX12_hole_35 (by decide) ?_
        refine cV (np := 5) (ci := 12) (q0 := 0) (As := [.int k, .int x, .int a, .int b, .int (-1)]) (rest := []) S (c_add l D cy q N R X k x a b (-1) hB) hK hA I wm_X12_116 wi_X12_add ws_X12_X12_add wn_X12 wk_X12_add ⟨rfl, hd_X12_add⟩ rfl ⟨by decide, by decide⟩ rfl rfl hl.1 rfl (Nat.le_of_ble_eq_true rfl) dX12_hole_36 ⟨by decide, by decide⟩ (fun v_ u_ H locs h_ I => ?_)
        obtain ⟨rfl, rfl⟩ := h_
        have I : IX D A s.heap (wM cy q ((sp_add N R k x a b (-1)).2.1) ((sp_add N R k x a b (-1)).2.2) X) H locs := I
        refine W.eq (g2 := F0 m 39 ls [.int ((sp_add N R k x a b (-1)).1)]) rfl ?_
        exact ru_i hQ S hr hlk (u := ((sp_add N R k x a b (-1)).2.1, (sp_add N R k x a b (-1)).2.2)) I (by simp [sp_hole, c_6, c_11, c_22]) dX12_hole_39
      · skip
        have c_22 := bI_f c_22
        refine lv_iconst (v := (-1)) S.1 S.2.1 dX12_hole_25 (by decide) ?_
        refine lv_goto (tgt := 39) S.1 S.2.1 dX12_hole_26 (by decide) ?_
        exact ru_i hQ S hr hlk (u := (N, R)) I (by simp [sp_hole, c_6, c_11, c_22]) dX12_hole_39
set_option maxHeartbeats 4000000 in
set_option maxRecDepth 100000 in
theorem c_chained (l : Launch) (D : va_G) (cy : Nat → ClassId) (q : Nat → Nat) (N : Nat → Nat) (R X : Nat → Nat → Int32) (x a b t : Int32) (hB : Bd N) : MS (α := SR) l D cy yX12_chained cX12_chained 5 (Option.some FieldType.int) rm_X12_chained [.ref (q 33), .int x, .int a, .int b, .int t] (wM cy q N R X) (fun v_ u_ => v_ = some (.int (sp_chained N R x a b t).1) ∧ u_ = (sp_chained N R x a b t).2) (fun u_ => wM cy q u_.1 u_.2 X) := by
  refine MS.mk2 (by decide) (Nat.le_of_ble_eq_true rfl) [(0, .ref (q 33)), (1, .int x), (2, .int a), (3, .int b), (4, .int t)] rfl ?_
  intro p e s m args below meth c A ls Q hQ S hr hlk hnm hK hA I hl
  have hB0 := hB
  obtain ⟨b0, b6, b17, b24, b30⟩ := hB0
  refine lv_aload_n S.1 S.2.1 dX12_chained_0 rfl (lv_at hl 0 rfl) ?_
  refine lv_iload_n S.1 S.2.1 dX12_chained_1 rfl (lv_at hl 1 rfl) ?_
  refine lv_iload_n S.1 S.2.1 dX12_chained_2 rfl (lv_at hl 2 rfl) ?_
  refine lv_iload_n S.1 S.2.1 dX12_chained_3 rfl (lv_at hl 3 rfl) ?_
  refine cV (np := 3) (ci := 12) (q0 := 0) (As := [.int x, .int a, .int b]) (rest := []) S (c_isSpan l D cy q N R X x a b hB) hK hA I wm_X12_113 wi_X12_isSpan ws_X12_X12_isSpan wn_X12 wk_X12_isSpan ⟨rfl, hd_X12_isSpan⟩ rfl ⟨by decide, by decide⟩ rfl rfl hl.1 rfl (Nat.le_of_ble_eq_true rfl) dX12_chained_4 ⟨by decide, by decide⟩ (fun v_ u_ H locs h_ I => ?_)
  obtain rfl := h_
  have I : IX D A s.heap (wM cy q N R X) H locs := I
  refine W.eq (g2 := F0 m 7 ls [.int (bI (isSp N x a b))]) rfl ?_
  refine lv_if_eq (tgt := 19) S.1 S.2.1 dX12_chained_7 (by decide) (fun c_7 => ?_) (fun c_7 => ?_)
  · skip
    have c_7 := bI_f c_7
    refine lv_iconst (v := (-1)) S.1 S.2.1 dX12_chained_19 (by decide) ?_
    refine lv_goto (tgt := 33) S.1 S.2.1 dX12_chained_20 (by decide) ?_
    exact ru_i hQ S hr hlk (u := (N, R)) I (by simp [sp_chained, c_7]) dX12_chained_33
  · skip
    have c_7 := bI_t c_7
    refine lv_aload_n S.1 S.2.1 dX12_chained_10 rfl (lv_at hl 0 rfl) ?_
    refine lv_iload S.1 S.2.1 dX12_chained_11 (lv_at hl 4 rfl) ?_
    refine cV (np := 1) (ci := 12) (q0 := 0) (As := [.int t]) (rest := []) S (c_isHole l D cy q N R X (t) hB) hK hA I wm_X12_120 wi_X12_isHole ws_X12_X12_isHole wn_X12 wk_X12_isHole ⟨rfl, hd_X12_isHole⟩ rfl ⟨by decide, by decide⟩ rfl rfl hl.1 rfl (Nat.le_of_ble_eq_true rfl) dX12_chained_13 ⟨by decide, by decide⟩ (fun v_ u_ H locs h_ I => ?_)
    obtain rfl := h_
    have I : IX D A s.heap (wM cy q N R X) H locs := I
    refine W.eq (g2 := F0 m 16 ls [.int (bI (isP (N 6) t))]) rfl ?_
    refine lv_if_ne (tgt := 23) S.1 S.2.1 dX12_chained_16 (by decide) (fun c_16 => ?_) (fun c_16 => ?_)
    · skip
      have c_16 := bI_t c_16
      refine lv_aload_n S.1 S.2.1 dX12_chained_23 rfl (lv_at hl 0 rfl) ?_
      refine lv_iconst (v := nI 1) S.1 S.2.1 dX12_chained_24 (by decide) ?_
      refine lv_iload_n S.1 S.2.1 dX12_chained_25 rfl (lv_at hl 1 rfl) ?_
      refine lv_iload_n S.1 S.2.1 dX12_chained_26 rfl (lv_at hl 2 rfl) ?_
      refine lv_iload_n S.1 S.2.1 dX12_chained_27 rfl (lv_at hl 3 rfl) ?_
      refine lv_iload S.1 S.2.1 dX12_chained_28 (lv_at hl 4 rfl) ?_
      refine cV (np := 5) (ci := 12) (q0 := 0) (As := [.int (nI 1), .int x, .int a, .int b, .int t]) (rest := []) S (c_add l D cy q N R X (nI 1) x a b t hB) hK hA I wm_X12_116 wi_X12_add ws_X12_X12_add wn_X12 wk_X12_add ⟨rfl, hd_X12_add⟩ rfl ⟨by decide, by decide⟩ rfl rfl hl.1 rfl (Nat.le_of_ble_eq_true rfl) dX12_chained_30 ⟨by decide, by decide⟩ (fun v_ u_ H locs h_ I => ?_)
      obtain ⟨rfl, rfl⟩ := h_
      have I : IX D A s.heap (wM cy q ((sp_add N R (nI 1) x a b t).2.1) ((sp_add N R (nI 1) x a b t).2.2) X) H locs := I
      refine W.eq (g2 := F0 m 33 ls [.int ((sp_add N R (nI 1) x a b t).1)]) rfl ?_
      exact ru_i hQ S hr hlk (u := ((sp_add N R (nI 1) x a b t).2.1, (sp_add N R (nI 1) x a b t).2.2)) I (by simp [sp_chained, c_7, c_16]) dX12_chained_33
    · skip
      have c_16 := bI_f c_16
      refine lv_iconst (v := (-1)) S.1 S.2.1 dX12_chained_19 (by decide) ?_
      refine lv_goto (tgt := 33) S.1 S.2.1 dX12_chained_20 (by decide) ?_
      exact ru_i hQ S hr hlk (u := (N, R)) I (by simp [sp_chained, c_7, c_16]) dX12_chained_33
set_option maxHeartbeats 4000000 in
set_option maxRecDepth 100000 in
theorem c_chain (l : Launch) (D : va_G) (cy : Nat → ClassId) (q : Nat → Nat) (N : Nat → Nat) (R X : Nat → Nat → Int32) (h : Int32) (hB : Bd N) : MS (α := Unit) l D cy yX12_chain cX12_chain 2 (Option.some FieldType.int) rm_X12_chain [.ref (q 33), .int h] (wM cy q N R X) (fun v_ (_ : Unit) => v_ = some (.int (sp_chain N R h))) (fun _ => wM cy q N R X) := by
  refine MS.mk2 (by decide) (Nat.le_of_ble_eq_true rfl) [(0, .ref (q 33)), (1, .int h)] rfl ?_
  intro p e s m args below meth c A ls Q hQ S hr hlk hnm hK hA I hl
  have hB0 := hB
  obtain ⟨b0, b6, b17, b24, b30⟩ := hB0
  refine lv_aload_n S.1 S.2.1 dX12_chain_0 rfl (lv_at hl 0 rfl) ?_
  refine lv_iload_n S.1 S.2.1 dX12_chain_1 rfl (lv_at hl 1 rfl) ?_
  refine cV (np := 1) (ci := 12) (q0 := 0) (As := [.int h]) (rest := []) S (c_isHole l D cy q N R X (h) hB) hK hA I wm_X12_120 wi_X12_isHole ws_X12_X12_isHole wn_X12 wk_X12_isHole ⟨rfl, hd_X12_isHole⟩ rfl ⟨by decide, by decide⟩ rfl rfl hl.1 rfl (Nat.le_of_ble_eq_true rfl) dX12_chain_2 ⟨by decide, by decide⟩ (fun v_ u_ H locs h_ I => ?_)
  obtain rfl := h_
  have I : IX D A s.heap (wM cy q N R X) H locs := I
  refine W.eq (g2 := F0 m 5 ls [.int (bI (isP (N 6) h))]) rfl ?_
  refine lv_if_ne (tgt := 12) S.1 S.2.1 dX12_chain_5 (by decide) (fun c_5 => ?_) (fun c_5 => ?_)
  · skip
    have c_5 := bI_t c_5
    obtain ⟨j, h_j, rfl⟩ := isP_of c_5 (by omega)
    have e_j : (nI j).toNatClampNeg = j := nI_clamp (by omega)
    refine lv_aload_n S.1 S.2.1 dX12_chain_12 rfl (lv_at hl 0 rfl) ?_
    refine rg (ci := 12) (q0 := 0) (v := .ref (q 7)) 7 S hK I cl_X12 rfl wf_X12_26 (by decide) rfl rfl rfl dX12_chain_13 ?_
    refine lv_iload_n S.1 S.2.1 dX12_chain_16 rfl (lv_at hl 1 rfl) ?_
    refine ri (q0 := 6) (n := 12) (f := R 7) j S hK I rfl rfl (by omega) (by decide) dX12_chain_17 ?_
    refine lv_iconst (v := nI 1) S.1 S.2.1 dX12_chain_18 (by decide) ?_
    refine lv_icmp_eq (tgt := 27) S.1 S.2.1 dX12_chain_19 (by decide) (fun c_19 => ?_) (fun c_19 => ?_)
    · skip
      refine lv_aload_n S.1 S.2.1 dX12_chain_27 rfl (lv_at hl 0 rfl) ?_
      refine rg (ci := 12) (q0 := 0) (v := .ref (q 11)) 11 S hK I cl_X12 rfl wf_X12_38 (by decide) rfl rfl rfl dX12_chain_28 ?_
      refine lv_iload_n S.1 S.2.1 dX12_chain_31 rfl (lv_at hl 1 rfl) ?_
      refine ri (q0 := 10) (n := 12) (f := R 11) j S hK I rfl rfl (by omega) (by decide) dX12_chain_32 ?_
      exact ru_i hQ S hr hlk (u := ()) I (by simp [sp_chain, c_5, e_j, c_19]) dX12_chain_33
    · skip
      refine lv_bipush (v := (-13)) S.1 S.2.1 dX12_chain_22 (by decide) ?_
      refine lv_goto (tgt := 33) S.1 S.2.1 dX12_chain_24 (by decide) ?_
      exact ru_i hQ S hr hlk (u := ()) I (by simp [sp_chain, c_5, e_j, c_19]) dX12_chain_33
  · skip
    have c_5 := bI_f c_5
    refine lv_iconst (v := (-1)) S.1 S.2.1 dX12_chain_8 (by decide) ?_
    refine lv_goto (tgt := 33) S.1 S.2.1 dX12_chain_9 (by decide) ?_
    exact ru_i hQ S hr hlk (u := ()) I (by simp [sp_chain, c_5]) dX12_chain_33
set_option maxHeartbeats 4000000 in
set_option maxRecDepth 100000 in
theorem c_isSet (l : Launch) (D : va_G) (cy : Nat → ClassId) (q : Nat → Nat) (N : Nat → Nat) (R X : Nat → Nat → Int32) (x : Int32) (hB : Bd N) : MS (α := Unit) l D cy yX12_isSet cX12_isSet 2 (Option.some FieldType.boolean) rm_X12_isSet [.ref (q 33), .int x] (wM cy q N R X) (fun v_ (_ : Unit) => v_ = some (.int (bI (isP (2 ^ N 17) x)))) (fun _ => wM cy q N R X) := by
  refine MS.mk2 (by decide) (Nat.le_of_ble_eq_true rfl) [(0, .ref (q 33)), (1, .int x)] rfl ?_
  intro p e s m args below meth c A ls Q hQ S hr hlk hnm hK hA I hl
  have hB0 := hB
  obtain ⟨b0, b6, b17, b24, b30⟩ := hB0
  refine lv_iload_n S.1 S.2.1 dX12_isSet_0 rfl (lv_at hl 1 rfl) ?_
  refine lv_iconst (v := nI 0) S.1 S.2.1 dX12_isSet_1 (by decide) ?_
  refine lv_iconst (v := nI 1) S.1 S.2.1 dX12_isSet_2 (by decide) ?_
  refine lv_aload_n S.1 S.2.1 dX12_isSet_3 rfl (lv_at hl 0 rfl) ?_
  refine rg (ci := 12) (q0 := 0) (v := .int (nI (N 17))) 17 S hK I cl_X12 rfl wf_X12_123 (by decide) rfl rfl rfl dX12_isSet_4 ?_
  refine lv_ishl S.1 S.2.1 dX12_isSet_7 ?_
  refine tI (y := nI (2 ^ N 17)) (bitS (by omega)) ?_
  refine lv_iconst (v := nI 1) S.1 S.2.1 dX12_isSet_8 (by decide) ?_
  refine lv_isub S.1 S.2.1 dX12_isSet_9 ?_
  refine cS (np := 3) (As := [.int x, .int (nI 0), .int ((nI (2 ^ N 17)) - (nI 1))]) (rest := []) S (c_in l D cy (wM cy q N R X) x (nI 0) ((nI (2 ^ N 17)) - (nI 1))) hK hA I wm_X12_99 wt_X12_in wn_X12 wk_X12_in ⟨rfl, hd_X12_in⟩ rfl ⟨by decide, by decide⟩ hl.1 rfl (Nat.le_of_ble_eq_true rfl) dX12_isSet_10 ⟨by decide, by decide⟩ (fun v_ u_ H locs h_ I => ?_)
  obtain rfl := h_
  have I : IX D A s.heap (wM cy q N R X) H locs := I
  refine W.eq (g2 := F0 m 13 ls [.int (bI (inB x (nI 0) ((nI (2 ^ N 17)) - (nI 1))))]) rfl ?_
  refine tI (y := bI (isP (2 ^ N 17) x)) (congrArg bI (isP_in (Nat.lt_of_le_of_lt (pow_256 b17) (by decide)) _)) ?_
  exact ru_z hQ S hr hlk (bI_01 _) (u := ()) I rfl dX12_isSet_13
set_option maxHeartbeats 4000000 in
set_option maxRecDepth 100000 in
theorem c_takeVersions (l : Launch) (D : va_G) (cy : Nat → ClassId) (q : Nat → Nat) (N : Nat → Nat) (R X : Nat → Nat → Int32) (d : Nat) (hW : WFm N R) (hd : d < 2147483648) : MS (α := (Nat → Int32)) l D cy yX12_takeVersions cX12_takeVersions 3 (Option.none : Option FieldType) rm_X12_takeVersions [.ref (q 33), .int (nI d)] (wM cy q N R X) (fun v_ u_ => v_ = none ∧ ∀ p, p < N 0 → u_ p = vtF R d (N 17) p) (fun u_ => wM cy q N R (va_up X 13 u_)) := by
  refine MS.mk2 (by decide) (Nat.le_of_ble_eq_true rfl) [(0, .ref (q 33)), (1, .int (nI d))] rfl ?_
  intro p e s m args below meth c A ls Q hQ S hr hlk hnm hK hA I hl
  have hW0 := hW
  obtain ⟨hB, hPt, hBo, hH, hM, hQu⟩ := hW0
  have hB0 := hB
  obtain ⟨b0, b6, b17, b24, b30⟩ := hB0
  refine lv_iconst (v := nI 0) S.1 S.2.1 dX12_takeVersions_0 (by decide) ?_
  refine lv_istore_n (lv' := [(2, .int (nI 0)), (0, .ref (q 33)), (1, .int (nI d))]) S.1 S.2.1 dX12_takeVersions_1 rfl hl (by decide) rfl (fun ls hl => ?_)
  have loop_2 : ∀ (k_ : Nat) (i : Nat) (g : Nat → Int32), N 0 - i < k_ → i ≤ N 0 → (∀ p, p < i → g p = R 1 p) → ∀ (H : Heap) (locs : List Loc) (ls : Array Slot), IX D A s.heap (wM cy q N R (va_up X 13 g)) H locs → lv_has ls 3 [(0, .ref (q 33)), (1, .int (nI d)), (2, .int (nI i))] → W p l e rm_X12_takeVersions s m args below meth c H locs 0 0 Q (F0 m 2 ls []) := by
    intro k_
    induction k_ with
    | zero => intro i g hm_; exact absurd hm_ (Nat.not_lt_zero _)
    | succ k_ ih_2 =>
      intro i g hm_ hi hg H locs ls I hl
      refine lv_iload_n S.1 S.2.1 dX12_takeVersions_2 rfl (lv_at hl 2 rfl) ?_
      refine lv_aload_n S.1 S.2.1 dX12_takeVersions_3 rfl (lv_at hl 0 rfl) ?_
      refine rg (ci := 12) (q0 := 0) (v := .int (nI (N 0))) 0 S hK I cl_X12 rfl wf_X12_95 (by decide) rfl rfl rfl dX12_takeVersions_4 ?_
      refine lv_icmp_ge (tgt := 28) S.1 S.2.1 dX12_takeVersions_7 (by decide) (fun c_7 => ?_) (fun c_7 => ?_)
      · skip
        have c_7o := c_7
        have c_7 := nI_cgeT (by omega) (by omega) c_7
        refine lv_iconst (v := nI 0) S.1 S.2.1 dX12_takeVersions_28 (by decide) ?_
        refine lv_istore_n (lv' := [(2, .int (nI 0)), (0, .ref (q 33)), (1, .int (nI d))]) S.1 S.2.1 dX12_takeVersions_29 rfl hl (by decide) rfl (fun ls hl => ?_)
        have loop_30 : ∀ (k_ : Nat) (m2 : Nat) (g2 : Nat → Int32), N 17 - m2 < k_ → m2 ≤ N 17 → (∀ p, p < N 0 → g2 p = vtF R d m2 p) → ∀ (H : Heap) (locs : List Loc) (ls : Array Slot), IX D A s.heap (wM cy q N R (va_up X 13 g2)) H locs → lv_has ls 3 [(0, .ref (q 33)), (1, .int (nI d)), (2, .int (nI m2))] → W p l e rm_X12_takeVersions s m args below meth c H locs 0 0 Q (F0 m 30 ls []) := by
          intro k_
          induction k_ with
          | zero => intro m2 g2 hm_; exact absurd hm_ (Nat.not_lt_zero _)
          | succ k_ ih_30 =>
            intro m2 g2 hm_ hm2 hg2 H locs ls I hl
            refine lv_iload_n S.1 S.2.1 dX12_takeVersions_30 rfl (lv_at hl 2 rfl) ?_
            refine lv_aload_n S.1 S.2.1 dX12_takeVersions_31 rfl (lv_at hl 0 rfl) ?_
            refine rg (ci := 12) (q0 := 0) (v := .int (nI (N 17))) 17 S hK I cl_X12 rfl wf_X12_123 (by decide) rfl rfl rfl dX12_takeVersions_32 ?_
            refine lv_icmp_ge (tgt := 90) S.1 S.2.1 dX12_takeVersions_35 (by decide) (fun c_35 => ?_) (fun c_35 => ?_)
            · skip
              have c_35o := c_35
              have c_35 := nI_cgeT (by omega) (by omega) c_35
              exact ru_v hQ S hr hlk (u := g2) I (⟨rfl, by rw [show N 17 = m2 by omega]; exact hg2⟩) dX12_takeVersions_90
            · skip
              have c_35o := c_35
              have c_35 := nI_cgeF (by omega) (by omega) c_35
              have hmp := (hM m2 (by omega)).2.1
              refine lv_iload_n S.1 S.2.1 dX12_takeVersions_38 rfl (lv_at hl 1 rfl) ?_
              refine lv_iload_n S.1 S.2.1 dX12_takeVersions_39 rfl (lv_at hl 2 rfl) ?_
              refine lv_ishr S.1 S.2.1 dX12_takeVersions_40 ?_
              refine lv_iconst (v := nI 1) S.1 S.2.1 dX12_takeVersions_41 (by decide) ?_
              refine lv_iand S.1 S.2.1 dX12_takeVersions_42 ?_
              refine tI (y := bI (d.testBit m2)) (bitD hd (by omega)) ?_
              refine lv_iconst (v := nI 1) S.1 S.2.1 dX12_takeVersions_43 (by decide) ?_
              refine lv_icmp_ne (tgt := 84) S.1 S.2.1 dX12_takeVersions_44 (by decide) (fun c_44 => ?_) (fun c_44 => ?_)
              · skip
                have c_44 := bI_eq1F c_44
                refine lv_iinc (v := nI (m2 + 1)) (lv' := [(2, .int (nI (m2 + 1))), (0, .ref (q 33)), (1, .int (nI d))]) S.1 S.2.1 dX12_takeVersions_84 hl (k := 2) rfl (nI_1 _) (by decide) rfl (fun ls hl => ?_)
                refine lv_goto (tgt := 30) S.1 S.2.1 dX12_takeVersions_87 (by decide) ?_
                exact ih_30 (m2 + 1) g2 (by omega) (by omega) (vt_a c_44 hg2) _ _ _ I (lv_sub hl [1, 2, 0] rfl)
              · skip
                have c_44 := bI_eq1T c_44
                refine lv_aload_n S.1 S.2.1 dX12_takeVersions_47 rfl (lv_at hl 0 rfl) ?_
                refine rg (ci := 12) (q0 := 0) (v := .ref (q 19)) 19 S hK I cl_X12 rfl wf_X12_59 (by decide) rfl rfl rfl dX12_takeVersions_48 ?_
                refine lv_iload_n S.1 S.2.1 dX12_takeVersions_51 rfl (lv_at hl 2 rfl) ?_
                refine ri (q0 := 17) (n := 8) (f := R 19) m2 S hK I rfl rfl (by omega) (by decide) dX12_takeVersions_52 ?_
                refine lv_aload_n S.1 S.2.1 dX12_takeVersions_53 rfl (lv_at hl 0 rfl) ?_
                refine rg (ci := 12) (q0 := 0) (v := .ref (q 13)) 13 S hK I cl_X12 rfl wf_X12_44 (by decide) rfl rfl rfl dX12_takeVersions_54 ?_
                refine lv_aload_n S.1 S.2.1 dX12_takeVersions_57 rfl (lv_at hl 0 rfl) ?_
                refine rg (ci := 12) (q0 := 0) (v := .ref (q 18)) 18 S hK I cl_X12 rfl wf_X12_56 (by decide) rfl rfl rfl dX12_takeVersions_58 ?_
                refine lv_iload_n S.1 S.2.1 dX12_takeVersions_61 rfl (lv_at hl 2 rfl) ?_
                refine ri (q0 := 16) (n := 8) (f := R 18) m2 S hK I rfl rfl (by omega) (by decide) dX12_takeVersions_62 ?_
                refine tI (y := nI (mp R m2)) (hM m2 (by omega)).1 ?_
                refine ri (q0 := 12) (n := 8) (f := g2) (mp R m2) S hK I rfl rfl (by omega) (by decide) dX12_takeVersions_63 ?_
                refine lv_icmp_le (tgt := 84) S.1 S.2.1 dX12_takeVersions_64 (by decide) (fun c_64 => ?_) (fun c_64 => ?_)
                · skip
                  refine lv_iinc (v := nI (m2 + 1)) (lv' := [(2, .int (nI (m2 + 1))), (0, .ref (q 33)), (1, .int (nI d))]) S.1 S.2.1 dX12_takeVersions_84 hl (k := 2) rfl (nI_1 _) (by decide) rfl (fun ls hl => ?_)
                  refine lv_goto (tgt := 30) S.1 S.2.1 dX12_takeVersions_87 (by decide) ?_
                  exact ih_30 (m2 + 1) g2 (by omega) (by omega) (vt_b hmp c_64 hg2) _ _ _ I (lv_sub hl [1, 2, 0] rfl)
                · skip
                  refine lv_aload_n S.1 S.2.1 dX12_takeVersions_67 rfl (lv_at hl 0 rfl) ?_
                  refine rg (ci := 12) (q0 := 0) (v := .ref (q 13)) 13 S hK I cl_X12 rfl wf_X12_44 (by decide) rfl rfl rfl dX12_takeVersions_68 ?_
                  refine lv_aload_n S.1 S.2.1 dX12_takeVersions_71 rfl (lv_at hl 0 rfl) ?_
                  refine rg (ci := 12) (q0 := 0) (v := .ref (q 18)) 18 S hK I cl_X12 rfl wf_X12_56 (by decide) rfl rfl rfl dX12_takeVersions_72 ?_
                  refine lv_iload_n S.1 S.2.1 dX12_takeVersions_75 rfl (lv_at hl 2 rfl) ?_
                  refine ri (q0 := 16) (n := 8) (f := R 18) m2 S hK I rfl rfl (by omega) (by decide) dX12_takeVersions_76 ?_
                  refine tI (y := nI (mp R m2)) (hM m2 (by omega)).1 ?_
                  refine lv_aload_n S.1 S.2.1 dX12_takeVersions_77 rfl (lv_at hl 0 rfl) ?_
                  refine rg (ci := 12) (q0 := 0) (v := .ref (q 19)) 19 S hK I cl_X12 rfl wf_X12_59 (by decide) rfl rfl rfl dX12_takeVersions_78 ?_
                  refine lv_iload_n S.1 S.2.1 dX12_takeVersions_81 rfl (lv_at hl 2 rfl) ?_
                  refine ri (q0 := 17) (n := 8) (f := R 19) m2 S hK I rfl rfl (by omega) (by decide) dX12_takeVersions_82 ?_
                  refine si (q0 := 12) (n := 8) (f := g2) (mp R m2) S hK I rfl rfl (by omega) (by decide) dX12_takeVersions_83 (fun H locs I => ?_)
                  have I : IX D A s.heap (wM cy q N R (va_up X 13 (upd g2 (mp R m2) (R 19 m2)))) H locs := I
                  refine lv_iinc (v := nI (m2 + 1)) (lv' := [(2, .int (nI (m2 + 1))), (0, .ref (q 33)), (1, .int (nI d))]) S.1 S.2.1 dX12_takeVersions_84 hl (k := 2) rfl (nI_1 _) (by decide) rfl (fun ls hl => ?_)
                  refine lv_goto (tgt := 30) S.1 S.2.1 dX12_takeVersions_87 (by decide) ?_
                  exact ih_30 (m2 + 1) (upd g2 (mp R m2) (R 19 m2)) (by omega) (by omega) (vt_c hmp c_44 c_64 hg2) _ _ _ I (lv_sub hl [1, 2, 0] rfl)
        exact loop_30 _ 0 g (Nat.lt_succ_self _) (Nat.zero_le _) (fun p hp => hg p (by omega)) _ _ _ I (lv_sub hl [1, 2, 0] rfl)
      · skip
        have c_7o := c_7
        have c_7 := nI_cgeF (by omega) (by omega) c_7
        refine lv_aload_n S.1 S.2.1 dX12_takeVersions_10 rfl (lv_at hl 0 rfl) ?_
        refine rg (ci := 12) (q0 := 0) (v := .ref (q 13)) 13 S hK I cl_X12 rfl wf_X12_44 (by decide) rfl rfl rfl dX12_takeVersions_11 ?_
        refine lv_iload_n S.1 S.2.1 dX12_takeVersions_14 rfl (lv_at hl 2 rfl) ?_
        refine lv_aload_n S.1 S.2.1 dX12_takeVersions_15 rfl (lv_at hl 0 rfl) ?_
        refine rg (ci := 12) (q0 := 0) (v := .ref (q 1)) 1 S hK I cl_X12 rfl wf_X12_7 (by decide) rfl rfl rfl dX12_takeVersions_16 ?_
        refine lv_iload_n S.1 S.2.1 dX12_takeVersions_19 rfl (lv_at hl 2 rfl) ?_
        refine ri (q0 := 1) (n := 8) (f := R 1) i S hK I rfl rfl (by omega) (by decide) dX12_takeVersions_20 ?_
        refine si (q0 := 12) (n := 8) (f := g) i S hK I rfl rfl (by omega) (by decide) dX12_takeVersions_21 (fun H locs I => ?_)
        have I : IX D A s.heap (wM cy q N R (va_up X 13 (upd g i (R 1 i)))) H locs := I
        refine lv_iinc (v := nI (i + 1)) (lv' := [(2, .int (nI (i + 1))), (0, .ref (q 33)), (1, .int (nI d))]) S.1 S.2.1 dX12_takeVersions_22 hl (k := 2) rfl (nI_1 _) (by decide) rfl (fun ls hl => ?_)
        refine lv_goto (tgt := 2) S.1 S.2.1 dX12_takeVersions_25 (by decide) ?_
        exact ih_2 (i + 1) (upd g i (R 1 i)) (by omega) (by omega) (cp_s hg) _ _ _ I (lv_sub hl [1, 2, 0] rfl)
  exact loop_2 _ 0 (X 13) (Nat.lt_succ_self _) (Nat.zero_le _) (fun p hp => absurd hp (Nat.not_lt_zero _)) _ _ _ I (lv_sub hl [1, 2, 0] rfl)
set_option maxHeartbeats 4000000 in
set_option maxRecDepth 100000 in
theorem c_stands (l : Launch) (D : va_G) (cy : Nat → ClassId) (q : Nat → Nat) (N : Nat → Nat) (R X : Nat → Nat → Int32) (h : Nat) (hW : WFm N R) (hh : h < N 6) : MS (α := Unit) l D cy yX12_stands cX12_stands 4 (Option.some FieldType.boolean) rm_X12_stands [.ref (q 33), .int (nI h)] (wM cy q N R X) (fun v_ (_ : Unit) => v_ = some (.int (bI (stB R (X 13) h)))) (fun _ => wM cy q N R X) := by
  refine MS.mk2 (by decide) (Nat.le_of_ble_eq_true rfl) [(0, .ref (q 33)), (1, .int (nI h))] rfl ?_
  intro p e s m args below meth c A ls Q hQ S hr hlk hnm hK hA I hl
  have hW0 := hW
  obtain ⟨hB, hPt, hBo, hH, hM, hQu⟩ := hW0
  have hB0 := hB
  obtain ⟨b0, b6, b17, b24, b30⟩ := hB0
  have hwh := (hH h hh).2.1
  have hkd := (hH h hh).2.2.2.1
  refine lv_aload_n S.1 S.2.1 dX12_stands_0 rfl (lv_at hl 0 rfl) ?_
  refine rg (ci := 12) (q0 := 0) (v := .ref (q 8)) 8 S hK I cl_X12 rfl wf_X12_29 (by decide) rfl rfl rfl dX12_stands_1 ?_
  refine lv_iload_n S.1 S.2.1 dX12_stands_4 rfl (lv_at hl 1 rfl) ?_
  refine ri (q0 := 7) (n := 12) (f := R 8) h S hK I rfl rfl (by omega) (by decide) dX12_stands_5 ?_
  refine tI (y := nI (wh R h)) (hH h (by omega)).1 ?_
  refine lv_istore_n (lv' := [(2, .int (nI (wh R h))), (0, .ref (q 33)), (1, .int (nI h))]) S.1 S.2.1 dX12_stands_6 rfl hl (by decide) rfl (fun ls hl => ?_)
  refine lv_aload_n S.1 S.2.1 dX12_stands_7 rfl (lv_at hl 1 rfl) ?_
  refine rg (ci := 12) (q0 := 0) (v := .ref (q 13)) 13 S hK I cl_X12 rfl wf_X12_44 (by decide) rfl rfl rfl dX12_stands_8 ?_
  refine lv_iload_n S.1 S.2.1 dX12_stands_11 rfl (lv_at hl 0 rfl) ?_
  refine ri (q0 := 12) (n := 8) (f := X 13) (wh R h) S hK I rfl rfl (by omega) (by decide) dX12_stands_12 ?_
  refine lv_aload_n S.1 S.2.1 dX12_stands_13 rfl (lv_at hl 1 rfl) ?_
  refine rg (ci := 12) (q0 := 0) (v := .ref (q 9)) 9 S hK I cl_X12 rfl wf_X12_32 (by decide) rfl rfl rfl dX12_stands_14 ?_
  refine lv_iload_n S.1 S.2.1 dX12_stands_17 rfl (lv_at hl 2 rfl) ?_
  refine ri (q0 := 8) (n := 12) (f := R 9) h S hK I rfl rfl (by omega) (by decide) dX12_stands_18 ?_
  refine lv_aload_n S.1 S.2.1 dX12_stands_19 rfl (lv_at hl 1 rfl) ?_
  refine rg (ci := 12) (q0 := 0) (v := .ref (q 10)) 10 S hK I cl_X12 rfl wf_X12_35 (by decide) rfl rfl rfl dX12_stands_20 ?_
  refine lv_iload_n S.1 S.2.1 dX12_stands_23 rfl (lv_at hl 2 rfl) ?_
  refine ri (q0 := 9) (n := 12) (f := R 10) h S hK I rfl rfl (by omega) (by decide) dX12_stands_24 ?_
  refine cS (np := 3) (As := [.int (X 13 (wh R h)), .int (R 9 h), .int (R 10 h)]) (rest := []) S (c_in l D cy (wM cy q N R X) (X 13 (wh R h)) (R 9 h) (R 10 h)) hK hA I wm_X12_99 wt_X12_in wn_X12 wk_X12_in ⟨rfl, hd_X12_in⟩ rfl ⟨by decide, by decide⟩ hl.1 rfl (Nat.le_of_ble_eq_true rfl) dX12_stands_25 ⟨by decide, by decide⟩ (fun v_ u_ H locs h_ I => ?_)
  obtain rfl := h_
  have I : IX D A s.heap (wM cy q N R X) H locs := I
  refine W.eq (g2 := F0 m 28 ls [.int (bI (inB (X 13 (wh R h)) (R 9 h) (R 10 h)))]) rfl ?_
  refine lv_istore_n (lv' := [(3, .int (bI (inB (X 13 (wh R h)) (R 9 h) (R 10 h)))), (2, .int (nI (wh R h))), (0, .ref (q 33)), (1, .int (nI h))]) S.1 S.2.1 dX12_stands_28 rfl hl (by decide) rfl (fun ls hl => ?_)
  refine lv_iload_n S.1 S.2.1 dX12_stands_29 rfl (lv_at hl 0 rfl) ?_
  refine lv_if_eq (tgt := 75) S.1 S.2.1 dX12_stands_30 (by decide) (fun c_30 => ?_) (fun c_30 => ?_)
  · skip
    have c_30 := bI_f c_30
    refine lv_iconst (v := nI 0) S.1 S.2.1 dX12_stands_75 (by decide) ?_
    exact ru_z hQ S hr hlk (by decide) (u := ()) I (congrArg (fun z => some (Value.int z)) (bI_0 (by first | (simp [stB, c_30]; done) | (exfalso; omega)))) dX12_stands_76
  · skip
    have c_30 := bI_t c_30
    refine lv_aload_n S.1 S.2.1 dX12_stands_33 rfl (lv_at hl 2 rfl) ?_
    refine rg (ci := 12) (q0 := 0) (v := .ref (q 7)) 7 S hK I cl_X12 rfl wf_X12_26 (by decide) rfl rfl rfl dX12_stands_34 ?_
    refine lv_iload_n S.1 S.2.1 dX12_stands_37 rfl (lv_at hl 3 rfl) ?_
    refine ri (q0 := 6) (n := 12) (f := R 7) h S hK I rfl rfl (by omega) (by decide) dX12_stands_38 ?_
    refine tI (y := nI (kd R h)) (hH h (by omega)).2.2.1 ?_
    refine lv_iconst (v := nI 2) S.1 S.2.1 dX12_stands_39 (by decide) ?_
    refine lv_icmp_ne (tgt := 52) S.1 S.2.1 dX12_stands_40 (by decide) (fun c_40 => ?_) (fun c_40 => ?_)
    · skip
      have c_40o := c_40
      have c_40 := nI_cneT (by omega) (by omega) c_40
      refine lv_aload_n S.1 S.2.1 dX12_stands_52 rfl (lv_at hl 2 rfl) ?_
      refine rg (ci := 12) (q0 := 0) (v := .ref (q 7)) 7 S hK I cl_X12 rfl wf_X12_26 (by decide) rfl rfl rfl dX12_stands_53 ?_
      refine lv_iload_n S.1 S.2.1 dX12_stands_56 rfl (lv_at hl 3 rfl) ?_
      refine ri (q0 := 6) (n := 12) (f := R 7) h S hK I rfl rfl (by omega) (by decide) dX12_stands_57 ?_
      refine tI (y := nI (kd R h)) (hH h (by omega)).2.2.1 ?_
      refine lv_iconst (v := nI 4) S.1 S.2.1 dX12_stands_58 (by decide) ?_
      refine lv_icmp_ne (tgt := 71) S.1 S.2.1 dX12_stands_59 (by decide) (fun c_59 => ?_) (fun c_59 => ?_)
      · skip
        have c_59o := c_59
        have c_59 := nI_cneT (by omega) (by omega) c_59
        refine lv_iconst (v := nI 1) S.1 S.2.1 dX12_stands_71 (by decide) ?_
        refine lv_goto (tgt := 76) S.1 S.2.1 dX12_stands_72 (by decide) ?_
        exact ru_z hQ S hr hlk (by decide) (u := ()) I (congrArg (fun z => some (Value.int z)) (bI_1 (by first | (simp [stB, c_30, c_40o, c_40, c_59o, c_59]; done) | (exfalso; omega)))) dX12_stands_76
      · skip
        have c_59o := c_59
        have c_59 := nI_cneF (by omega) (by omega) c_59
        refine lv_aload_n S.1 S.2.1 dX12_stands_62 rfl (lv_at hl 2 rfl) ?_
        refine rg (ci := 12) (q0 := 0) (v := .ref (q 12)) 12 S hK I cl_X12 rfl wf_X12_41 (by decide) rfl rfl rfl dX12_stands_63 ?_
        refine lv_iload_n S.1 S.2.1 dX12_stands_66 rfl (lv_at hl 3 rfl) ?_
        refine rz (q0 := 11) (n := 12) (f := R 12) h S hK I rfl rfl (by omega) (by decide) dX12_stands_67 ?_
        refine lv_if_eq (tgt := 75) S.1 S.2.1 dX12_stands_68 (by decide) (fun c_68 => ?_) (fun c_68 => ?_)
        · skip
          refine lv_iconst (v := nI 0) S.1 S.2.1 dX12_stands_75 (by decide) ?_
          exact ru_z hQ S hr hlk (by decide) (u := ()) I (congrArg (fun z => some (Value.int z)) (bI_0 (by first | (simp [stB, c_30, c_40o, c_40, c_59o, c_59, c_68]; done) | (exfalso; omega)))) dX12_stands_76
        · skip
          refine lv_iconst (v := nI 1) S.1 S.2.1 dX12_stands_71 (by decide) ?_
          refine lv_goto (tgt := 76) S.1 S.2.1 dX12_stands_72 (by decide) ?_
          exact ru_z hQ S hr hlk (by decide) (u := ()) I (congrArg (fun z => some (Value.int z)) (bI_1 (by first | (simp [stB, c_30, c_40o, c_40, c_59o, c_59, c_68]; done) | (exfalso; omega)))) dX12_stands_76
    · skip
      have c_40o := c_40
      have c_40 := nI_cneF (by omega) (by omega) c_40
      refine lv_aload_n S.1 S.2.1 dX12_stands_43 rfl (lv_at hl 2 rfl) ?_
      refine rg (ci := 12) (q0 := 0) (v := .ref (q 4)) 4 S hK I cl_X12 rfl wf_X12_20 (by decide) rfl rfl rfl dX12_stands_44 ?_
      refine lv_iload_n S.1 S.2.1 dX12_stands_47 rfl (lv_at hl 1 rfl) ?_
      refine rz (q0 := 4) (n := 8) (f := R 4) (wh R h) S hK I rfl rfl (by omega) (by decide) dX12_stands_48 ?_
      refine lv_if_ne (tgt := 75) S.1 S.2.1 dX12_stands_49 (by decide) (fun c_49 => ?_) (fun c_49 => ?_)
      · skip
        refine lv_iconst (v := nI 0) S.1 S.2.1 dX12_stands_75 (by decide) ?_
        exact ru_z hQ S hr hlk (by decide) (u := ()) I (congrArg (fun z => some (Value.int z)) (bI_0 (by first | (simp [stB, c_30, c_40o, c_40, c_49]; done) | (exfalso; omega)))) dX12_stands_76
      · skip
        refine lv_aload_n S.1 S.2.1 dX12_stands_52 rfl (lv_at hl 2 rfl) ?_
        refine rg (ci := 12) (q0 := 0) (v := .ref (q 7)) 7 S hK I cl_X12 rfl wf_X12_26 (by decide) rfl rfl rfl dX12_stands_53 ?_
        refine lv_iload_n S.1 S.2.1 dX12_stands_56 rfl (lv_at hl 3 rfl) ?_
        refine ri (q0 := 6) (n := 12) (f := R 7) h S hK I rfl rfl (by omega) (by decide) dX12_stands_57 ?_
        refine tI (y := nI (kd R h)) (hH h (by omega)).2.2.1 ?_
        refine lv_iconst (v := nI 4) S.1 S.2.1 dX12_stands_58 (by decide) ?_
        refine lv_icmp_ne (tgt := 71) S.1 S.2.1 dX12_stands_59 (by decide) (fun c_59 => ?_) (fun c_59 => ?_)
        · skip
          have c_59o := c_59
          have c_59 := nI_cneT (by omega) (by omega) c_59
          refine lv_iconst (v := nI 1) S.1 S.2.1 dX12_stands_71 (by decide) ?_
          refine lv_goto (tgt := 76) S.1 S.2.1 dX12_stands_72 (by decide) ?_
          exact ru_z hQ S hr hlk (by decide) (u := ()) I (congrArg (fun z => some (Value.int z)) (bI_1 (by first | (simp [stB, c_30, c_40o, c_40, c_49, c_59o, c_59]; done) | (exfalso; omega)))) dX12_stands_76
        · skip
          have c_59o := c_59
          have c_59 := nI_cneF (by omega) (by omega) c_59
          refine lv_aload_n S.1 S.2.1 dX12_stands_62 rfl (lv_at hl 2 rfl) ?_
          refine rg (ci := 12) (q0 := 0) (v := .ref (q 12)) 12 S hK I cl_X12 rfl wf_X12_41 (by decide) rfl rfl rfl dX12_stands_63 ?_
          refine lv_iload_n S.1 S.2.1 dX12_stands_66 rfl (lv_at hl 3 rfl) ?_
          refine rz (q0 := 11) (n := 12) (f := R 12) h S hK I rfl rfl (by omega) (by decide) dX12_stands_67 ?_
          refine lv_if_eq (tgt := 75) S.1 S.2.1 dX12_stands_68 (by decide) (fun c_68 => ?_) (fun c_68 => ?_)
          · skip
            refine lv_iconst (v := nI 0) S.1 S.2.1 dX12_stands_75 (by decide) ?_
            exact ru_z hQ S hr hlk (by decide) (u := ()) I (congrArg (fun z => some (Value.int z)) (bI_0 (by first | (simp [stB, c_30, c_40o, c_40, c_49, c_59o, c_59, c_68]; done) | (exfalso; omega)))) dX12_stands_76
          · skip
            refine lv_iconst (v := nI 1) S.1 S.2.1 dX12_stands_71 (by decide) ?_
            refine lv_goto (tgt := 76) S.1 S.2.1 dX12_stands_72 (by decide) ?_
            exact ru_z hQ S hr hlk (by decide) (u := ()) I (congrArg (fun z => some (Value.int z)) (bI_1 (by first | (simp [stB, c_30, c_40o, c_40, c_49, c_59o, c_59, c_68]; done) | (exfalso; omega)))) dX12_stands_76
set_option maxHeartbeats 4000000 in
set_option maxRecDepth 100000 in
theorem c_opens (l : Launch) (D : va_G) (cy : Nat → ClassId) (q : Nat → Nat) (N : Nat → Nat) (R X : Nat → Nat → Int32) (h : Nat) (k : Int32) (hW : WFm N R) (hh : h < N 6) : MS (α := Unit) l D cy yX12_opens cX12_opens 5 (Option.some FieldType.boolean) rm_X12_opens [.ref (q 33), .int (nI h), .int k] (wM cy q N R X) (fun v_ (_ : Unit) => v_ = some (.int (bI (opB R (X 13) (tkB (X 14) k) h)))) (fun _ => wM cy q N R X) := by
  refine MS.mk2 (by decide) (Nat.le_of_ble_eq_true rfl) [(0, .ref (q 33)), (1, .int (nI h)), (2, .int k)] rfl ?_
  intro p e s m args below meth c A ls Q hQ S hr hlk hnm hK hA I hl
  have hW0 := hW
  obtain ⟨hB, hPt, hBo, hH, hM, hQu⟩ := hW0
  have hB0 := hB
  obtain ⟨b0, b6, b17, b24, b30⟩ := hB0
  refine lv_iload_n S.1 S.2.1 dX12_opens_0 rfl (lv_at hl 1 rfl) ?_
  refine lv_istore_n (lv' := [(3, .int (nI h)), (0, .ref (q 33)), (1, .int (nI h)), (2, .int k)]) S.1 S.2.1 dX12_opens_1 rfl hl (by decide) rfl (fun ls hl => ?_)
  have loop_2 : ∀ (k_ : Nat) (h2 : Nat), h2 < k_ → h2 < N 6 → wh R h2 = wh R h → opB R (X 13) (tkB (X 14) k) h2 = opB R (X 13) (tkB (X 14) k) h → ∀ (H : Heap) (locs : List Loc) (ls : Array Slot), IX D A s.heap (wM cy q N R X) H locs → lv_has ls 5 [(0, .ref (q 33)), (1, .int (nI h)), (2, .int k), (3, .int (nI h2))] → W p l e rm_X12_opens s m args below meth c H locs 0 0 Q (F0 m 2 ls []) := by
    intro k_
    induction k_ with
    | zero => intro h2 hm_; exact absurd hm_ (Nat.not_lt_zero _)
    | succ k_ ih_2 =>
      intro h2 hm_ hh2 hw2 hop H locs ls I hl
      have hkd2 := (hH h2 hh2).2.2.2.1
      refine lv_aload_n S.1 S.2.1 dX12_opens_2 rfl (lv_at hl 0 rfl) ?_
      refine lv_iload_n S.1 S.2.1 dX12_opens_3 rfl (lv_at hl 3 rfl) ?_
      refine cV (np := 1) (ci := 12) (q0 := 0) (As := [.int (nI h2)]) (rest := []) S (c_stands l D cy q N R X h2 hW (by omega)) hK hA I wm_X12_126 wi_X12_stands ws_X12_X12_stands wn_X12 wk_X12_stands ⟨rfl, hd_X12_stands⟩ rfl ⟨by decide, by decide⟩ rfl rfl hl.1 rfl (Nat.le_of_ble_eq_true rfl) dX12_opens_4 ⟨by decide, by decide⟩ (fun v_ u_ H locs h_ I => ?_)
      obtain rfl := h_
      have I : IX D A s.heap (wM cy q N R X) H locs := I
      refine W.eq (g2 := F0 m 7 ls [.int (bI (stB R (X 13) h2))]) rfl ?_
      refine lv_if_eq (tgt := 98) S.1 S.2.1 dX12_opens_7 (by decide) (fun c_7 => ?_) (fun c_7 => ?_)
      · skip
        have c_7 := bI_f c_7
        refine lv_iconst (v := nI 0) S.1 S.2.1 dX12_opens_98 (by decide) ?_
        exact ru_z hQ S hr hlk (by decide) (u := ()) I (congrArg (fun z => some (Value.int z)) (bI_0 (by rw [← hop, op_step hH hh2]; simp [tkB, c_7]))) dX12_opens_99
      · skip
        have c_7 := bI_t c_7
        refine lv_aload_n S.1 S.2.1 dX12_opens_10 rfl (lv_at hl 0 rfl) ?_
        refine rg (ci := 12) (q0 := 0) (v := .ref (q 7)) 7 S hK I cl_X12 rfl wf_X12_26 (by decide) rfl rfl rfl dX12_opens_11 ?_
        refine lv_iload_n S.1 S.2.1 dX12_opens_14 rfl (lv_at hl 3 rfl) ?_
        refine ri (q0 := 6) (n := 12) (f := R 7) h2 S hK I rfl rfl (by omega) (by decide) dX12_opens_15 ?_
        refine tI (y := nI (kd R h2)) (hH h2 (by omega)).2.2.1 ?_
        refine lv_iconst (v := nI 1) S.1 S.2.1 dX12_opens_16 (by decide) ?_
        refine lv_icmp_eq (tgt := 22) S.1 S.2.1 dX12_opens_17 (by decide) (fun c_17 => ?_) (fun c_17 => ?_)
        · skip
          have c_17o := c_17
          have c_17 := nI_ceqT (by omega) (by omega) c_17
          have hch := ((hH h2 hh2).2.2.2.2 c_17).2
          have hwc := (hH (ch R h2) (by omega)).2.1
          have hw1 := (hH h (by omega)).2.1
          have hw3 := (hH h2 (by omega)).2.1
          refine lv_aload_n S.1 S.2.1 dX12_opens_22 rfl (lv_at hl 0 rfl) ?_
          refine rg (ci := 12) (q0 := 0) (v := .ref (q 11)) 11 S hK I cl_X12 rfl wf_X12_38 (by decide) rfl rfl rfl dX12_opens_23 ?_
          refine lv_iload_n S.1 S.2.1 dX12_opens_26 rfl (lv_at hl 3 rfl) ?_
          refine ri (q0 := 10) (n := 12) (f := R 11) h2 S hK I rfl rfl (by omega) (by decide) dX12_opens_27 ?_
          refine tI (y := nI (ch R h2)) (((hH h2 hh2).2.2.2.2 c_17).1) ?_
          refine lv_istore (lv' := [(4, .int (nI (ch R h2))), (0, .ref (q 33)), (1, .int (nI h)), (2, .int k), (3, .int (nI h2))]) S.1 S.2.1 dX12_opens_28 hl (by decide) rfl (fun ls hl => ?_)
          refine lv_aload_n S.1 S.2.1 dX12_opens_30 rfl (lv_at hl 1 rfl) ?_
          refine rg (ci := 12) (q0 := 0) (v := .ref (q 8)) 8 S hK I cl_X12 rfl wf_X12_29 (by decide) rfl rfl rfl dX12_opens_31 ?_
          refine lv_iload S.1 S.2.1 dX12_opens_34 (lv_at hl 0 rfl) ?_
          refine ri (q0 := 7) (n := 12) (f := R 8) (ch R h2) S hK I rfl rfl (by omega) (by decide) dX12_opens_36 ?_
          refine tI (y := nI (wh R (ch R h2))) (hH (ch R h2) (by omega)).1 ?_
          refine lv_aload_n S.1 S.2.1 dX12_opens_37 rfl (lv_at hl 1 rfl) ?_
          refine rg (ci := 12) (q0 := 0) (v := .ref (q 8)) 8 S hK I cl_X12 rfl wf_X12_29 (by decide) rfl rfl rfl dX12_opens_38 ?_
          refine lv_iload_n S.1 S.2.1 dX12_opens_41 rfl (lv_at hl 2 rfl) ?_
          refine ri (q0 := 7) (n := 12) (f := R 8) h S hK I rfl rfl (by omega) (by decide) dX12_opens_42 ?_
          refine tI (y := nI (wh R h)) (hH h (by omega)).1 ?_
          refine lv_icmp_eq (tgt := 92) S.1 S.2.1 dX12_opens_43 (by decide) (fun c_43 => ?_) (fun c_43 => ?_)
          · skip
            have c_43o := c_43
            have c_43 := nI_ceqT (by omega) (by omega) c_43
            refine lv_iload S.1 S.2.1 dX12_opens_92 (lv_at hl 0 rfl) ?_
            refine lv_istore_n (lv' := [(3, .int (nI (ch R h2))), (4, .int (nI (ch R h2))), (0, .ref (q 33)), (1, .int (nI h)), (2, .int k)]) S.1 S.2.1 dX12_opens_94 rfl hl (by decide) rfl (fun ls hl => ?_)
            refine lv_goto (tgt := 2) S.1 S.2.1 dX12_opens_95 (by decide) ?_
            exact ih_2 (ch R h2) (by omega) (by omega) c_43 (by rw [← hop, op_step hH hh2, c_7, decide_eq_false (by omega : ¬ ¬ kd R h2 = 1), if_pos (by omega)]; rfl) _ _ _ I (lv_sub hl [2, 3, 4, 0] rfl)
          · skip
            have c_43o := c_43
            have c_43 := nI_ceqF (by omega) (by omega) c_43
            have hwn : ¬ wh R (ch R h2) = wh R h2 := by omega
            refine lv_aload_n S.1 S.2.1 dX12_opens_46 rfl (lv_at hl 1 rfl) ?_
            refine lv_iload S.1 S.2.1 dX12_opens_47 (lv_at hl 0 rfl) ?_
            refine cV (np := 1) (ci := 12) (q0 := 0) (As := [.int (nI (ch R h2))]) (rest := []) S (c_stands l D cy q N R X (ch R h2) hW (by omega)) hK hA I wm_X12_126 wi_X12_stands ws_X12_X12_stands wn_X12 wk_X12_stands ⟨rfl, hd_X12_stands⟩ rfl ⟨by decide, by decide⟩ rfl rfl hl.1 rfl (Nat.le_of_ble_eq_true rfl) dX12_opens_49 ⟨by decide, by decide⟩ (fun v_ u_ H locs h_ I => ?_)
            obtain rfl := h_
            have I : IX D A s.heap (wM cy q N R X) H locs := I
            refine W.eq (g2 := F0 m 52 ls [.int (bI (stB R (X 13) (ch R h2)))]) rfl ?_
            refine lv_if_eq (tgt := 90) S.1 S.2.1 dX12_opens_52 (by decide) (fun c_52 => ?_) (fun c_52 => ?_)
            · skip
              have c_52 := bI_f c_52
              refine lv_iconst (v := nI 0) S.1 S.2.1 dX12_opens_90 (by decide) ?_
              exact ru_z hQ S hr hlk (by decide) (u := ()) I (congrArg (fun z => some (Value.int z)) (bI_0 (by rw [← hop, op_step hH hh2]; simp [tkB, c_7, c_17o, c_17, c_43o, c_43, c_52, hwn]))) dX12_opens_91
            · skip
              have c_52 := bI_t c_52
              refine lv_aload_n S.1 S.2.1 dX12_opens_55 rfl (lv_at hl 1 rfl) ?_
              refine rg (ci := 12) (q0 := 0) (v := .ref (q 14)) 14 S hK I cl_X12 rfl wf_X12_47 (by decide) rfl rfl rfl dX12_opens_56 ?_
              refine lv_aload_n S.1 S.2.1 dX12_opens_59 rfl (lv_at hl 1 rfl) ?_
              refine rg (ci := 12) (q0 := 0) (v := .ref (q 8)) 8 S hK I cl_X12 rfl wf_X12_29 (by decide) rfl rfl rfl dX12_opens_60 ?_
              refine lv_iload S.1 S.2.1 dX12_opens_63 (lv_at hl 0 rfl) ?_
              refine ri (q0 := 7) (n := 12) (f := R 8) (ch R h2) S hK I rfl rfl (by omega) (by decide) dX12_opens_65 ?_
              refine tI (y := nI (wh R (ch R h2))) (hH (ch R h2) (by omega)).1 ?_
              refine ri (q0 := 13) (n := 8) (f := X 14) (wh R (ch R h2)) S hK I rfl rfl (by omega) (by decide) dX12_opens_66 ?_
              refine lv_if_le (tgt := 90) S.1 S.2.1 dX12_opens_67 (by decide) (fun c_67 => ?_) (fun c_67 => ?_)
              · skip
                refine lv_iconst (v := nI 0) S.1 S.2.1 dX12_opens_90 (by decide) ?_
                exact ru_z hQ S hr hlk (by decide) (u := ()) I (congrArg (fun z => some (Value.int z)) (bI_0 (by rw [← hop, op_step hH hh2]; simp [tkB, c_7, c_17o, c_17, c_43o, c_43, c_52, c_67, hwn]))) dX12_opens_91
              · skip
                refine lv_aload_n S.1 S.2.1 dX12_opens_70 rfl (lv_at hl 1 rfl) ?_
                refine rg (ci := 12) (q0 := 0) (v := .ref (q 14)) 14 S hK I cl_X12 rfl wf_X12_47 (by decide) rfl rfl rfl dX12_opens_71 ?_
                refine lv_aload_n S.1 S.2.1 dX12_opens_74 rfl (lv_at hl 1 rfl) ?_
                refine rg (ci := 12) (q0 := 0) (v := .ref (q 8)) 8 S hK I cl_X12 rfl wf_X12_29 (by decide) rfl rfl rfl dX12_opens_75 ?_
                refine lv_iload S.1 S.2.1 dX12_opens_78 (lv_at hl 0 rfl) ?_
                refine ri (q0 := 7) (n := 12) (f := R 8) (ch R h2) S hK I rfl rfl (by omega) (by decide) dX12_opens_80 ?_
                refine tI (y := nI (wh R (ch R h2))) (hH (ch R h2) (by omega)).1 ?_
                refine ri (q0 := 13) (n := 8) (f := X 14) (wh R (ch R h2)) S hK I rfl rfl (by omega) (by decide) dX12_opens_81 ?_
                refine lv_iload_n S.1 S.2.1 dX12_opens_82 rfl (lv_at hl 3 rfl) ?_
                refine lv_icmp_ge (tgt := 90) S.1 S.2.1 dX12_opens_83 (by decide) (fun c_83 => ?_) (fun c_83 => ?_)
                · skip
                  refine lv_iconst (v := nI 0) S.1 S.2.1 dX12_opens_90 (by decide) ?_
                  exact ru_z hQ S hr hlk (by decide) (u := ()) I (congrArg (fun z => some (Value.int z)) (bI_0 (by rw [← hop, op_step hH hh2]; simp [tkB, c_7, c_17o, c_17, c_43o, c_43, c_52, c_67, c_83, hwn]))) dX12_opens_91
                · skip
                  refine lv_iconst (v := nI 1) S.1 S.2.1 dX12_opens_86 (by decide) ?_
                  refine lv_goto (tgt := 91) S.1 S.2.1 dX12_opens_87 (by decide) ?_
                  exact ru_z hQ S hr hlk (by decide) (u := ()) I (congrArg (fun z => some (Value.int z)) (bI_1 (by rw [← hop, op_step hH hh2]; simp [tkB, c_7, c_17o, c_17, c_43o, c_43, c_52, c_67, c_83, hwn]))) dX12_opens_91
        · skip
          have c_17o := c_17
          have c_17 := nI_ceqF (by omega) (by omega) c_17
          refine lv_iconst (v := nI 1) S.1 S.2.1 dX12_opens_20 (by decide) ?_
          exact ru_z hQ S hr hlk (by decide) (u := ()) I (congrArg (fun z => some (Value.int z)) (bI_1 (by rw [← hop, op_step hH hh2]; simp [tkB, c_7, c_17o, c_17]))) dX12_opens_21
  exact loop_2 _ h (Nat.lt_succ_self _) hh rfl rfl _ _ _ I (lv_sub hl [1, 2, 3, 0] rfl)
set_option maxHeartbeats 4000000 in
set_option maxRecDepth 100000 in
theorem c_fromFor (l : Launch) (D : va_G) (cy : Nat → ClassId) (q : Nat → Nat) (N : Nat → Nat) (R X : Nat → Nat → Int32) (pa : Nat) (k : Int32) (hW : WFm N R) (hp : pa < N 0) : MS (α := Unit) l D cy yX12_fromFor cX12_fromFor 4 (Option.some FieldType.int) rm_X12_fromFor [.ref (q 33), .int (nI pa), .int k] (wM cy q N R X) (fun v_ (_ : Unit) => v_ = some (.int (frI R (tkB (X 14) k) (N 0) pa))) (fun _ => wM cy q N R X) := by
  refine MS.mk2 (by decide) (Nat.le_of_ble_eq_true rfl) [(0, .ref (q 33)), (1, .int (nI pa)), (2, .int k)] rfl ?_
  intro p e s m args below meth c A ls Q hQ S hr hlk hnm hK hA I hl
  have hW0 := hW
  obtain ⟨hB, hPt, hBo, hH, hM, hQu⟩ := hW0
  have hB0 := hB
  obtain ⟨b0, b6, b17, b24, b30⟩ := hB0
  refine lv_iconst (v := nI 0) S.1 S.2.1 dX12_fromFor_0 (by decide) ?_
  refine lv_istore_n (lv' := [(3, .int (nI 0)), (0, .ref (q 33)), (1, .int (nI pa)), (2, .int k)]) S.1 S.2.1 dX12_fromFor_1 rfl hl (by decide) rfl (fun ls hl => ?_)
  have loop_2 : ∀ (k_ : Nat) (i : Nat), N 0 - i < k_ → i ≤ N 0 → (∀ j, j < i → frP R (tkB (X 14) k) pa j = false) → ∀ (H : Heap) (locs : List Loc) (ls : Array Slot), IX D A s.heap (wM cy q N R X) H locs → lv_has ls 4 [(0, .ref (q 33)), (1, .int (nI pa)), (2, .int k), (3, .int (nI i))] → W p l e rm_X12_fromFor s m args below meth c H locs 0 0 Q (F0 m 2 ls []) := by
    intro k_
    induction k_ with
    | zero => intro i hm_; exact absurd hm_ (Nat.not_lt_zero _)
    | succ k_ ih_2 =>
      intro i hm_ hi hno H locs ls I hl
      refine lv_iload_n S.1 S.2.1 dX12_fromFor_2 rfl (lv_at hl 3 rfl) ?_
      refine lv_aload_n S.1 S.2.1 dX12_fromFor_3 rfl (lv_at hl 0 rfl) ?_
      refine rg (ci := 12) (q0 := 0) (v := .int (nI (N 0))) 0 S hK I cl_X12 rfl wf_X12_95 (by decide) rfl rfl rfl dX12_fromFor_4 ?_
      refine lv_icmp_ge (tgt := 51) S.1 S.2.1 dX12_fromFor_7 (by decide) (fun c_7 => ?_) (fun c_7 => ?_)
      · skip
        have c_7o := c_7
        have c_7 := nI_cgeT (by omega) (by omega) c_7
        refine lv_bipush (v := (-4)) S.1 S.2.1 dX12_fromFor_51 (by decide) ?_
        exact ru_i hQ S hr hlk (u := ()) I (congrArg (fun z => some (Value.int z)) ((frI_no (fun j hj => hno j (by omega))).symm)) dX12_fromFor_53
      · skip
        have c_7o := c_7
        have c_7 := nI_cgeF (by omega) (by omega) c_7
        refine lv_aload_n S.1 S.2.1 dX12_fromFor_10 rfl (lv_at hl 0 rfl) ?_
        refine rg (ci := 12) (q0 := 0) (v := .ref (q 5)) 5 S hK I cl_X12 rfl wf_X12_23 (by decide) rfl rfl rfl dX12_fromFor_11 ?_
        refine lv_bipush (v := nI 8) S.1 S.2.1 dX12_fromFor_14 (by decide) ?_
        refine lv_iload_n S.1 S.2.1 dX12_fromFor_16 rfl (lv_at hl 3 rfl) ?_
        refine lv_imul S.1 S.2.1 dX12_fromFor_17 ?_
        refine tI (y := nI (8 * i)) (pk_mul _ _) ?_
        refine lv_iload_n S.1 S.2.1 dX12_fromFor_18 rfl (lv_at hl 1 rfl) ?_
        refine lv_iadd S.1 S.2.1 dX12_fromFor_19 ?_
        refine tI (y := nI ((8 * i) + pa)) (nI_add _ _) ?_
        refine rz (q0 := 5) (n := 64) (f := R 5) ((8 * i) + pa) S hK I rfl rfl (by omega) (by decide) dX12_fromFor_20 ?_
        refine lv_if_eq (tgt := 45) S.1 S.2.1 dX12_fromFor_21 (by decide) (fun c_21 => ?_) (fun c_21 => ?_)
        · skip
          refine lv_iinc (v := nI (i + 1)) (lv' := [(3, .int (nI (i + 1))), (0, .ref (q 33)), (1, .int (nI pa)), (2, .int k)]) S.1 S.2.1 dX12_fromFor_45 hl (k := 3) rfl (nI_1 _) (by decide) rfl (fun ls hl => ?_)
          refine lv_goto (tgt := 2) S.1 S.2.1 dX12_fromFor_48 (by decide) ?_
          exact ih_2 (i + 1) (by omega) (by omega) (all_s hno (by simp [frP, tkB, c_21])) _ _ _ I (lv_sub hl [1, 2, 3, 0] rfl)
        · skip
          refine lv_aload_n S.1 S.2.1 dX12_fromFor_24 rfl (lv_at hl 0 rfl) ?_
          refine rg (ci := 12) (q0 := 0) (v := .ref (q 14)) 14 S hK I cl_X12 rfl wf_X12_47 (by decide) rfl rfl rfl dX12_fromFor_25 ?_
          refine lv_iload_n S.1 S.2.1 dX12_fromFor_28 rfl (lv_at hl 3 rfl) ?_
          refine ri (q0 := 13) (n := 8) (f := X 14) i S hK I rfl rfl (by omega) (by decide) dX12_fromFor_29 ?_
          refine lv_if_le (tgt := 45) S.1 S.2.1 dX12_fromFor_30 (by decide) (fun c_30 => ?_) (fun c_30 => ?_)
          · skip
            refine lv_iinc (v := nI (i + 1)) (lv' := [(3, .int (nI (i + 1))), (0, .ref (q 33)), (1, .int (nI pa)), (2, .int k)]) S.1 S.2.1 dX12_fromFor_45 hl (k := 3) rfl (nI_1 _) (by decide) rfl (fun ls hl => ?_)
            refine lv_goto (tgt := 2) S.1 S.2.1 dX12_fromFor_48 (by decide) ?_
            exact ih_2 (i + 1) (by omega) (by omega) (all_s hno (by simp [frP, tkB, c_21, c_30])) _ _ _ I (lv_sub hl [1, 2, 3, 0] rfl)
          · skip
            refine lv_aload_n S.1 S.2.1 dX12_fromFor_33 rfl (lv_at hl 0 rfl) ?_
            refine rg (ci := 12) (q0 := 0) (v := .ref (q 14)) 14 S hK I cl_X12 rfl wf_X12_47 (by decide) rfl rfl rfl dX12_fromFor_34 ?_
            refine lv_iload_n S.1 S.2.1 dX12_fromFor_37 rfl (lv_at hl 3 rfl) ?_
            refine ri (q0 := 13) (n := 8) (f := X 14) i S hK I rfl rfl (by omega) (by decide) dX12_fromFor_38 ?_
            refine lv_iload_n S.1 S.2.1 dX12_fromFor_39 rfl (lv_at hl 2 rfl) ?_
            refine lv_icmp_ge (tgt := 45) S.1 S.2.1 dX12_fromFor_40 (by decide) (fun c_40 => ?_) (fun c_40 => ?_)
            · skip
              refine lv_iinc (v := nI (i + 1)) (lv' := [(3, .int (nI (i + 1))), (0, .ref (q 33)), (1, .int (nI pa)), (2, .int k)]) S.1 S.2.1 dX12_fromFor_45 hl (k := 3) rfl (nI_1 _) (by decide) rfl (fun ls hl => ?_)
              refine lv_goto (tgt := 2) S.1 S.2.1 dX12_fromFor_48 (by decide) ?_
              exact ih_2 (i + 1) (by omega) (by omega) (all_s hno (by simp [frP, tkB, c_21, c_30, c_40])) _ _ _ I (lv_sub hl [1, 2, 3, 0] rfl)
            · skip
              refine lv_iload_n S.1 S.2.1 dX12_fromFor_43 rfl (lv_at hl 3 rfl) ?_
              exact ru_i hQ S hr hlk (u := ()) I (congrArg (fun z => some (Value.int z)) ((frI_yes hno (by simp [frP, tkB, c_21, c_30, c_40]) (by omega)).symm)) dX12_fromFor_44
  exact loop_2 _ 0 (Nat.lt_succ_self _) (Nat.zero_le _) (fun p hp => absurd hp (Nat.not_lt_zero _)) _ _ _ I (lv_sub hl [1, 2, 3, 0] rfl)
