section XPS
variable {p : Program} {l : Launch} {e : Env} {R : Room} {s : State} {m : MethodId} {args : Array Value} {below : List Frame} {meth : Method} {c : Code} {H : Heap} {locs : List Loc} {cells slots : Nat} {Q : State → Prop}
variable {cc : ByteArray} {nL pc : Nat} {ls : Array Slot} {rest : List Value} {D : va_G} {cy : Nat → ClassId} {A : Nat → Prop} {own : String}
variable {q : Nat → Nat} {K : Nat → Nat} {C : Nat → Nat → Int32} {O : Nat → Nat → Option Nat} {L : List Nat} {f : Nat → va_E}
/-- a field that the link names by a subclass -/
theorem rgPS {x : Cond} {Cn ref : String} {T : u_T} {N ci a idx : Nat} (k : Nat) {fs : List Value} {v : Value} (S : CallFix p m c cc nL s args (x :: uT) own) (hK : KX D cy s) (I : IX D A s.heap (wX cy q K C O L f) H locs) (hcl : ∀ w ∈ u_ws Cn T N, w ∈ uT) (hc : vwCl[ci]? = some (Cn, T, N)) (hw : Cond.fieldLink own idx ref (T k).2.1 (T k).2.2.1 ∈ uT) (hk : k < N) (hs : Cond.sameField ref (T k).1 (T k).2.1 (T k).2.2.1 ∈ uT)
    (ha : a ∈ L) (hf : f a = .inr (ci, fs)) (hv : fs[k]? = some v) (hdg : decode cc pc = .ok (.getfield idx, 3)) (kk : W p l e R s m args below meth c H locs cells slots Q (F0 m (pc + 3) ls (v :: rest))) : W p l e R s m args below meth c H locs cells slots Q (F0 m pc ls (.ref a :: rest)) := by
  obtain ⟨k0, h0⟩ := va_pl_get (X := wF cy q K C O) (f := f) ha
  rw [hf] at h0
  exact va_get (D := D) S.1 S.2.1 S.2.2.2.2 (fun w h => List.mem_cons_of_mem _ (hcl w h)) S.2.2.2.1 hK.1 I.1 k0 h0 hc k hk (S.2.2.2.2 _ (List.mem_cons_of_mem _ hw)) (u_same (S.2.2.2.2 _ (List.mem_cons_of_mem _ hs))) hv hdg kk
end XPS
/-- whether a hole of kind k stands, by its own fields, the version and the guard -/
def hSt (k : Nat) (lo hi aw v : Int32) (gb : Bool) : Bool := inB v lo hi && (decide (¬ k = 2 ∨ gb = false) && decide (¬ k = 4 ∨ ¬ aw = 0))
/-- whether one that stands opens, too -/
def hFr (k : Nat) (pa tp : Int32) (t st op tk : Nat) : Bool := decide (¬ k = 1) || (if tp = pa then op.testBit t else st.testBit t && tk.testBit tp.toNatClampNeg)
set_option maxHeartbeats 4000000 in
set_option maxRecDepth 100000 in
theorem x_isOfVersion (l : Launch) (D : va_G) (cy : Nat → ClassId) (q : Nat → Nat) (K : Nat → Nat) (C : Nat → Nat → Int32) (O : Nat → Nat → Option Nat) (L : List Nat) (f : Nat → va_E) (a k : Nat) (pa lo hi to tp aw v : Int32) (ha : a ∈ L) (hf : f a = hcell k pa lo hi to tp aw) : MS (α := Unit) l D cy yX2_isOfVersion cX2_isOfVersion 2 (Option.some FieldType.boolean) rm_X2_isOfVersion [.ref a, .int v] (wX cy q K C O L f) (fun v_ (_ : Unit) => v_ = some (.int (bI (inB v lo hi)))) (fun _ => wX cy q K C O L f) := by
  refine MS.mk2 (by decide) (Nat.le_of_ble_eq_true rfl) [(0, .ref a), (1, .int v)] rfl ?_
  intro p e s m args below meth c A ls Q hQ S hr hlk hnm hK hA I hl
  refine lv_aload_n S.1 S.2.1 dX2_isOfVersion_0 rfl (lv_at hl 0 rfl) ?_
  refine rgH 1 (by decide) S hK I wf_X2_13 ha hf rfl dX2_isOfVersion_1 ?_
  refine lv_iload_n S.1 S.2.1 dX2_isOfVersion_4 rfl (lv_at hl 1 rfl) ?_
  refine lv_icmp_gt (tgt := 20) S.1 S.2.1 dX2_isOfVersion_5 (by decide) (fun c_5 => ?_) (fun c_5 => ?_)
  · skip
    refine lv_iconst (v := nI 0) S.1 S.2.1 dX2_isOfVersion_20 (by decide) ?_
    exact ru_z hQ S hr hlk (by decide) (u := ()) I (congrArg (fun z => some (Value.int z)) (bI_0 (inB_a c_5))) dX2_isOfVersion_21
  · skip
    refine lv_iload_n S.1 S.2.1 dX2_isOfVersion_8 rfl (lv_at hl 1 rfl) ?_
    refine lv_aload_n S.1 S.2.1 dX2_isOfVersion_9 rfl (lv_at hl 0 rfl) ?_
    refine rgH 2 (by decide) S hK I wf_X2_16 ha hf rfl dX2_isOfVersion_10 ?_
    refine lv_icmp_gt (tgt := 20) S.1 S.2.1 dX2_isOfVersion_13 (by decide) (fun c_13 => ?_) (fun c_13 => ?_)
    · skip
      refine lv_iconst (v := nI 0) S.1 S.2.1 dX2_isOfVersion_20 (by decide) ?_
      exact ru_z hQ S hr hlk (by decide) (u := ()) I (congrArg (fun z => some (Value.int z)) (bI_0 (inB_b c_13))) dX2_isOfVersion_21
    · skip
      refine lv_iconst (v := nI 1) S.1 S.2.1 dX2_isOfVersion_16 (by decide) ?_
      refine lv_goto (tgt := 21) S.1 S.2.1 dX2_isOfVersion_17 (by decide) ?_
      exact ru_z hQ S hr hlk (by decide) (u := ()) I (congrArg (fun z => some (Value.int z)) (bI_1 (inB_1 c_5 c_13))) dX2_isOfVersion_21
set_option maxHeartbeats 4000000 in
set_option maxRecDepth 100000 in
theorem x_stands2 (l : Launch) (D : va_G) (cy : Nat → ClassId) (q : Nat → Nat) (K : Nat → Nat) (C : Nat → Nat → Int32) (O : Nat → Nat → Option Nat) (L : List Nat) (f : Nat → va_E) (a k : Nat) (pa lo hi to tp aw v : Int32) (gb : Bool) (ha : a ∈ L) (hf : f a = hcell k pa lo hi to tp aw) (hk : k = 0 ∨ k = 1) : MS (α := Unit) l D cy yX2_stands cX2_stands 3 (Option.some FieldType.boolean) rm_X2_stands [.ref a, .int v, .int (bI gb)] (wX cy q K C O L f) (fun v_ (_ : Unit) => v_ = some (.int (bI (hSt k lo hi aw v gb)))) (fun _ => wX cy q K C O L f) := by
  refine MS.mk2 (by decide) (Nat.le_of_ble_eq_true rfl) [(0, .ref a), (1, .int v), (2, .int (bI gb))] rfl ?_
  intro p e s m args below meth c A ls Q hQ S hr hlk hnm hK hA I hl
  refine lv_aload_n S.1 S.2.1 dX2_stands_0 rfl (lv_at hl 0 rfl) ?_
  refine lv_iload_n S.1 S.2.1 dX2_stands_1 rfl (lv_at hl 1 rfl) ?_
  rcases hk with rfl | rfl
  · skip
    refine cVP (np := 1) (ci := 2) (As := [.int v]) (rest := []) (fs := [.int pa, .int lo, .int hi]) S (x_isOfVersion l D cy q K C O L f a 0 pa lo hi to tp aw v ha hf) hK hA I wm_X2_19 wi_X2_isOfVersion ws_X2_X2_isOfVersion wn_X2 wk_X2_isOfVersion ⟨rfl, hd_X2_isOfVersion⟩ rfl ⟨by decide, by decide⟩ rfl ha hf hl.1 rfl (Nat.le_of_ble_eq_true rfl) dX2_stands_2 ⟨by decide, by decide⟩ (fun v_ u_ H locs h_ I => ?_)
    obtain rfl := h_
    have I : IX D A s.heap (wX cy q K C O L f) H locs := I
    refine W.eq (g2 := F0 m 5 ls [.int (bI (inB v lo hi))]) rfl ?_
    exact ru_z hQ S hr hlk (bI_01 _) (u := ()) I (congrArg (fun z => some (Value.int z)) (congrArg bI (by unfold hSt; simp))) dX2_stands_5
  · skip
    refine cU (np := 1) (ci := 0) (As := [.int v]) (rest := []) (fs := [.int pa, .int lo, .int hi, .int to, .int tp]) S (x_isOfVersion l D cy q K C O L f a 1 pa lo hi to tp aw v ha hf) hK hA I (va_cwU (C := RX0) (owner := RX2) (x := yX2_isOfVersion) 1 S.2.2.2.2 (gU wm_X2_19 wx_936 ws_X0_X2_isOfVersion wi_X2_isOfVersion wn_X2 wk_X2_isOfVersion) rfl rfl rfl rfl hd_X2_isOfVersion ⟨by decide, by decide⟩) rfl rfl ha hf hl.1 rfl (Nat.le_of_ble_eq_true rfl) dX2_stands_2 ⟨by decide, by decide⟩ (fun v_ u_ H locs h_ I => ?_)
    obtain rfl := h_
    have I : IX D A s.heap (wX cy q K C O L f) H locs := I
    refine W.eq (g2 := F0 m 5 ls [.int (bI (inB v lo hi))]) rfl ?_
    exact ru_z hQ S hr hlk (bI_01 _) (u := ()) I (congrArg (fun z => some (Value.int z)) (congrArg bI (by unfold hSt; simp))) dX2_stands_5
set_option maxHeartbeats 4000000 in
set_option maxRecDepth 100000 in
theorem x_stands8 (l : Launch) (D : va_G) (cy : Nat → ClassId) (q : Nat → Nat) (K : Nat → Nat) (C : Nat → Nat → Int32) (O : Nat → Nat → Option Nat) (L : List Nat) (f : Nat → va_E) (a k : Nat) (pa lo hi to tp aw v : Int32) (gb : Bool) (ha : a ∈ L) (hf : f a = hcell k pa lo hi to tp aw) (hk : k = 2) : MS (α := Unit) l D cy yX8_stands cX8_stands 3 (Option.some FieldType.boolean) rm_X8_stands [.ref a, .int v, .int (bI gb)] (wX cy q K C O L f) (fun v_ (_ : Unit) => v_ = some (.int (bI (hSt k lo hi aw v gb)))) (fun _ => wX cy q K C O L f) := by
  refine MS.mk2 (by decide) (Nat.le_of_ble_eq_true rfl) [(0, .ref a), (1, .int v), (2, .int (bI gb))] rfl ?_
  intro p e s m args below meth c A ls Q hQ S hr hlk hnm hK hA I hl
  subst hk
  refine lv_iload_n S.1 S.2.1 dX8_stands_0 rfl (lv_at hl 2 rfl) ?_
  refine lv_if_ne (tgt := 16) S.1 S.2.1 dX8_stands_1 (by decide) (fun c_1 => ?_) (fun c_1 => ?_)
  · skip
    have c_1 := bI_t c_1
    refine lv_iconst (v := nI 0) S.1 S.2.1 dX8_stands_16 (by decide) ?_
    exact ru_z hQ S hr hlk (by decide) (u := ()) I (congrArg (fun z => some (Value.int z)) (bI_0 (by unfold hSt; simp [c_1]))) dX8_stands_17
  · skip
    have c_1 := bI_f c_1
    refine lv_aload_n S.1 S.2.1 dX8_stands_4 rfl (lv_at hl 0 rfl) ?_
    refine lv_iload_n S.1 S.2.1 dX8_stands_5 rfl (lv_at hl 1 rfl) ?_
    refine cU (np := 1) (ci := 8) (As := [.int v]) (rest := []) (fs := [.int pa, .int lo, .int hi]) S (x_isOfVersion l D cy q K C O L f a 2 pa lo hi to tp aw v ha hf) hK hA I (va_cwU (C := RX8) (owner := RX2) (x := ⟨"MendDesk$Shielded", "isOfVersion", "(I)Z"⟩) 1 S.2.2.2.2 (gU wm_X8_7 wx_387 ws_X8_ShieldedisOfVersion wi_X2_isOfVersion wn_X2 wk_X2_isOfVersion) rfl rfl rfl rfl hd_X2_isOfVersion ⟨by decide, by decide⟩) rfl rfl ha hf hl.1 rfl (Nat.le_of_ble_eq_true rfl) dX8_stands_6 ⟨by decide, by decide⟩ (fun v_ u_ H locs h_ I => ?_)
    obtain rfl := h_
    have I : IX D A s.heap (wX cy q K C O L f) H locs := I
    refine W.eq (g2 := F0 m 9 ls [.int (bI (inB v lo hi))]) rfl ?_
    refine lv_if_eq (tgt := 16) S.1 S.2.1 dX8_stands_9 (by decide) (fun c_9 => ?_) (fun c_9 => ?_)
    · skip
      have c_9 := bI_f c_9
      refine lv_iconst (v := nI 0) S.1 S.2.1 dX8_stands_16 (by decide) ?_
      exact ru_z hQ S hr hlk (by decide) (u := ()) I (congrArg (fun z => some (Value.int z)) (bI_0 (by unfold hSt; simp [c_1, c_9]))) dX8_stands_17
    · skip
      have c_9 := bI_t c_9
      refine lv_iconst (v := nI 1) S.1 S.2.1 dX8_stands_12 (by decide) ?_
      refine lv_goto (tgt := 17) S.1 S.2.1 dX8_stands_13 (by decide) ?_
      exact ru_z hQ S hr hlk (by decide) (u := ()) I (congrArg (fun z => some (Value.int z)) (bI_1 (by unfold hSt; simp [c_1, c_9]))) dX8_stands_17
set_option maxHeartbeats 4000000 in
set_option maxRecDepth 100000 in
theorem x_stands10 (l : Launch) (D : va_G) (cy : Nat → ClassId) (q : Nat → Nat) (K : Nat → Nat) (C : Nat → Nat → Int32) (O : Nat → Nat → Option Nat) (L : List Nat) (f : Nat → va_E) (a k : Nat) (pa lo hi to tp aw v : Int32) (gb : Bool) (ha : a ∈ L) (hf : f a = hcell k pa lo hi to tp aw) (hk : k = 3) : MS (α := Unit) l D cy yX10_stands cX10_stands 3 (Option.some FieldType.boolean) rm_X10_stands [.ref a, .int v, .int (bI gb)] (wX cy q K C O L f) (fun v_ (_ : Unit) => v_ = some (.int (bI (hSt k lo hi aw v gb)))) (fun _ => wX cy q K C O L f) := by
  refine MS.mk2 (by decide) (Nat.le_of_ble_eq_true rfl) [(0, .ref a), (1, .int v), (2, .int (bI gb))] rfl ?_
  intro p e s m args below meth c A ls Q hQ S hr hlk hnm hK hA I hl
  subst hk
  refine lv_aload_n S.1 S.2.1 dX10_stands_0 rfl (lv_at hl 0 rfl) ?_
  refine lv_iload_n S.1 S.2.1 dX10_stands_1 rfl (lv_at hl 1 rfl) ?_
  refine cU (np := 1) (ci := 10) (As := [.int v]) (rest := []) (fs := [.int pa, .int lo, .int hi]) S (x_isOfVersion l D cy q K C O L f a 3 pa lo hi to tp aw v ha hf) hK hA I (va_cwU (C := RX10) (owner := RX2) (x := ⟨"MendDesk$Used", "isOfVersion", "(I)Z"⟩) 1 S.2.2.2.2 (gU wm_X10_7 wx_394 ws_X10_UsedisOfVersion wi_X2_isOfVersion wn_X2 wk_X2_isOfVersion) rfl rfl rfl rfl hd_X2_isOfVersion ⟨by decide, by decide⟩) rfl rfl ha hf hl.1 rfl (Nat.le_of_ble_eq_true rfl) dX10_stands_2 ⟨by decide, by decide⟩ (fun v_ u_ H locs h_ I => ?_)
  obtain rfl := h_
  have I : IX D A s.heap (wX cy q K C O L f) H locs := I
  refine W.eq (g2 := F0 m 5 ls [.int (bI (inB v lo hi))]) rfl ?_
  exact ru_z hQ S hr hlk (bI_01 _) (u := ()) I (congrArg (fun z => some (Value.int z)) (congrArg bI (by unfold hSt; simp))) dX10_stands_5
set_option maxHeartbeats 4000000 in
set_option maxRecDepth 100000 in
theorem x_stands1 (l : Launch) (D : va_G) (cy : Nat → ClassId) (q : Nat → Nat) (K : Nat → Nat) (C : Nat → Nat → Int32) (O : Nat → Nat → Option Nat) (L : List Nat) (f : Nat → va_E) (a k : Nat) (pa lo hi to tp aw v : Int32) (gb : Bool) (ha : a ∈ L) (hf : f a = hcell k pa lo hi to tp aw) (hk : k = 4) : MS (α := Unit) l D cy yX1_stands cX1_stands 3 (Option.some FieldType.boolean) rm_X1_stands [.ref a, .int v, .int (bI gb)] (wX cy q K C O L f) (fun v_ (_ : Unit) => v_ = some (.int (bI (hSt k lo hi aw v gb)))) (fun _ => wX cy q K C O L f) := by
  refine MS.mk2 (by decide) (Nat.le_of_ble_eq_true rfl) [(0, .ref a), (1, .int v), (2, .int (bI gb))] rfl ?_
  intro p e s m args below meth c A ls Q hQ S hr hlk hnm hK hA I hl
  subst hk
  refine lv_aload_n S.1 S.2.1 dX1_stands_0 rfl (lv_at hl 0 rfl) ?_
  refine rgP (ci := 1) (T := TX1) (fs := [.int pa, .int lo, .int hi, .int aw]) 3 S hK I cl_X1 rfl wf_X1_7 (by decide) rfl ha hf rfl dX1_stands_1 ?_
  refine lv_if_eq (tgt := 19) S.1 S.2.1 dX1_stands_4 (by decide) (fun c_4 => ?_) (fun c_4 => ?_)
  · skip
    refine lv_iconst (v := nI 0) S.1 S.2.1 dX1_stands_19 (by decide) ?_
    exact ru_z hQ S hr hlk (by decide) (u := ()) I (congrArg (fun z => some (Value.int z)) (bI_0 (by unfold hSt; simp [c_4]))) dX1_stands_20
  · skip
    refine lv_aload_n S.1 S.2.1 dX1_stands_7 rfl (lv_at hl 0 rfl) ?_
    refine lv_iload_n S.1 S.2.1 dX1_stands_8 rfl (lv_at hl 1 rfl) ?_
    refine cU (np := 1) (ci := 1) (As := [.int v]) (rest := []) (fs := [.int pa, .int lo, .int hi, .int aw]) S (x_isOfVersion l D cy q K C O L f a 4 pa lo hi to tp aw v ha hf) hK hA I (va_cwU (C := RX1) (owner := RX2) (x := ⟨"MendDesk$Dormant", "isOfVersion", "(I)Z"⟩) 1 S.2.2.2.2 (gU wm_X1_13 wx_378 ws_X1_DormantisOfVersion wi_X2_isOfVersion wn_X2 wk_X2_isOfVersion) rfl rfl rfl rfl hd_X2_isOfVersion ⟨by decide, by decide⟩) rfl rfl ha hf hl.1 rfl (Nat.le_of_ble_eq_true rfl) dX1_stands_9 ⟨by decide, by decide⟩ (fun v_ u_ H locs h_ I => ?_)
    obtain rfl := h_
    have I : IX D A s.heap (wX cy q K C O L f) H locs := I
    refine W.eq (g2 := F0 m 12 ls [.int (bI (inB v lo hi))]) rfl ?_
    refine lv_if_eq (tgt := 19) S.1 S.2.1 dX1_stands_12 (by decide) (fun c_12 => ?_) (fun c_12 => ?_)
    · skip
      have c_12 := bI_f c_12
      refine lv_iconst (v := nI 0) S.1 S.2.1 dX1_stands_19 (by decide) ?_
      exact ru_z hQ S hr hlk (by decide) (u := ()) I (congrArg (fun z => some (Value.int z)) (bI_0 (by unfold hSt; simp [c_4, c_12]))) dX1_stands_20
    · skip
      have c_12 := bI_t c_12
      refine lv_iconst (v := nI 1) S.1 S.2.1 dX1_stands_15 (by decide) ?_
      refine lv_goto (tgt := 20) S.1 S.2.1 dX1_stands_16 (by decide) ?_
      exact ru_z hQ S hr hlk (by decide) (u := ()) I (congrArg (fun z => some (Value.int z)) (bI_1 (by unfold hSt; simp [c_4, c_12]))) dX1_stands_20
set_option maxHeartbeats 4000000 in
set_option maxRecDepth 100000 in
theorem x_isFreed2 (l : Launch) (D : va_G) (cy : Nat → ClassId) (w0 : va_W) (a : Nat) (u1 u2 u3 : Int32) : MS (α := Unit) l D cy yX2_isFreed cX2_isFreed 4 (Option.some FieldType.boolean) rm_X2_isFreed [.ref a, .int u1, .int u2, .int u3] (w0) (fun v_ (_ : Unit) => v_ = some (.int (nI 1))) (fun _ => w0) := by
  refine MS.mk2 (by decide) (Nat.le_of_ble_eq_true rfl) [(0, .ref a), (1, .int u1), (2, .int u2), (3, .int u3)] rfl ?_
  intro p e s m args below meth c A ls Q hQ S hr hlk hnm hK hA I hl
  refine lv_iconst (v := nI 1) S.1 S.2.1 dX2_isFreed_0 (by decide) ?_
  exact ru_z hQ S hr hlk (by decide) (u := ()) I rfl dX2_isFreed_1
set_option maxHeartbeats 4000000 in
set_option maxRecDepth 100000 in
theorem x_kind2 (l : Launch) (D : va_G) (cy : Nat → ClassId) (w0 : va_W) (a : Nat) : MS (α := Unit) l D cy yX2_kind cX2_kind 1 (Option.some FieldType.int) rm_X2_kind [.ref a] (w0) (fun v_ (_ : Unit) => v_ = some (.int (nI 0))) (fun _ => w0) := by
  refine MS.mk2 (by decide) (Nat.le_of_ble_eq_true rfl) [(0, .ref a)] rfl ?_
  intro p e s m args below meth c A ls Q hQ S hr hlk hnm hK hA I hl
  refine lv_iconst (v := nI 0) S.1 S.2.1 dX2_kind_0 (by decide) ?_
  exact ru_i hQ S hr hlk (u := ()) I rfl dX2_kind_1
set_option maxHeartbeats 4000000 in
set_option maxRecDepth 100000 in
theorem x_kind0 (l : Launch) (D : va_G) (cy : Nat → ClassId) (w0 : va_W) (a : Nat) : MS (α := Unit) l D cy yX0_kind cX0_kind 1 (Option.some FieldType.int) rm_X0_kind [.ref a] (w0) (fun v_ (_ : Unit) => v_ = some (.int (nI 1))) (fun _ => w0) := by
  refine MS.mk2 (by decide) (Nat.le_of_ble_eq_true rfl) [(0, .ref a)] rfl ?_
  intro p e s m args below meth c A ls Q hQ S hr hlk hnm hK hA I hl
  refine lv_iconst (v := nI 1) S.1 S.2.1 dX0_kind_0 (by decide) ?_
  exact ru_i hQ S hr hlk (u := ()) I rfl dX0_kind_1
set_option maxHeartbeats 4000000 in
set_option maxRecDepth 100000 in
theorem x_kind8 (l : Launch) (D : va_G) (cy : Nat → ClassId) (w0 : va_W) (a : Nat) : MS (α := Unit) l D cy yX8_kind cX8_kind 1 (Option.some FieldType.int) rm_X8_kind [.ref a] (w0) (fun v_ (_ : Unit) => v_ = some (.int (nI 2))) (fun _ => w0) := by
  refine MS.mk2 (by decide) (Nat.le_of_ble_eq_true rfl) [(0, .ref a)] rfl ?_
  intro p e s m args below meth c A ls Q hQ S hr hlk hnm hK hA I hl
  refine lv_iconst (v := nI 2) S.1 S.2.1 dX8_kind_0 (by decide) ?_
  exact ru_i hQ S hr hlk (u := ()) I rfl dX8_kind_1
set_option maxHeartbeats 4000000 in
set_option maxRecDepth 100000 in
theorem x_kind10 (l : Launch) (D : va_G) (cy : Nat → ClassId) (w0 : va_W) (a : Nat) : MS (α := Unit) l D cy yX10_kind cX10_kind 1 (Option.some FieldType.int) rm_X10_kind [.ref a] (w0) (fun v_ (_ : Unit) => v_ = some (.int (nI 3))) (fun _ => w0) := by
  refine MS.mk2 (by decide) (Nat.le_of_ble_eq_true rfl) [(0, .ref a)] rfl ?_
  intro p e s m args below meth c A ls Q hQ S hr hlk hnm hK hA I hl
  refine lv_iconst (v := nI 3) S.1 S.2.1 dX10_kind_0 (by decide) ?_
  exact ru_i hQ S hr hlk (u := ()) I rfl dX10_kind_1
set_option maxHeartbeats 4000000 in
set_option maxRecDepth 100000 in
theorem x_kind1 (l : Launch) (D : va_G) (cy : Nat → ClassId) (w0 : va_W) (a : Nat) : MS (α := Unit) l D cy yX1_kind cX1_kind 1 (Option.some FieldType.int) rm_X1_kind [.ref a] (w0) (fun v_ (_ : Unit) => v_ = some (.int (nI 4))) (fun _ => w0) := by
  refine MS.mk2 (by decide) (Nat.le_of_ble_eq_true rfl) [(0, .ref a)] rfl ?_
  intro p e s m args below meth c A ls Q hQ S hr hlk hnm hK hA I hl
  refine lv_iconst (v := nI 4) S.1 S.2.1 dX1_kind_0 (by decide) ?_
  exact ru_i hQ S hr hlk (u := ()) I rfl dX1_kind_1
set_option maxHeartbeats 4000000 in
set_option maxRecDepth 100000 in
theorem x_isFreed0 (l : Launch) (D : va_G) (cy : Nat → ClassId) (q : Nat → Nat) (K : Nat → Nat) (C : Nat → Nat → Int32) (O : Nat → Nat → Option Nat) (L : List Nat) (f : Nat → va_E) (a t z st0 op tk : Nat) (pa lo hi aw : Int32) (ha : a ∈ L) (hf : f a = hcell 1 pa lo hi (nI t) (nI z) aw) (ht : t < 31) (hz : z < 31) : MS (α := Unit) l D cy yX0_isFreed cX0_isFreed 4 (Option.some FieldType.boolean) rm_X0_isFreed [.ref a, .int (nI st0), .int (nI op), .int (nI tk)] (wX cy q K C O L f) (fun v_ (_ : Unit) => v_ = some (.int (bI (hFr 1 pa (nI z) t st0 op tk)))) (fun _ => wX cy q K C O L f) := by
  refine MS.mk2 (by decide) (Nat.le_of_ble_eq_true rfl) [(0, .ref a), (1, .int (nI st0)), (2, .int (nI op)), (3, .int (nI tk))] rfl ?_
  intro p e s m args below meth c A ls Q hQ S hr hlk hnm hK hA I hl
  refine lv_aload_n S.1 S.2.1 dX0_isFreed_0 rfl (lv_at hl 0 rfl) ?_
  refine rgP (ci := 0) (T := TX0) (fs := [.int pa, .int lo, .int hi, .int (nI t), .int (nI z)]) 4 S hK I cl_X0 rfl wf_X0_13 (by decide) rfl ha hf rfl dX0_isFreed_1 ?_
  refine lv_aload_n S.1 S.2.1 dX0_isFreed_4 rfl (lv_at hl 0 rfl) ?_
  refine rgPS (ci := 0) (T := TX0) (fs := [.int pa, .int lo, .int hi, .int (nI t), .int (nI z)]) 0 S hK I cl_X0 rfl wf_X0_16 (by decide) wx_257 ha hf rfl dX0_isFreed_5 ?_
  refine lv_icmp_ne (tgt := 20) S.1 S.2.1 dX0_isFreed_8 (by decide) (fun c_8 => ?_) (fun c_8 => ?_)
  · skip
    refine lv_iload_n S.1 S.2.1 dX0_isFreed_20 rfl (lv_at hl 1 rfl) ?_
    refine lv_aload_n S.1 S.2.1 dX0_isFreed_21 rfl (lv_at hl 0 rfl) ?_
    refine rgP (ci := 0) (T := TX0) (fs := [.int pa, .int lo, .int hi, .int (nI t), .int (nI z)]) 3 S hK I cl_X0 rfl wf_X0_7 (by decide) rfl ha hf rfl dX0_isFreed_22 ?_
    refine cN (np := 2) (As := [.int (nI st0), .int (nI t)]) (rest := []) S (x_isIn l D cy (wX cy q K C O L f) st0 t (by omega)) hK hA I (by decide +kernel) wt_X11_isIn wn_X11 wk_X11_isIn hd_X11_isIn rfl ⟨by decide, by decide⟩ hl.1 rfl (Nat.le_of_ble_eq_true rfl) dX0_isFreed_25 ⟨by decide, by decide⟩ (fun v_ u_ H locs h_ I => ?_)
    obtain rfl := h_
    have I : IX D A s.heap (wX cy q K C O L f) H locs := I
    refine W.eq (g2 := F0 m 28 ls [.int (bI (st0.testBit t))]) rfl ?_
    refine lv_if_eq (tgt := 46) S.1 S.2.1 dX0_isFreed_28 (by decide) (fun c_28 => ?_) (fun c_28 => ?_)
    · skip
      have c_28 := bI_f c_28
      refine lv_iconst (v := nI 0) S.1 S.2.1 dX0_isFreed_46 (by decide) ?_
      exact ru_z hQ S hr hlk (by decide) (u := ()) I (congrArg (fun z => some (Value.int z)) (bI_0 (by rw [hFr, if_neg c_8, nI_clamp (by omega)]; simp [c_28]))) dX0_isFreed_47
    · skip
      have c_28 := bI_t c_28
      refine lv_iload_n S.1 S.2.1 dX0_isFreed_31 rfl (lv_at hl 3 rfl) ?_
      refine lv_aload_n S.1 S.2.1 dX0_isFreed_32 rfl (lv_at hl 0 rfl) ?_
      refine rgP (ci := 0) (T := TX0) (fs := [.int pa, .int lo, .int hi, .int (nI t), .int (nI z)]) 4 S hK I cl_X0 rfl wf_X0_13 (by decide) rfl ha hf rfl dX0_isFreed_33 ?_
      refine cN (np := 2) (As := [.int (nI tk), .int (nI z)]) (rest := []) S (x_isIn l D cy (wX cy q K C O L f) tk z (by omega)) hK hA I (by decide +kernel) wt_X11_isIn wn_X11 wk_X11_isIn hd_X11_isIn rfl ⟨by decide, by decide⟩ hl.1 rfl (Nat.le_of_ble_eq_true rfl) dX0_isFreed_36 ⟨by decide, by decide⟩ (fun v_ u_ H locs h_ I => ?_)
      obtain rfl := h_
      have I : IX D A s.heap (wX cy q K C O L f) H locs := I
      refine W.eq (g2 := F0 m 39 ls [.int (bI (tk.testBit z))]) rfl ?_
      refine lv_if_eq (tgt := 46) S.1 S.2.1 dX0_isFreed_39 (by decide) (fun c_39 => ?_) (fun c_39 => ?_)
      · skip
        have c_39 := bI_f c_39
        refine lv_iconst (v := nI 0) S.1 S.2.1 dX0_isFreed_46 (by decide) ?_
        exact ru_z hQ S hr hlk (by decide) (u := ()) I (congrArg (fun z => some (Value.int z)) (bI_0 (by rw [hFr, if_neg c_8, nI_clamp (by omega)]; simp [c_28, c_39]))) dX0_isFreed_47
      · skip
        have c_39 := bI_t c_39
        refine lv_iconst (v := nI 1) S.1 S.2.1 dX0_isFreed_42 (by decide) ?_
        refine lv_goto (tgt := 47) S.1 S.2.1 dX0_isFreed_43 (by decide) ?_
        exact ru_z hQ S hr hlk (by decide) (u := ()) I (congrArg (fun z => some (Value.int z)) (bI_1 (by rw [hFr, if_neg c_8, nI_clamp (by omega)]; simp [c_28, c_39]))) dX0_isFreed_47
  · skip
    refine lv_iload_n S.1 S.2.1 dX0_isFreed_11 rfl (lv_at hl 2 rfl) ?_
    refine lv_aload_n S.1 S.2.1 dX0_isFreed_12 rfl (lv_at hl 0 rfl) ?_
    refine rgP (ci := 0) (T := TX0) (fs := [.int pa, .int lo, .int hi, .int (nI t), .int (nI z)]) 3 S hK I cl_X0 rfl wf_X0_7 (by decide) rfl ha hf rfl dX0_isFreed_13 ?_
    refine cN (np := 2) (As := [.int (nI op), .int (nI t)]) (rest := []) S (x_isIn l D cy (wX cy q K C O L f) op t (by omega)) hK hA I (by decide +kernel) wt_X11_isIn wn_X11 wk_X11_isIn hd_X11_isIn rfl ⟨by decide, by decide⟩ hl.1 rfl (Nat.le_of_ble_eq_true rfl) dX0_isFreed_16 ⟨by decide, by decide⟩ (fun v_ u_ H locs h_ I => ?_)
    obtain rfl := h_
    have I : IX D A s.heap (wX cy q K C O L f) H locs := I
    refine W.eq (g2 := F0 m 19 ls [.int (bI (op.testBit t))]) rfl ?_
    exact ru_z hQ S hr hlk (bI_01 _) (u := ()) I (congrArg (fun z => some (Value.int z)) (congrArg bI (by rw [hFr, if_pos c_8]; rfl))) dX0_isFreed_19
section XH
variable {α : Type} {p : Program} {l : Launch} {e : Env} {R : Room} {s : State} {m : MethodId} {args : Array Value} {below : List Frame} {meth : Method} {c : Code} {H : Heap} {locs : List Loc} {cells slots mc ms : Nat} {Q : State → Prop}
variable {cc : ByteArray} {nL pc : Nat} {ls : Array Slot} {rest st : List Value} {D : va_G} {cy : Nat → ClassId} {A : Nat → Prop} {own : String}
variable {q : Nat → Nat} {K : Nat → Nat} {C : Nat → Nat → Int32} {O : Nat → Nat → Option Nat} {L : List Nat} {f : Nat → va_E}
theorem hk5 {k : Nat} (h : k ≤ 4) : k = 0 ∨ k = 1 ∨ k = 2 ∨ k = 3 ∨ k = 4 := by omega
/-- hole.stands(version, guarded), whatever its kind -/
theorem cST {x : Cond} {a idx k : Nat} {pa lo hi to tp aw v : Int32} {gb : Bool} (S : CallFix p m c cc nL s args (x :: uT) own) (hK : KX D cy s) (hA : ∀ q, s.heap.size ≤ q → A q) (I : IX D A s.heap (wX cy q K C O L f) H locs) (hw : Cond.methodLink own idx yX2_stands ∈ uT) (hk : k ≤ 4) (ha : a ∈ L) (hf : f a = hcell k pa lo hi to tp aw) (hR : 2 ≤ R.frames ∧ 43 ≤ R.locals) (hff : cells ≤ R.cells ∧ slots ≤ R.slots) (hsize : ls.size = nL) (hW : (rest.map fun v => v.category).sum ≤ 8) (hdg : decode cc pc = .ok (.invokevirtual idx, 3))
    (kk : ∀ (H1 : Heap) (locs1 : List Loc), IX D A s.heap (wX cy q K C O L f) H1 locs1 → W p l e R s m args below meth c H1 locs1 cells slots Q (F0 m (pc + 3) ls (.int (bI (hSt k lo hi aw v gb)) :: rest))) : W p l e R s m args below meth c H locs cells slots Q (F0 m pc ls (.int (bI gb) :: .int v :: .ref a :: rest)) := by
  rcases hk5 hk with rfl | rfl | rfl | rfl | rfl
  · refine cVP (np := 2) (ci := 2) (As := [.int v, .int (bI gb)]) (rest := rest) (fs := [.int pa, .int lo, .int hi]) S (x_stands2 l D cy q K C O L f a 0 pa lo hi to tp aw v gb ha hf (Or.inl rfl)) hK hA I hw wi_X2_stands ws_X2_X2_stands wn_X2 wk_X2_stands ⟨rfl, hd_X2_stands⟩ rfl ⟨Nat.le_trans (by decide) hR.1, Nat.le_trans (by decide) hR.2⟩ rfl ha hf hsize rfl hW hdg hff (fun v_ u_ H1 locs1 h_ I1 => ?_)
    subst h_
    exact kk H1 locs1 I1
  · refine cU (np := 2) (ci := 0) (As := [.int v, .int (bI gb)]) (rest := rest) (fs := [.int pa, .int lo, .int hi, .int to, .int tp]) S (x_stands2 l D cy q K C O L f a 1 pa lo hi to tp aw v gb ha hf (Or.inr rfl)) hK hA I (va_cwU (C := RX0) (owner := RX2) (x := yX2_stands) 2 S.2.2.2.2 (gU hw wx_372 ws_X0_X2_stands wi_X2_stands wn_X2 wk_X2_stands) rfl rfl rfl rfl hd_X2_stands ⟨Nat.le_trans (by decide) hR.1, Nat.le_trans (by decide) hR.2⟩) rfl rfl ha hf hsize rfl hW hdg hff (fun v_ u_ H1 locs1 h_ I1 => ?_)
    subst h_
    exact kk H1 locs1 I1
  · refine cU (np := 2) (ci := 8) (As := [.int v, .int (bI gb)]) (rest := rest) (fs := [.int pa, .int lo, .int hi]) S (x_stands8 l D cy q K C O L f a 2 pa lo hi to tp aw v gb ha hf rfl) hK hA I (va_cwO (C := RX8) (owner := RX2) (x := yX2_stands) 2 S.2.2.2.2 (gO hw wx_372 wi_X2_stands ws_X8_X2_stands wi_X8_stands wn_X8 wk_X8_stands) rfl rfl rfl (List.mem_cons_of_mem _ wk_X2_stands) hd_X2_stands ⟨Nat.le_trans (by decide) hR.1, Nat.le_trans (by decide) hR.2⟩) rfl rfl ha hf hsize rfl hW hdg hff (fun v_ u_ H1 locs1 h_ I1 => ?_)
    subst h_
    exact kk H1 locs1 I1
  · refine cU (np := 2) (ci := 10) (As := [.int v, .int (bI gb)]) (rest := rest) (fs := [.int pa, .int lo, .int hi]) S (x_stands10 l D cy q K C O L f a 3 pa lo hi to tp aw v gb ha hf rfl) hK hA I (va_cwO (C := RX10) (owner := RX2) (x := yX2_stands) 2 S.2.2.2.2 (gO hw wx_372 wi_X2_stands ws_X10_X2_stands wi_X10_stands wn_X10 wk_X10_stands) rfl rfl rfl (List.mem_cons_of_mem _ wk_X2_stands) hd_X2_stands ⟨Nat.le_trans (by decide) hR.1, Nat.le_trans (by decide) hR.2⟩) rfl rfl ha hf hsize rfl hW hdg hff (fun v_ u_ H1 locs1 h_ I1 => ?_)
    subst h_
    exact kk H1 locs1 I1
  · refine cU (np := 2) (ci := 1) (As := [.int v, .int (bI gb)]) (rest := rest) (fs := [.int pa, .int lo, .int hi, .int aw]) S (x_stands1 l D cy q K C O L f a 4 pa lo hi to tp aw v gb ha hf rfl) hK hA I (va_cwO (C := RX1) (owner := RX2) (x := yX2_stands) 2 S.2.2.2.2 (gO hw wx_372 wi_X2_stands ws_X1_X2_stands wi_X1_stands wn_X1 wk_X1_stands) rfl rfl rfl (List.mem_cons_of_mem _ wk_X2_stands) hd_X2_stands ⟨Nat.le_trans (by decide) hR.1, Nat.le_trans (by decide) hR.2⟩) rfl rfl ha hf hsize rfl hW hdg hff (fun v_ u_ H1 locs1 h_ I1 => ?_)
    subst h_
    exact kk H1 locs1 I1
/-- hole.isFreed(standing, opening, taken), whatever its kind -/
theorem cFR {x : Cond} {a idx k : Nat} {pa lo hi tp aw : Int32} {t st0 op tk : Nat} (S : CallFix p m c cc nL s args (x :: uT) own) (hK : KX D cy s) (hA : ∀ q, s.heap.size ≤ q → A q) (I : IX D A s.heap (wX cy q K C O L f) H locs) (hw : Cond.methodLink own idx yX2_isFreed ∈ uT) (hk : k ≤ 4) (ha : a ∈ L) (hf : f a = hcell k pa lo hi (nI t) tp aw) (ht : k = 1 → t < 31 ∧ ∃ z, z < 31 ∧ tp = nI z) (hR : 2 ≤ R.frames ∧ 44 ≤ R.locals) (hff : cells ≤ R.cells ∧ slots ≤ R.slots) (hsize : ls.size = nL) (hW : (rest.map fun v => v.category).sum ≤ 8) (hdg : decode cc pc = .ok (.invokevirtual idx, 3))
    (kk : ∀ (H1 : Heap) (locs1 : List Loc), IX D A s.heap (wX cy q K C O L f) H1 locs1 → W p l e R s m args below meth c H1 locs1 cells slots Q (F0 m (pc + 3) ls (.int (bI (hFr k pa tp t st0 op tk)) :: rest))) : W p l e R s m args below meth c H locs cells slots Q (F0 m pc ls (.int (nI tk) :: .int (nI op) :: .int (nI st0) :: .ref a :: rest)) := by
  have one : ∀ j : Nat, ¬ j = 1 → (nI 1 : Int32) = bI (hFr j pa tp t st0 op tk) := fun j hj => by unfold hFr; rw [decide_eq_true hj]; rfl
  rcases hk5 hk with rfl | rfl | rfl | rfl | rfl
  · refine cVP (np := 3) (ci := 2) (As := [.int (nI st0), .int (nI op), .int (nI tk)]) (rest := rest) (fs := [.int pa, .int lo, .int hi]) S (x_isFreed2 l D cy (wX cy q K C O L f) a (nI st0) (nI op) (nI tk)) hK hA I hw wi_X2_isFreed ws_X2_X2_isFreed wn_X2 wk_X2_isFreed ⟨rfl, hd_X2_isFreed⟩ rfl ⟨Nat.le_trans (by decide) hR.1, Nat.le_trans (by decide) hR.2⟩ rfl ha hf hsize rfl hW hdg hff (fun v_ u_ H1 locs1 h_ I1 => ?_)
    subst h_
    have h9 := kk H1 locs1 I1
    rw [← one 0 (by decide)] at h9
    exact h9
  · obtain ⟨ht1, z, hz, rfl⟩ := ht rfl
    refine cU (np := 3) (ci := 0) (As := [.int (nI st0), .int (nI op), .int (nI tk)]) (rest := rest) (fs := [.int pa, .int lo, .int hi, .int (nI t), .int (nI z)]) S (x_isFreed0 l D cy q K C O L f a t z st0 op tk pa lo hi aw ha hf ht1 hz) hK hA I (va_cwO (C := RX0) (owner := RX2) (x := yX2_isFreed) 3 S.2.2.2.2 (gO hw wx_426 wi_X2_isFreed ws_X0_X2_isFreed wi_X0_isFreed wn_X0 wk_X0_isFreed) rfl rfl rfl (List.mem_cons_of_mem _ wk_X2_isFreed) hd_X2_isFreed ⟨Nat.le_trans (by decide) hR.1, Nat.le_trans (by decide) hR.2⟩) rfl rfl ha hf hsize rfl hW hdg hff (fun v_ u_ H1 locs1 h_ I1 => ?_)
    subst h_
    exact kk H1 locs1 I1
  · refine cU (np := 3) (ci := 8) (As := [.int (nI st0), .int (nI op), .int (nI tk)]) (rest := rest) (fs := [.int pa, .int lo, .int hi]) S (x_isFreed2 l D cy (wX cy q K C O L f) a (nI st0) (nI op) (nI tk)) hK hA I (va_cwU (C := RX8) (owner := RX2) (x := yX2_isFreed) 3 S.2.2.2.2 (gU hw wx_426 ws_X8_X2_isFreed wi_X2_isFreed wn_X2 wk_X2_isFreed) rfl rfl rfl rfl hd_X2_isFreed ⟨Nat.le_trans (by decide) hR.1, Nat.le_trans (by decide) hR.2⟩) rfl rfl ha hf hsize rfl hW hdg hff (fun v_ u_ H1 locs1 h_ I1 => ?_)
    subst h_
    have h9 := kk H1 locs1 I1
    rw [← one 2 (by decide)] at h9
    exact h9
  · refine cU (np := 3) (ci := 10) (As := [.int (nI st0), .int (nI op), .int (nI tk)]) (rest := rest) (fs := [.int pa, .int lo, .int hi]) S (x_isFreed2 l D cy (wX cy q K C O L f) a (nI st0) (nI op) (nI tk)) hK hA I (va_cwU (C := RX10) (owner := RX2) (x := yX2_isFreed) 3 S.2.2.2.2 (gU hw wx_426 ws_X10_X2_isFreed wi_X2_isFreed wn_X2 wk_X2_isFreed) rfl rfl rfl rfl hd_X2_isFreed ⟨Nat.le_trans (by decide) hR.1, Nat.le_trans (by decide) hR.2⟩) rfl rfl ha hf hsize rfl hW hdg hff (fun v_ u_ H1 locs1 h_ I1 => ?_)
    subst h_
    have h9 := kk H1 locs1 I1
    rw [← one 3 (by decide)] at h9
    exact h9
  · refine cU (np := 3) (ci := 1) (As := [.int (nI st0), .int (nI op), .int (nI tk)]) (rest := rest) (fs := [.int pa, .int lo, .int hi, .int aw]) S (x_isFreed2 l D cy (wX cy q K C O L f) a (nI st0) (nI op) (nI tk)) hK hA I (va_cwU (C := RX1) (owner := RX2) (x := yX2_isFreed) 3 S.2.2.2.2 (gU hw wx_426 ws_X1_X2_isFreed wi_X2_isFreed wn_X2 wk_X2_isFreed) rfl rfl rfl rfl hd_X2_isFreed ⟨Nat.le_trans (by decide) hR.1, Nat.le_trans (by decide) hR.2⟩) rfl rfl ha hf hsize rfl hW hdg hff (fun v_ u_ H1 locs1 h_ I1 => ?_)
    subst h_
    have h9 := kk H1 locs1 I1
    rw [← one 4 (by decide)] at h9
    exact h9
end XH
