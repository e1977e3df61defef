def us32 (x n : Int32) : Int32 := (x.toUInt32 >>> (n.toUInt32 &&& Int32.toUInt32 31)).toInt32
def bc1 (x : Int32) : Int32 := x - (us32 x (nI 1) &&& 1431655765)
def bc2 (x : Int32) : Int32 := (x &&& 858993459) + (us32 x (nI 2) &&& 858993459)
def bc3 (x : Int32) : Int32 := (x + us32 x (nI 4)) &&& 252645135
def bc4 (x : Int32) : Int32 := x + us32 x (nI 8)
def bc5 (x : Int32) : Int32 := x + us32 x (nI 16)
def bcA (x : Int32) : Int32 := bc5 (bc4 (bc3 (bc2 (bc1 x)))) &&& nI 63
set_option maxRecDepth 100000 in
theorem bc_ok : ∀ a, a < 64 → ∀ b, b < 64 → bcA (nI (64 * a + b)) = nI (fb_ct (fun i => (64 * a + b).testBit i) 12) := by decide +kernel
theorem bc_eq {M : Nat} (h : M < 4096) : bcA (nI M) = nI (fb_ct (fun i => M.testBit i) 12) := by
  have h1 := bc_ok (M / 64) (by omega) (M % 64) (by omega)
  rw [Nat.div_add_mod] at h1
  exact h1
theorem bc_all {M : Nat} {a b c d e : Int32} (h : M < 4096) (h1 : a = bc1 (nI M)) (h2 : b = bc2 a) (h3 : c = bc3 b) (h4 : d = bc4 c) (h5 : e = bc5 d) : e &&& nI 63 = nI (fb_ct (fun i => M.testBit i) 12) := by
  rw [h5, h4, h3, h2, h1]
  exact bc_eq h
theorem pow_4096 {n : Nat} (h : n ≤ 12) : 2 ^ n ≤ 4096 := show 2 ^ n ≤ 2 ^ 12 from Nat.pow_le_pow_right (by decide) h
theorem ct_msk {b : Nat → Bool} {n : Nat} (h : n ≤ 12) : fb_ct (fun i => (msk b n).testBit i) 12 = fb_ct b n := by
  obtain ⟨j, hj⟩ : ∃ j, 12 = n + j := ⟨12 - n, by omega⟩
  have z : fb_ct (fun k => (msk b n).testBit (n + k)) j = 0 := fb_ct_zero.mpr (fun k _ => by rw [msk_bit, show decide (n + k < n) = false from decide_eq_false (by omega), Bool.false_and])
  rw [hj, fb_ct_split, z, Nat.add_zero]
  exact fb_ct_cong (fun k hk => by rw [msk_bit, decide_eq_true hk, Bool.true_and])
section XP4
variable {α : Type} {p : Program} {l : Launch} {e : Env} {R : Room} {s : State} {m : MethodId} {args : Array Value} {below : List Frame} {meth : Method} {c : Code} {H : Heap} {locs : List Loc} {cells slots mc ms : Nat} {Q : State → Prop}
variable {cc : ByteArray} {nL pc : Nat} {ls : Array Slot} {rest st : List Value} {D : va_G} {cy : Nat → ClassId} {A : Nat → Prop} {own : String} {post : Option Value → α → Prop} {w1 : α → va_W}
theorem gJ {x : Cond} {own : String} {idx : Nat} {y : MethodName} {b : ByteArray} {n : Nat} {r : Option FieldType} (h1 : Cond.methodLink own idx y ∈ uT) (h2 : Cond.static y ∈ uT) (h4 : Cond.initialized y.cls ∈ uT) (h5 : Cond.code y b n r ∈ uT) : GoodIn (x :: uT) (va_wsS own idx y (wsu y b n r)) := by
  intro w hw
  have : w ∈ uT := by
    simp only [va_wsS, List.cons_append, List.nil_append, List.mem_cons] at hw
    rcases hw with rfl | rfl | rfl | rfl | hw <;> assumption
  exact uT_GI w this
/-- a static method of another class -/
theorem cJ {x : Cond} {y : MethodName} {b : ByteArray} {n idx np : Nat} {r : Option FieldType} {rm : Room} {As : List Value} {w0 : va_W} (S : CallFix p m c cc nL s args (x :: uT) own) (hM : MS l D cy y b n r rm As w0 post w1) (hK : KX D cy s) (hA : ∀ q, s.heap.size ≤ q → A q) (I : IX D A s.heap w0 H locs)
    (h1 : Cond.methodLink own idx y ∈ uT) (h2 : Cond.static y ∈ uT) (h4 : Cond.initialized y.cls ∈ uT) (h5 : Cond.code y b n r ∈ uT) (hd : y.cls ≠ "java/lang/invoke/MethodHandle" ∧ y.cls ≠ "java/lang/invoke/VarHandle" ∧ (parseMethodDescriptor y.desc).map (fun d => d.parameters.length) = some np) (hn : As.length = np) (hR : rm.frames + 1 ≤ R.frames ∧ 8 + (n + 11) + rm.locals ≤ R.locals)
    (hsize : ls.size = nL) (hst : st = As.reverse ++ rest) (hW : (rest.map fun v => v.category).sum ≤ 8) (hdg : decode cc pc = .ok (.invokestatic idx, 3)) (hf : cells + rm.cells ≤ R.cells ∧ slots + rm.slots ≤ R.slots)
    (kk : ∀ (v : Option Value) (u : α) (H1 : Heap) (locs1 : List Loc), post v u → IX D A s.heap (w1 u) H1 locs1 → W p l e R s m args below meth c H1 locs1 (cells + rm.cells) (slots + rm.slots) Q (F0 m (pc + 3) ls (v.toList ++ rest))) : W p l e R s m args below meth c H locs cells slots Q (F0 m pc ls st) :=
  va_callS (va_runS (As := As) (rest := rest) S (hM H.size) (va_cwS np S.2.2.2.2 (gJ h1 h2 h4 h5) rfl rfl rfl hd hR) ⟨FB, PX hK I _⟩ rfl hn hsize hst (lv_room hW) hdg hf) hA I kk
end XP4
/-- a part is added -/
def sp_ap (N : Nat → Nat) (R : Nat → Nat → Int32) (v w o : Int32) : Int32 × SR := if N 0 = 8 then (-3, N, R) else (nI (N 0), va_up N 0 (N 0 + 1), va_up (va_up (va_up R 1 (upd (R 1) (N 0) v)) 2 (upd (R 2) (N 0) w)) 3 (upd (R 3) (N 0) o))
theorem bI_nz (o : Bool) : decide (¬ bI o = 0) = o := by cases o <;> rfl
theorem upd_cg {f g : Nat → Int32} {i n : Nat} {v : Int32} (h : ∀ p, p < n → f p = g p) : ∀ p, p < n → upd f i v p = upd g i v p := by
  intro p hp
  by_cases e : p = i
  · rw [e, pk_us, pk_us]
  · rw [pk_un e, pk_un e]; exact h p hp
section REL4
variable {K K2 : Nat → Nat} {C C2 : Nat → Nat → Int32} {O : Nat → Nat → Option Nat} {L : List Nat} {f : Nat → va_E} {N : Nat → Nat} {R : Nat → Nat → Int32}
theorem bit_upd {k i : Nat} {b : Bool} {r : Nat → Int32} (h : ∀ p, p < 8 → k.testBit p = decide (¬ r p = 0)) : ∀ p, p < 8 → (wmF k i b).testBit p = decide (¬ upd r i (bI b) p = 0) := by
  intro p hp
  rw [wmF_bit]
  by_cases e : p = i
  · rw [if_pos e, e, pk_us, bI_nz]
  · rw [if_neg e, pk_un e]; exact h p hp
theorem part_rel {v w : Int32} {o : Bool} (h : RelC K C O L f N R) (h0 : N 0 < 8) (e0 : K2 0 = N 0 + 1) (e2 : K2 2 = wmF (K 2) (N 0) o) (c5 : C2 5 = upd (C 5) (N 0) v) (c6 : C2 6 = upd (C 6) (N 0) w) (e1 : K2 1 = K 1 := by rfl) (e3 : K2 3 = K 3 := by rfl) (e7 : K2 7 = K 7 := by rfl) (e8 : K2 8 = K 8 := by rfl) (e9 : K2 9 = K 9 := by rfl) (e10 : K2 10 = K 10 := by rfl) (c7 : C2 7 = C 7 := by rfl) (c20 : C2 20 = C 20 := by rfl) : RelC K2 C2 O L f (va_up N 0 (N 0 + 1)) (va_up (va_up (va_up R 1 (upd (R 1) (N 0) v)) 2 (upd (R 2) (N 0) w)) 3 (upd (R 3) (N 0) (bI o))) := by
  obtain ⟨h1, h2, h3, h4, h5⟩ := h
  refine ⟨⟨e0, e1.trans h1.2.1, ?_, ?_, ?_, h1.2.2.2.2.2⟩, ⟨?_, ?_, ?_, ?_⟩, RelM_cg (N := va_up N 0 (N 0 + 1)) (R := va_up (va_up (va_up R 1 (upd (R 1) (N 0) v)) 2 (upd (R 2) (N 0) w)) 3 (upd (R 3) (N 0) (bI o))) (K := K) h3 e7 e8, ?_, h5⟩
  · rw [c6]; exact upd_cg h1.2.2.1
  · rw [e2]; exact bit_upd h1.2.2.2.1
  · unfold lk; rw [c7]; exact h1.2.2.2.2.1
  · rw [c5]; exact upd_cg h2.1
  · rw [e3]; exact h2.2.1
  · rw [e3]; exact h2.2.2.1
  · rw [e2]; exact wmF_lt (k := 8) h2.2.2.2 h0
  · unfold RelP; rw [e9, e10, c20]; exact h4
theorem link_rel {i j : Nat} {o : Bool} (h : RelC K C O L f N R) (hi : i < 8) (hj : j < 8) (c7 : C2 7 = upd (C 7) j (nI (wmF (lk C j) i o))) (e0 : K2 0 = K 0 := by rfl) (e1 : K2 1 = K 1 := by rfl) (e2 : K2 2 = K 2 := by rfl) (e3 : K2 3 = K 3 := by rfl) (e7 : K2 7 = K 7 := by rfl) (e8 : K2 8 = K 8 := by rfl) (e9 : K2 9 = K 9 := by rfl) (e10 : K2 10 = K 10 := by rfl) (c5 : C2 5 = C 5 := by rfl) (c6 : C2 6 = C 6 := by rfl) (c20 : C2 20 = C 20 := by rfl) : RelC K2 C2 O L f N (va_up R 5 (upd (R 5) (8 * i + j) (bI o))) := by
  obtain ⟨h1, h2, h3, h4, h5⟩ := h
  refine ⟨⟨e0.trans h1.1, e1.trans h1.2.1, ?_, ?_, ?_, h1.2.2.2.2.2⟩, RelG_cg (R := va_up R 5 (upd (R 5) (8 * i + j) (bI o))) (C := C) (K := K) h2 e2 e3 c5, RelM_cg (R := va_up R 5 (upd (R 5) (8 * i + j) (bI o))) (K := K) h3 e7 e8, ?_, h5⟩
  · rw [c6]; exact h1.2.2.1
  · rw [e2]; exact h1.2.2.2.1
  · intro t ht
    have h9 := h1.2.2.2.2.1
    unfold lk
    rw [c7]
    by_cases e : t = j
    · subst e
      have hw : wmF (lk C t) i o < 256 := wmF_lt (k := 8) (h9 t ht).2.1 hi
      rw [pk_us, nI_clamp (by omega)]
      refine ⟨rfl, hw, fun z hz => ?_⟩
      show _ = decide (¬ upd (R 5) (8 * i + t) (bI o) (8 * z + t) = 0)
      rw [wmF_bit]
      by_cases ez : z = i
      · rw [if_pos ez, ez, pk_us, bI_nz]
      · rw [if_neg ez, pk_un (by omega)]; exact (h9 t ht).2.2 z hz
    · rw [pk_un e]
      refine ⟨(h9 t ht).1, (h9 t ht).2.1, fun z hz => ?_⟩
      show _ = decide (¬ upd (R 5) (8 * i + j) (bI o) (8 * z + t) = 0)
      rw [pk_un (by omega)]; exact (h9 t ht).2.2 z hz
  · unfold RelP; rw [e9, e10, c20]; exact h4
theorem guard_rel {j : Nat} {o : Bool} (h : RelC K C O L f N R) (hj : j < 8) (e3 : K2 3 = wmF (K 3) j o) (e0 : K2 0 = K 0 := by rfl) (e1 : K2 1 = K 1 := by rfl) (e2 : K2 2 = K 2 := by rfl) (e7 : K2 7 = K 7 := by rfl) (e8 : K2 8 = K 8 := by rfl) (e9 : K2 9 = K 9 := by rfl) (e10 : K2 10 = K 10 := by rfl) : RelC K2 C O L f N (va_up R 4 (upd (R 4) j (bI o))) := by
  obtain ⟨h1, h2, h3, h4, h5⟩ := h
  refine ⟨RelN_cg (R := va_up R 4 (upd (R 4) j (bI o))) (C := C) (K := K) h1 e0 e1 e2 rfl rfl, ⟨h2.1, ?_, ?_, ?_⟩, RelM_cg (R := va_up R 4 (upd (R 4) j (bI o))) (K := K) h3 e7 e8, ?_, h5⟩
  · rw [e3]; exact bit_upd h2.2.1
  · rw [e3]; exact wmF_lt (k := 8) h2.2.2.1 hj
  · rw [e2]; exact h2.2.2.2
  · unfold RelP; rw [e9, e10]; exact h4
theorem version_rel {j : Nat} {v : Int32} (h : RelC K C O L f N R) (c5 : C2 5 = upd (C 5) j v) (c6 : C2 6 = C 6 := by rfl) (c7 : C2 7 = C 7 := by rfl) (c20 : C2 20 = C 20 := by rfl) : RelC K C2 O L f N (va_up R 1 (upd (R 1) j v)) := by
  obtain ⟨h1, h2, h3, h4, h5⟩ := h
  refine ⟨RelN_cg (R := va_up R 1 (upd (R 1) j v)) (C := C) (K := K) h1 rfl rfl rfl c6 c7, ⟨?_, h2.2⟩, h3, ?_, h5⟩
  · rw [c5]; exact upd_cg h2.1
  · unfold RelP; rw [c20]; exact h4
end REL4
set_option maxHeartbeats 4000000 in
set_option maxRecDepth 100000 in
theorem x_bitCount (l : Launch) (D : va_G) (cy : Nat → ClassId) (w0 : va_W) (M : Nat) (hM : M < 4096) : MS (α := Unit) l D cy yJ6_bitCount_0f7a4 cJ6_bitCount_0f7a4 1 (Option.some FieldType.int) rm_J6_bitCount_0f7a4 [.int (nI M)] (w0) (fun v_ (_ : Unit) => v_ = some (.int (nI (fb_ct (fun i => M.testBit i) 12)))) (fun _ => w0) := by
  refine MS.mk2 (by decide) (Nat.le_of_ble_eq_true rfl) [(0, .int (nI M))] rfl ?_
  intro p e s m args below meth c A ls Q hQ S hr hlk hnm hK hA I hl
  refine lv_iload_n S.1 S.2.1 dJ6_bitCount_0f7a4_0 rfl (lv_at hl 0 rfl) ?_
  refine lv_iload_n S.1 S.2.1 dJ6_bitCount_0f7a4_1 rfl (lv_at hl 0 rfl) ?_
  refine lv_iconst (v := nI 1) S.1 S.2.1 dJ6_bitCount_0f7a4_2 (by decide) ?_
  refine lv_iushr (v := ((nI M).toUInt32 >>> ((nI 1).toUInt32 &&& Int32.toUInt32 31)).toInt32) S.1 S.2.1 dJ6_bitCount_0f7a4_3 rfl ?_
  refine lv_ldcw (v := 1431655765) S.1 S.2.1 S.2.2.2.1 (S.2.2.2.2 _ (List.mem_cons_of_mem _ wx_655)) dJ6_bitCount_0f7a4_4 ?_
  refine lv_iand S.1 S.2.1 dJ6_bitCount_0f7a4_7 ?_
  refine lv_isub S.1 S.2.1 dJ6_bitCount_0f7a4_8 ?_
  refine lv_topi (fun x0_9 ex0_9 => ?_)
  refine lv_istore_n (lv' := [(0, .int x0_9)]) S.1 S.2.1 dJ6_bitCount_0f7a4_9 rfl hl (by decide) rfl (fun ls hl => ?_)
  refine lv_iload_n S.1 S.2.1 dJ6_bitCount_0f7a4_10 rfl (lv_at hl 0 rfl) ?_
  refine lv_ldcw (v := 858993459) S.1 S.2.1 S.2.2.2.1 (S.2.2.2.2 _ (List.mem_cons_of_mem _ wx_656)) dJ6_bitCount_0f7a4_11 ?_
  refine lv_iand S.1 S.2.1 dJ6_bitCount_0f7a4_14 ?_
  refine lv_iload_n S.1 S.2.1 dJ6_bitCount_0f7a4_15 rfl (lv_at hl 0 rfl) ?_
  refine lv_iconst (v := nI 2) S.1 S.2.1 dJ6_bitCount_0f7a4_16 (by decide) ?_
  refine lv_iushr (v := (x0_9.toUInt32 >>> ((nI 2).toUInt32 &&& Int32.toUInt32 31)).toInt32) S.1 S.2.1 dJ6_bitCount_0f7a4_17 rfl ?_
  refine lv_ldcw (v := 858993459) S.1 S.2.1 S.2.2.2.1 (S.2.2.2.2 _ (List.mem_cons_of_mem _ wx_656)) dJ6_bitCount_0f7a4_18 ?_
  refine lv_iand S.1 S.2.1 dJ6_bitCount_0f7a4_21 ?_
  refine lv_iadd S.1 S.2.1 dJ6_bitCount_0f7a4_22 ?_
  refine lv_topi (fun x0_23 ex0_23 => ?_)
  refine lv_istore_n (lv' := [(0, .int x0_23)]) S.1 S.2.1 dJ6_bitCount_0f7a4_23 rfl hl (by decide) rfl (fun ls hl => ?_)
  refine lv_iload_n S.1 S.2.1 dJ6_bitCount_0f7a4_24 rfl (lv_at hl 0 rfl) ?_
  refine lv_iload_n S.1 S.2.1 dJ6_bitCount_0f7a4_25 rfl (lv_at hl 0 rfl) ?_
  refine lv_iconst (v := nI 4) S.1 S.2.1 dJ6_bitCount_0f7a4_26 (by decide) ?_
  refine lv_iushr (v := (x0_23.toUInt32 >>> ((nI 4).toUInt32 &&& Int32.toUInt32 31)).toInt32) S.1 S.2.1 dJ6_bitCount_0f7a4_27 rfl ?_
  refine lv_iadd S.1 S.2.1 dJ6_bitCount_0f7a4_28 ?_
  refine lv_ldcw (v := 252645135) S.1 S.2.1 S.2.2.2.1 (S.2.2.2.2 _ (List.mem_cons_of_mem _ wx_657)) dJ6_bitCount_0f7a4_29 ?_
  refine lv_iand S.1 S.2.1 dJ6_bitCount_0f7a4_32 ?_
  refine lv_topi (fun x0_33 ex0_33 => ?_)
  refine lv_istore_n (lv' := [(0, .int x0_33)]) S.1 S.2.1 dJ6_bitCount_0f7a4_33 rfl hl (by decide) rfl (fun ls hl => ?_)
  refine lv_iload_n S.1 S.2.1 dJ6_bitCount_0f7a4_34 rfl (lv_at hl 0 rfl) ?_
  refine lv_iload_n S.1 S.2.1 dJ6_bitCount_0f7a4_35 rfl (lv_at hl 0 rfl) ?_
  refine lv_bipush (v := nI 8) S.1 S.2.1 dJ6_bitCount_0f7a4_36 (by decide) ?_
  refine lv_iushr (v := (x0_33.toUInt32 >>> ((nI 8).toUInt32 &&& Int32.toUInt32 31)).toInt32) S.1 S.2.1 dJ6_bitCount_0f7a4_38 rfl ?_
  refine lv_iadd S.1 S.2.1 dJ6_bitCount_0f7a4_39 ?_
  refine lv_topi (fun x0_40 ex0_40 => ?_)
  refine lv_istore_n (lv' := [(0, .int x0_40)]) S.1 S.2.1 dJ6_bitCount_0f7a4_40 rfl hl (by decide) rfl (fun ls hl => ?_)
  refine lv_iload_n S.1 S.2.1 dJ6_bitCount_0f7a4_41 rfl (lv_at hl 0 rfl) ?_
  refine lv_iload_n S.1 S.2.1 dJ6_bitCount_0f7a4_42 rfl (lv_at hl 0 rfl) ?_
  refine lv_bipush (v := nI 16) S.1 S.2.1 dJ6_bitCount_0f7a4_43 (by decide) ?_
  refine lv_iushr (v := (x0_40.toUInt32 >>> ((nI 16).toUInt32 &&& Int32.toUInt32 31)).toInt32) S.1 S.2.1 dJ6_bitCount_0f7a4_45 rfl ?_
  refine lv_iadd S.1 S.2.1 dJ6_bitCount_0f7a4_46 ?_
  refine lv_topi (fun x0_47 ex0_47 => ?_)
  refine lv_istore_n (lv' := [(0, .int x0_47)]) S.1 S.2.1 dJ6_bitCount_0f7a4_47 rfl hl (by decide) rfl (fun ls hl => ?_)
  refine lv_iload_n S.1 S.2.1 dJ6_bitCount_0f7a4_48 rfl (lv_at hl 0 rfl) ?_
  refine lv_bipush (v := nI 63) S.1 S.2.1 dJ6_bitCount_0f7a4_49 (by decide) ?_
  refine lv_iand S.1 S.2.1 dJ6_bitCount_0f7a4_51 ?_
  exact ru_i hQ S hr hlk (u := ()) I (congrArg (fun z => some (Value.int z)) (bc_all hM ex0_9 ex0_23 ex0_33 ex0_40 ex0_47)) dJ6_bitCount_0f7a4_52
set_option maxHeartbeats 4000000 in
set_option maxRecDepth 100000 in
theorem x_addPart (l : Launch) (D : va_G) (cy : Nat → ClassId) (q : Nat → Nat) (K : Nat → Nat) (C : Nat → Nat → Int32) (O : Nat → Nat → Option Nat) (L : List Nat) (f : Nat → va_E) (N : Nat → Nat) (R : Nat → Nat → Int32) (v w : Int32) (o : Bool) (hW : WFm N R) (hrc : RelC K C O L f N R) : MS (α := (Nat → Nat) × (Nat → Nat → Int32) × (Nat → Nat → Option Nat) × List Nat × (Nat → va_E)) l D cy yX5_addPart cX5_addPart 4 (Option.some FieldType.int) rm_X5_addPart [.ref (q 1), .int v, .int w, .int (bI o)] (wX cy q K C O L f) (fun v_ u_ => v_ = some (.int (sp_ap N R v w (bI o)).1) ∧ RelC u_.1 u_.2.1 u_.2.2.1 u_.2.2.2.1 u_.2.2.2.2 (sp_ap N R v w (bI o)).2.1 (sp_ap N R v w (bI o)).2.2) (fun u_ => wX cy q u_.1 u_.2.1 u_.2.2.1 u_.2.2.2.1 u_.2.2.2.2) := by
  refine MS.mk2 (by decide) (Nat.le_of_ble_eq_true rfl) [(0, .ref (q 1)), (1, .int v), (2, .int w), (3, .int (bI o))] rfl ?_
  intro p e s m args below meth c A ls Q hQ S hr hlk hnm hK hA I hl
  have hW0 := hW
  obtain ⟨hB, hPt, hBo, hH, hM, hQu⟩ := hW0
  have hB0 := hB
  obtain ⟨b0, b6, b17, b24, b30⟩ := hB0
  have hrc0 := hrc
  obtain ⟨hrel, hrg, hrm, hrp, hinj⟩ := hrc0
  have hrel0 := hrel
  obtain ⟨k0, k1, hC6, hK2, hC7, hHol⟩ := hrel0
  have hrm0 := hrm
  obtain ⟨k7, k8, hMe, hQe⟩ := hrm0
  have hrg0 := hrg
  obtain ⟨hC5, hG, hG3, hG2⟩ := hrg0
  have hp2 := pow_256 b17
  obtain ⟨k9, hC20, hK10, hC31⟩ := hrp
  have hgC : ∀ p, p < N 0 → C 5 p = R 1 p := fun p hp => hC5 p (by omega)
  refine lv_aload_n S.1 S.2.1 dX5_addPart_0 rfl (lv_at hl 0 rfl) ?_
  refine rg (ci := 5) (q0 := 1) (v := .int (nI (K 0))) 4 S hK I cl_X5 rfl wf_X5_27 (by decide) rfl rfl rfl dX5_addPart_1 ?_
  refine lv_bipush (v := nI 8) S.1 S.2.1 dX5_addPart_4 (by decide) ?_
  refine lv_icmp_lt (tgt := 12) S.1 S.2.1 dX5_addPart_6 (by decide) (fun c_6 => ?_) (fun c_6 => ?_)
  · skip
    have c_6o := c_6
    have c_6 := nI_cltT (by omega) (by omega) c_6
    refine lv_aload_n S.1 S.2.1 dX5_addPart_12 rfl (lv_at hl 0 rfl) ?_
    refine rg (ci := 5) (q0 := 1) (v := .ref (q 5)) 0 S hK I cl_X5 rfl wf_X5_9 (by decide) rfl rfl rfl dX5_addPart_13 ?_
    refine lv_aload_n S.1 S.2.1 dX5_addPart_16 rfl (lv_at hl 0 rfl) ?_
    refine rg (ci := 5) (q0 := 1) (v := .int (nI (K 0))) 4 S hK I cl_X5 rfl wf_X5_27 (by decide) rfl rfl rfl dX5_addPart_17 ?_
    refine lv_iload_n S.1 S.2.1 dX5_addPart_20 rfl (lv_at hl 1 rfl) ?_
    refine si (q0 := 5) (n := 8) (f := C 5) (K 0) S hK I rfl rfl (by omega) (by decide) dX5_addPart_21 (fun H locs I => ?_)
    have I : IX D A s.heap (wX cy q K (va_up C 5 (upd (C 5) (K 0) v)) O L f) H locs := I
    refine lv_aload_n S.1 S.2.1 dX5_addPart_22 rfl (lv_at hl 0 rfl) ?_
    refine rg (ci := 5) (q0 := 1) (v := .ref (q 6)) 1 S hK I cl_X5 rfl wf_X5_15 (by decide) rfl rfl rfl dX5_addPart_23 ?_
    refine lv_aload_n S.1 S.2.1 dX5_addPart_26 rfl (lv_at hl 0 rfl) ?_
    refine rg (ci := 5) (q0 := 1) (v := .int (nI (K 0))) 4 S hK I cl_X5 rfl wf_X5_27 (by decide) rfl rfl rfl dX5_addPart_27 ?_
    refine lv_iload_n S.1 S.2.1 dX5_addPart_30 rfl (lv_at hl 2 rfl) ?_
    refine si (q0 := 6) (n := 8) (f := C 6) (K 0) S hK I rfl rfl (by omega) (by decide) dX5_addPart_31 (fun H locs I => ?_)
    have I : IX D A s.heap (wX cy q K (va_up (va_up C 5 (upd (C 5) (K 0) v)) 6 (upd (C 6) (K 0) w)) O L f) H locs := I
    refine lv_aload_n S.1 S.2.1 dX5_addPart_32 rfl (lv_at hl 0 rfl) ?_
    refine lv_aload_n S.1 S.2.1 dX5_addPart_33 rfl (lv_at hl 0 rfl) ?_
    refine rg (ci := 5) (q0 := 1) (v := .int (nI (K 2))) 6 S hK I cl_X5 rfl wf_X5_34 (by decide) rfl rfl rfl dX5_addPart_34 ?_
    refine lv_aload_n S.1 S.2.1 dX5_addPart_37 rfl (lv_at hl 0 rfl) ?_
    refine rg (ci := 5) (q0 := 1) (v := .int (nI (K 0))) 4 S hK I cl_X5 rfl wf_X5_27 (by decide) rfl rfl rfl dX5_addPart_38 ?_
    refine lv_iload_n S.1 S.2.1 dX5_addPart_41 rfl (lv_at hl 3 rfl) ?_
    refine cN (np := 3) (As := [.int (nI (K 2)), .int (nI (K 0)), .int (bI o)]) (rest := [.ref (q 1)]) S (x_withMember l D cy (wX cy q K (va_up (va_up C 5 (upd (C 5) (K 0) v)) 6 (upd (C 6) (K 0) w)) O L f) (K 2) (K 0) o (by omega)) hK hA I (by decide +kernel) wt_X11_withMember wn_X11 wk_X11_withMember hd_X11_withMember rfl ⟨by decide, by decide⟩ hl.1 rfl (Nat.le_of_ble_eq_true rfl) dX5_addPart_42 ⟨by decide, by decide⟩ (fun v_ u_ H locs h_ I => ?_)
    obtain rfl := h_
    have I : IX D A s.heap (wX cy q K (va_up (va_up C 5 (upd (C 5) (K 0) v)) 6 (upd (C 6) (K 0) w)) O L f) H locs := I
    refine W.eq (g2 := F0 m 45 ls [.int (nI (wmF (K 2) (K 0) o)), .ref (q 1)]) rfl ?_
    refine rp (ci := 5) (q0 := 1) (v := .int (nI (wmF (K 2) (K 0) o))) (ty := .int) 6 S hK I cl_X5 rfl wf_X5_34 (by decide) rfl tyX5_ok nmX5 rfl (by decide +kernel) rfl rfl (by exact Nat.le_of_ble_eq_true rfl) rfl dX5_addPart_45 (fun H locs I => ?_)
    have I : IX D A s.heap (wX cy q (va_up K 2 (wmF (K 2) (K 0) o)) (va_up (va_up C 5 (upd (C 5) (K 0) v)) 6 (upd (C 6) (K 0) w)) O L f) H locs := I
    refine lv_aload_n S.1 S.2.1 dX5_addPart_48 rfl (lv_at hl 0 rfl) ?_
    refine lv_dup S.1 S.2.1 dX5_addPart_49 rfl ?_
    refine rg (ci := 5) (q0 := 1) (v := .int (nI (K 0))) 4 S hK I cl_X5 rfl wf_X5_27 (by decide) rfl rfl rfl dX5_addPart_50 ?_
    refine lv_dup_x1 S.1 S.2.1 dX5_addPart_53 rfl rfl ?_
    refine lv_iconst (v := nI 1) S.1 S.2.1 dX5_addPart_54 (by decide) ?_
    refine lv_iadd S.1 S.2.1 dX5_addPart_55 ?_
    refine tI (y := nI ((K 0) + 1)) (nI_add _ _) ?_
    refine rp (ci := 5) (q0 := 1) (v := .int (nI ((K 0) + 1))) (ty := .int) 4 S hK I cl_X5 rfl wf_X5_27 (by decide) rfl tyX5_ok nmX5 rfl (by decide +kernel) rfl rfl (by exact Nat.le_of_ble_eq_true rfl) rfl dX5_addPart_56 (fun H locs I => ?_)
    have I : IX D A s.heap (wX cy q (va_up (va_up K 0 ((K 0) + 1)) 2 (wmF (K 2) (K 0) o)) (va_up (va_up C 5 (upd (C 5) (K 0) v)) 6 (upd (C 6) (K 0) w)) O L f) H locs := I
    exact ru_i hQ S hr hlk (u := ((va_up (va_up K 0 ((K 0) + 1)) 2 (wmF (K 2) (K 0) o)), (va_up (va_up C 5 (upd (C 5) (K 0) v)) 6 (upd (C 6) (K 0) w)), O, L, f)) I (by rw [sp_ap, if_neg (by omega)]; exact ⟨congrArg (fun z => some (Value.int (nI z))) k0, part_rel hrc (by omega) (by rw [← k0]; rfl) (by rw [← k0]; rfl) (by rw [← k0]; rfl) (by rw [← k0]; rfl)⟩) dX5_addPart_59
  · skip
    have c_6o := c_6
    have c_6 := nI_cltF (by omega) (by omega) c_6
    refine lv_bipush (v := (-3)) S.1 S.2.1 dX5_addPart_9 (by decide) ?_
    exact ru_i hQ S hr hlk (u := (K, C, O, L, f)) I (by rw [sp_ap, if_pos (by omega)]; exact ⟨rfl, hrc⟩) dX5_addPart_11
set_option maxHeartbeats 4000000 in
set_option maxRecDepth 100000 in
theorem x_part (l : Launch) (D : va_G) (cy : Nat → ClassId) (q : Nat → Nat) (K : Nat → Nat) (C : Nat → Nat → Int32) (O : Nat → Nat → Option Nat) (L : List Nat) (f : Nat → va_E) (N : Nat → Nat) (R : Nat → Nat → Int32) (v : Int32) (w : Int32) (o : Bool) (hW : WFm N R) (hrc : RelC K C O L f N R) : MS (α := (Nat → Nat) × (Nat → Nat → Int32) × (Nat → Nat → Option Nat) × List Nat × (Nat → va_E)) l D cy yX11_part cX11_part 4 (Option.some FieldType.int) rm_X11_part [.ref (q 0), .int v, .int w, .int (bI o)] (wX cy q K C O L f) (fun v_ u_ => v_ = some (.int (sp_part N R v w (bI o)).1) ∧ RelC u_.1 u_.2.1 u_.2.2.1 u_.2.2.2.1 u_.2.2.2.2 (sp_part N R v w (bI o)).2.1 (sp_part N R v w (bI o)).2.2) (fun u_ => wX cy q u_.1 u_.2.1 u_.2.2.1 u_.2.2.2.1 u_.2.2.2.2) := by
  refine MS.mk2 (by decide) (Nat.le_of_ble_eq_true rfl) [(0, .ref (q 0)), (1, .int v), (2, .int w), (3, .int (bI o))] rfl ?_
  intro p e s m args below meth c A ls Q hQ S hr hlk hnm hK hA I hl
  have hW0 := hW
  obtain ⟨hB, hPt, hBo, hH, hM, hQu⟩ := hW0
  have hB0 := hB
  obtain ⟨b0, b6, b17, b24, b30⟩ := hB0
  have hrc0 := hrc
  obtain ⟨hrel, hrg, hrm, hrp, hinj⟩ := hrc0
  have hrel0 := hrel
  obtain ⟨k0, k1, hC6, hK2, hC7, hHol⟩ := hrel0
  have hrm0 := hrm
  obtain ⟨k7, k8, hMe, hQe⟩ := hrm0
  have hrg0 := hrg
  obtain ⟨hC5, hG, hG3, hG2⟩ := hrg0
  have hp2 := pow_256 b17
  obtain ⟨k9, hC20, hK10, hC31⟩ := hrp
  have hgC : ∀ p, p < N 0 → C 5 p = R 1 p := fun p hp => hC5 p (by omega)
  refine lv_iload_n S.1 S.2.1 dX11_part_0 rfl (lv_at hl 1 rfl) ?_
  refine cS (np := 1) (As := [.int v]) (rest := []) S (x_isVersion l D cy (wX cy q K C O L f) v) hK hA I wm_X11_43 wt_X11_isVersion wn_X11 wk_X11_isVersion ⟨rfl, hd_X11_isVersion⟩ rfl ⟨by decide, by decide⟩ hl.1 rfl (Nat.le_of_ble_eq_true rfl) dX11_part_1 ⟨by decide, by decide⟩ (fun v_ u_ H locs h_ I => ?_)
  obtain rfl := h_
  have I : IX D A s.heap (wX cy q K C O L f) H locs := I
  refine W.eq (g2 := F0 m 4 ls [.int (bI (isV v))]) rfl ?_
  refine lv_if_eq (tgt := 18) S.1 S.2.1 dX11_part_4 (by decide) (fun c_4 => ?_) (fun c_4 => ?_)
  · skip
    have c_4 := bI_f c_4
    refine lv_iconst (v := (-1)) S.1 S.2.1 dX11_part_18 (by decide) ?_
    exact ru_i hQ S hr hlk (u := (K, C, O, L, f)) I (by rw [sp_part, if_neg (by simp [c_4])]; exact ⟨rfl, hrc⟩) dX11_part_19
  · skip
    have c_4 := bI_t c_4
    refine lv_iload_n S.1 S.2.1 dX11_part_7 rfl (lv_at hl 2 rfl) ?_
    refine lv_iconst (v := nI 0) S.1 S.2.1 dX11_part_8 (by decide) ?_
    refine lv_sipush (v := nI 1000) S.1 S.2.1 dX11_part_9 (by decide) ?_
    refine cS (np := 3) (As := [.int w, .int (nI 0), .int (nI 1000)]) (rest := []) S (x_isBetween l D cy (wX cy q K C O L f) w (nI 0) (nI 1000)) hK hA I wm_X11_47 wt_X11_isBetween wn_X11 wk_X11_isBetween ⟨rfl, hd_X11_isBetween⟩ rfl ⟨by decide, by decide⟩ hl.1 rfl (Nat.le_of_ble_eq_true rfl) dX11_part_12 ⟨by decide, by decide⟩ (fun v_ u_ H locs h_ I => ?_)
    obtain rfl := h_
    have I : IX D A s.heap (wX cy q K C O L f) H locs := I
    refine W.eq (g2 := F0 m 15 ls [.int (bI (inB w (nI 0) (nI 1000)))]) rfl ?_
    refine lv_if_ne (tgt := 20) S.1 S.2.1 dX11_part_15 (by decide) (fun c_15 => ?_) (fun c_15 => ?_)
    · skip
      have c_15 := bI_t c_15
      refine lv_aload_n S.1 S.2.1 dX11_part_20 rfl (lv_at hl 0 rfl) ?_
      refine rg (ci := 11) (q0 := 0) (v := .ref (q 1)) 0 S hK I cl_X11 rfl wf_X11_12 (by decide) rfl rfl rfl dX11_part_21 ?_
      refine lv_iload_n S.1 S.2.1 dX11_part_24 rfl (lv_at hl 1 rfl) ?_
      refine lv_iload_n S.1 S.2.1 dX11_part_25 rfl (lv_at hl 2 rfl) ?_
      refine lv_iload_n S.1 S.2.1 dX11_part_26 rfl (lv_at hl 3 rfl) ?_
      refine cV (np := 3) (ci := 5) (q0 := 1) (As := [.int v, .int w, .int (bI o)]) (rest := []) S (x_addPart l D cy q K C O L f N R v w o hW hrc) hK hA I wm_X11_51 wi_X5_addPart ws_X5_X5_addPart wn_X5 wk_X5_addPart ⟨rfl, hd_X5_addPart⟩ rfl ⟨by decide, by decide⟩ rfl rfl hl.1 rfl (Nat.le_of_ble_eq_true rfl) dX11_part_27 ⟨by decide, by decide⟩ (fun v_ u_ H locs h_ I => ?_)
      obtain ⟨rfl, hrc_27⟩ := h_
      obtain ⟨K_27, C_27, O_27, L_27, f_27⟩ := u_
      have I : IX D A s.heap (wX cy q K_27 C_27 O_27 L_27 f_27) H locs := I
      refine W.eq (g2 := F0 m 30 ls [.int ((sp_ap N R v w (bI o)).1)]) rfl ?_
      exact ru_i hQ S hr hlk (u := (K_27, C_27, O_27, L_27, f_27)) I (by rw [sp_part, if_pos ⟨c_4, c_15⟩]; exact ⟨rfl, hrc_27⟩) dX11_part_30
    · skip
      have c_15 := bI_f c_15
      refine lv_iconst (v := (-1)) S.1 S.2.1 dX11_part_18 (by decide) ?_
      exact ru_i hQ S hr hlk (u := (K, C, O, L, f)) I (by rw [sp_part, if_neg (by simp [c_4, c_15])]; exact ⟨rfl, hrc⟩) dX11_part_19
set_option maxHeartbeats 4000000 in
set_option maxRecDepth 100000 in
theorem x_link (l : Launch) (D : va_G) (cy : Nat → ClassId) (q : Nat → Nat) (K : Nat → Nat) (C : Nat → Nat → Int32) (O : Nat → Nat → Option Nat) (L : List Nat) (f : Nat → va_E) (N : Nat → Nat) (R : Nat → Nat → Int32) (x : Int32) (y : Int32) (o : Bool) (hW : WFm N R) (hrc : RelC K C O L f N R) : MS (α := (Nat → Nat) × (Nat → Nat → Int32) × (Nat → Nat → Option Nat) × List Nat × (Nat → va_E)) l D cy yX11_link cX11_link 5 (Option.some FieldType.int) rm_X11_link [.ref (q 0), .int x, .int y, .int (bI o)] (wX cy q K C O L f) (fun v_ u_ => v_ = some (.int (sp_link N R x y (bI o)).1) ∧ RelC u_.1 u_.2.1 u_.2.2.1 u_.2.2.2.1 u_.2.2.2.2 (sp_link N R x y (bI o)).2.1 (sp_link N R x y (bI o)).2.2) (fun u_ => wX cy q u_.1 u_.2.1 u_.2.2.1 u_.2.2.2.1 u_.2.2.2.2) := by
  refine MS.mk2 (by decide) (Nat.le_of_ble_eq_true rfl) [(0, .ref (q 0)), (1, .int x), (2, .int y), (3, .int (bI o))] rfl ?_
  intro p e s m args below meth c A ls Q hQ S hr hlk hnm hK hA I hl
  have hW0 := hW
  obtain ⟨hB, hPt, hBo, hH, hM, hQu⟩ := hW0
  have hB0 := hB
  obtain ⟨b0, b6, b17, b24, b30⟩ := hB0
  have hrc0 := hrc
  obtain ⟨hrel, hrg, hrm, hrp, hinj⟩ := hrc0
  have hrel0 := hrel
  obtain ⟨k0, k1, hC6, hK2, hC7, hHol⟩ := hrel0
  have hrm0 := hrm
  obtain ⟨k7, k8, hMe, hQe⟩ := hrm0
  have hrg0 := hrg
  obtain ⟨hC5, hG, hG3, hG2⟩ := hrg0
  have hp2 := pow_256 b17
  obtain ⟨k9, hC20, hK10, hC31⟩ := hrp
  have hgC : ∀ p, p < N 0 → C 5 p = R 1 p := fun p hp => hC5 p (by omega)
  refine lv_aload_n S.1 S.2.1 dX11_link_0 rfl (lv_at hl 0 rfl) ?_
  refine rg (ci := 11) (q0 := 0) (v := .ref (q 1)) 0 S hK I cl_X11 rfl wf_X11_12 (by decide) rfl rfl rfl dX11_link_1 ?_
  refine lv_iload_n S.1 S.2.1 dX11_link_4 rfl (lv_at hl 1 rfl) ?_
  refine cV (np := 1) (ci := 5) (q0 := 1) (As := [.int x]) (rest := []) S (x_hasPart l D cy q K C O L f x (by omega)) hK hA I wm_X11_55 wi_X5_hasPart ws_X5_X5_hasPart wn_X5 wk_X5_hasPart ⟨rfl, hd_X5_hasPart⟩ rfl ⟨by decide, by decide⟩ rfl rfl hl.1 rfl (Nat.le_of_ble_eq_true rfl) dX11_link_5 ⟨by decide, by decide⟩ (fun v_ u_ H locs h_ I => ?_)
  obtain rfl := h_
  have I : IX D A s.heap (wX cy q K C O L f) H locs := I
  refine W.eq (g2 := F0 m 8 ls [.int (bI (isP (K 0) x))]) rfl ?_
  refine lv_if_eq (tgt := 27) S.1 S.2.1 dX11_link_8 (by decide) (fun c_8 => ?_) (fun c_8 => ?_)
  · skip
    have c_8 := bI_f c_8
    rw [k0] at c_8
    refine lv_iconst (v := (-1)) S.1 S.2.1 dX11_link_27 (by decide) ?_
    exact ru_i hQ S hr hlk (u := (K, C, O, L, f)) I (by rw [sp_link, if_neg (by simp [c_8])]; exact ⟨rfl, hrc⟩) dX11_link_28
  · skip
    have c_8 := bI_t c_8
    rw [k0] at c_8
    obtain ⟨i, h_i, rfl⟩ := isP_of c_8 (by omega)
    have e_i : (nI i).toNatClampNeg = i := nI_clamp (by omega)
    refine lv_aload_n S.1 S.2.1 dX11_link_11 rfl (lv_at hl 0 rfl) ?_
    refine rg (ci := 11) (q0 := 0) (v := .ref (q 1)) 0 S hK I cl_X11 rfl wf_X11_12 (by decide) rfl rfl rfl dX11_link_12 ?_
    refine lv_iload_n S.1 S.2.1 dX11_link_15 rfl (lv_at hl 2 rfl) ?_
    refine cV (np := 1) (ci := 5) (q0 := 1) (As := [.int y]) (rest := []) S (x_hasPart l D cy q K C O L f y (by omega)) hK hA I wm_X11_55 wi_X5_hasPart ws_X5_X5_hasPart wn_X5 wk_X5_hasPart ⟨rfl, hd_X5_hasPart⟩ rfl ⟨by decide, by decide⟩ rfl rfl hl.1 rfl (Nat.le_of_ble_eq_true rfl) dX11_link_16 ⟨by decide, by decide⟩ (fun v_ u_ H locs h_ I => ?_)
    obtain rfl := h_
    have I : IX D A s.heap (wX cy q K C O L f) H locs := I
    refine W.eq (g2 := F0 m 19 ls [.int (bI (isP (K 0) y))]) rfl ?_
    refine lv_if_eq (tgt := 27) S.1 S.2.1 dX11_link_19 (by decide) (fun c_19 => ?_) (fun c_19 => ?_)
    · skip
      have c_19 := bI_f c_19
      rw [k0] at c_19
      refine lv_iconst (v := (-1)) S.1 S.2.1 dX11_link_27 (by decide) ?_
      exact ru_i hQ S hr hlk (u := (K, C, O, L, f)) I (by rw [sp_link, if_neg (by simp [c_8, c_19])]; exact ⟨rfl, hrc⟩) dX11_link_28
    · skip
      have c_19 := bI_t c_19
      rw [k0] at c_19
      obtain ⟨j, h_j, rfl⟩ := isP_of c_19 (by omega)
      have e_j : (nI j).toNatClampNeg = j := nI_clamp (by omega)
      refine lv_iload_n S.1 S.2.1 dX11_link_22 rfl (lv_at hl 1 rfl) ?_
      refine lv_iload_n S.1 S.2.1 dX11_link_23 rfl (lv_at hl 2 rfl) ?_
      refine lv_icmp_ne (tgt := 29) S.1 S.2.1 dX11_link_24 (by decide) (fun c_24 => ?_) (fun c_24 => ?_)
      · skip
        have c_24o := c_24
        have c_24 := nI_cneT (by omega) (by omega) c_24
        refine lv_aload_n S.1 S.2.1 dX11_link_29 rfl (lv_at hl 0 rfl) ?_
        refine rg (ci := 11) (q0 := 0) (v := .ref (q 1)) 0 S hK I cl_X11 rfl wf_X11_12 (by decide) rfl rfl rfl dX11_link_30 ?_
        refine rg (ci := 5) (q0 := 1) (v := .ref (q 7)) 2 S hK I cl_X5 rfl wf_X11_58 (by decide) rfl rfl rfl dX11_link_33 ?_
        refine lv_iload_n S.1 S.2.1 dX11_link_36 rfl (lv_at hl 2 rfl) ?_
        refine ri (q0 := 7) (n := 8) (f := C 7) j S hK I rfl rfl (by omega) (by decide) dX11_link_37 ?_
        refine tI (y := nI (lk C j)) ((hC7 j (by omega)).1) ?_
        refine lv_istore (lv' := [(4, .int (nI (lk C j))), (0, .ref (q 0)), (1, .int (nI i)), (2, .int (nI j)), (3, .int (bI o))]) S.1 S.2.1 dX11_link_38 hl (by decide) rfl (fun ls hl => ?_)
        refine lv_aload_n S.1 S.2.1 dX11_link_40 rfl (lv_at hl 1 rfl) ?_
        refine rg (ci := 11) (q0 := 0) (v := .ref (q 1)) 0 S hK I cl_X11 rfl wf_X11_12 (by decide) rfl rfl rfl dX11_link_41 ?_
        refine rg (ci := 5) (q0 := 1) (v := .ref (q 7)) 2 S hK I cl_X5 rfl wf_X11_58 (by decide) rfl rfl rfl dX11_link_44 ?_
        refine lv_iload_n S.1 S.2.1 dX11_link_47 rfl (lv_at hl 3 rfl) ?_
        refine lv_iload S.1 S.2.1 dX11_link_48 (lv_at hl 0 rfl) ?_
        refine lv_iload_n S.1 S.2.1 dX11_link_50 rfl (lv_at hl 2 rfl) ?_
        refine lv_iload_n S.1 S.2.1 dX11_link_51 rfl (lv_at hl 4 rfl) ?_
        refine cS (np := 3) (As := [.int (nI (lk C j)), .int (nI i), .int (bI o)]) (rest := [.int (nI j), .ref (q 7)]) S (x_withMember l D cy (wX cy q K C O L f) (lk C j) i o (by omega)) hK hA I wm_X11_62 wt_X11_withMember wn_X11 wk_X11_withMember ⟨rfl, hd_X11_withMember⟩ rfl ⟨by decide, by decide⟩ hl.1 rfl (Nat.le_of_ble_eq_true rfl) dX11_link_52 ⟨by decide, by decide⟩ (fun v_ u_ H locs h_ I => ?_)
        obtain rfl := h_
        have I : IX D A s.heap (wX cy q K C O L f) H locs := I
        refine W.eq (g2 := F0 m 55 ls [.int (nI (wmF (lk C j) i o)), .int (nI j), .ref (q 7)]) rfl ?_
        refine si (q0 := 7) (n := 8) (f := C 7) j S hK I rfl rfl (by omega) (by decide) dX11_link_55 (fun H locs I => ?_)
        have I : IX D A s.heap (wX cy q K (va_up C 7 (upd (C 7) j (nI (wmF (lk C j) i o)))) O L f) H locs := I
        refine lv_iload S.1 S.2.1 dX11_link_56 (lv_at hl 0 rfl) ?_
        refine lv_iload_n S.1 S.2.1 dX11_link_58 rfl (lv_at hl 2 rfl) ?_
        refine cS (np := 2) (As := [.int (nI (lk C j)), .int (nI i)]) (rest := []) S (x_isIn l D cy (wX cy q K (va_up C 7 (upd (C 7) j (nI (wmF (lk C j) i o)))) O L f) (lk C j) i (by omega)) hK hA I wm_X11_65 wt_X11_isIn wn_X11 wk_X11_isIn ⟨rfl, hd_X11_isIn⟩ rfl ⟨by decide, by decide⟩ hl.1 rfl (Nat.le_of_ble_eq_true rfl) dX11_link_59 ⟨by decide, by decide⟩ (fun v_ u_ H locs h_ I => ?_)
        obtain rfl := h_
        have I : IX D A s.heap (wX cy q K (va_up C 7 (upd (C 7) j (nI (wmF (lk C j) i o)))) O L f) H locs := I
        refine W.eq (g2 := F0 m 62 ls [.int (bI ((lk C j).testBit i))]) rfl ?_
        refine cS (np := 1) (As := [.int (bI ((lk C j).testBit i))]) (rest := []) S (x_asNumber l D cy (wX cy q K (va_up C 7 (upd (C 7) j (nI (wmF (lk C j) i o)))) O L f) ((lk C j).testBit i)) hK hA I wm_X11_69 wt_X11_asNumber wn_X11 wk_X11_asNumber ⟨rfl, hd_X11_asNumber⟩ rfl ⟨by decide, by decide⟩ hl.1 rfl (Nat.le_of_ble_eq_true rfl) dX11_link_62 ⟨by decide, by decide⟩ (fun v_ u_ H locs h_ I => ?_)
        obtain rfl := h_
        have I : IX D A s.heap (wX cy q K (va_up C 7 (upd (C 7) j (nI (wmF (lk C j) i o)))) O L f) H locs := I
        refine W.eq (g2 := F0 m 65 ls [.int (bI ((lk C j).testBit i))]) rfl ?_
        exact ru_i hQ S hr hlk (u := (K, (va_up C 7 (upd (C 7) j (nI (wmF (lk C j) i o)))), O, L, f)) I (by rw [sp_link, if_pos ⟨c_8, c_19, c_24o⟩, e_i, e_j]; exact ⟨congrArg (fun z => some (Value.int (bI z))) ((hC7 j (by omega)).2.2 i (by omega)), link_rel hrc (by omega) (by omega) rfl⟩) dX11_link_65
      · skip
        have c_24o := c_24
        have c_24 := nI_cneF (by omega) (by omega) c_24
        refine lv_iconst (v := (-1)) S.1 S.2.1 dX11_link_27 (by decide) ?_
        exact ru_i hQ S hr hlk (u := (K, C, O, L, f)) I (by rw [sp_link, if_neg (by simp [c_8, c_19, c_24o])]; exact ⟨rfl, hrc⟩) dX11_link_28
set_option maxHeartbeats 4000000 in
set_option maxRecDepth 100000 in
theorem x_guard (l : Launch) (D : va_G) (cy : Nat → ClassId) (q : Nat → Nat) (K : Nat → Nat) (C : Nat → Nat → Int32) (O : Nat → Nat → Option Nat) (L : List Nat) (f : Nat → va_E) (N : Nat → Nat) (R : Nat → Nat → Int32) (x : Int32) (o : Bool) (hW : WFm N R) (hrc : RelC K C O L f N R) : MS (α := (Nat → Nat) × (Nat → Nat → Int32) × (Nat → Nat → Option Nat) × List Nat × (Nat → va_E)) l D cy yX11_guard cX11_guard 4 (Option.some FieldType.int) rm_X11_guard [.ref (q 0), .int x, .int (bI o)] (wX cy q K C O L f) (fun v_ u_ => v_ = some (.int (sp_guard N R x (bI o)).1) ∧ RelC u_.1 u_.2.1 u_.2.2.1 u_.2.2.2.1 u_.2.2.2.2 (sp_guard N R x (bI o)).2.1 (sp_guard N R x (bI o)).2.2) (fun u_ => wX cy q u_.1 u_.2.1 u_.2.2.1 u_.2.2.2.1 u_.2.2.2.2) := by
  refine MS.mk2 (by decide) (Nat.le_of_ble_eq_true rfl) [(0, .ref (q 0)), (1, .int x), (2, .int (bI o))] rfl ?_
  intro p e s m args below meth c A ls Q hQ S hr hlk hnm hK hA I hl
  have hW0 := hW
  obtain ⟨hB, hPt, hBo, hH, hM, hQu⟩ := hW0
  have hB0 := hB
  obtain ⟨b0, b6, b17, b24, b30⟩ := hB0
  have hrc0 := hrc
  obtain ⟨hrel, hrg, hrm, hrp, hinj⟩ := hrc0
  have hrel0 := hrel
  obtain ⟨k0, k1, hC6, hK2, hC7, hHol⟩ := hrel0
  have hrm0 := hrm
  obtain ⟨k7, k8, hMe, hQe⟩ := hrm0
  have hrg0 := hrg
  obtain ⟨hC5, hG, hG3, hG2⟩ := hrg0
  have hp2 := pow_256 b17
  obtain ⟨k9, hC20, hK10, hC31⟩ := hrp
  have hgC : ∀ p, p < N 0 → C 5 p = R 1 p := fun p hp => hC5 p (by omega)
  refine lv_aload_n S.1 S.2.1 dX11_guard_0 rfl (lv_at hl 0 rfl) ?_
  refine rg (ci := 11) (q0 := 0) (v := .ref (q 1)) 0 S hK I cl_X11 rfl wf_X11_12 (by decide) rfl rfl rfl dX11_guard_1 ?_
  refine lv_iload_n S.1 S.2.1 dX11_guard_4 rfl (lv_at hl 1 rfl) ?_
  refine cV (np := 1) (ci := 5) (q0 := 1) (As := [.int x]) (rest := []) S (x_hasPart l D cy q K C O L f x (by omega)) hK hA I wm_X11_55 wi_X5_hasPart ws_X5_X5_hasPart wn_X5 wk_X5_hasPart ⟨rfl, hd_X5_hasPart⟩ rfl ⟨by decide, by decide⟩ rfl rfl hl.1 rfl (Nat.le_of_ble_eq_true rfl) dX11_guard_5 ⟨by decide, by decide⟩ (fun v_ u_ H locs h_ I => ?_)
  obtain rfl := h_
  have I : IX D A s.heap (wX cy q K C O L f) H locs := I
  refine W.eq (g2 := F0 m 8 ls [.int (bI (isP (K 0) x))]) rfl ?_
  refine lv_if_ne (tgt := 13) S.1 S.2.1 dX11_guard_8 (by decide) (fun c_8 => ?_) (fun c_8 => ?_)
  · skip
    have c_8 := bI_t c_8
    rw [k0] at c_8
    obtain ⟨j, h_j, rfl⟩ := isP_of c_8 (by omega)
    have e_j : (nI j).toNatClampNeg = j := nI_clamp (by omega)
    refine lv_aload_n S.1 S.2.1 dX11_guard_13 rfl (lv_at hl 0 rfl) ?_
    refine rg (ci := 11) (q0 := 0) (v := .ref (q 1)) 0 S hK I cl_X11 rfl wf_X11_12 (by decide) rfl rfl rfl dX11_guard_14 ?_
    refine rg (ci := 5) (q0 := 1) (v := .int (nI (K 3))) 7 S hK I cl_X5 rfl wf_X11_73 (by decide) rfl rfl rfl dX11_guard_17 ?_
    refine lv_istore_n (lv' := [(3, .int (nI (K 3))), (0, .ref (q 0)), (1, .int (nI j)), (2, .int (bI o))]) S.1 S.2.1 dX11_guard_20 rfl hl (by decide) rfl (fun ls hl => ?_)
    refine lv_aload_n S.1 S.2.1 dX11_guard_21 rfl (lv_at hl 1 rfl) ?_
    refine rg (ci := 11) (q0 := 0) (v := .ref (q 1)) 0 S hK I cl_X11 rfl wf_X11_12 (by decide) rfl rfl rfl dX11_guard_22 ?_
    refine lv_iload_n S.1 S.2.1 dX11_guard_25 rfl (lv_at hl 0 rfl) ?_
    refine lv_iload_n S.1 S.2.1 dX11_guard_26 rfl (lv_at hl 2 rfl) ?_
    refine lv_iload_n S.1 S.2.1 dX11_guard_27 rfl (lv_at hl 3 rfl) ?_
    refine cS (np := 3) (As := [.int (nI (K 3)), .int (nI j), .int (bI o)]) (rest := [.ref (q 1)]) S (x_withMember l D cy (wX cy q K C O L f) (K 3) j o (by omega)) hK hA I wm_X11_62 wt_X11_withMember wn_X11 wk_X11_withMember ⟨rfl, hd_X11_withMember⟩ rfl ⟨by decide, by decide⟩ hl.1 rfl (Nat.le_of_ble_eq_true rfl) dX11_guard_28 ⟨by decide, by decide⟩ (fun v_ u_ H locs h_ I => ?_)
    obtain rfl := h_
    have I : IX D A s.heap (wX cy q K C O L f) H locs := I
    refine W.eq (g2 := F0 m 31 ls [.int (nI (wmF (K 3) j o)), .ref (q 1)]) rfl ?_
    refine rp (ci := 5) (q0 := 1) (v := .int (nI (wmF (K 3) j o))) (ty := .int) 7 S hK I cl_X5 rfl wf_X11_73 (by decide) rfl tyX5_ok nmX5 rfl (by decide +kernel) rfl rfl (by exact Nat.le_of_ble_eq_true rfl) rfl dX11_guard_31 (fun H locs I => ?_)
    have I : IX D A s.heap (wX cy q (va_up K 3 (wmF (K 3) j o)) C O L f) H locs := I
    refine lv_iload_n S.1 S.2.1 dX11_guard_34 rfl (lv_at hl 0 rfl) ?_
    refine lv_iload_n S.1 S.2.1 dX11_guard_35 rfl (lv_at hl 2 rfl) ?_
    refine cS (np := 2) (As := [.int (nI (K 3)), .int (nI j)]) (rest := []) S (x_isIn l D cy (wX cy q (va_up K 3 (wmF (K 3) j o)) C O L f) (K 3) j (by omega)) hK hA I wm_X11_65 wt_X11_isIn wn_X11 wk_X11_isIn ⟨rfl, hd_X11_isIn⟩ rfl ⟨by decide, by decide⟩ hl.1 rfl (Nat.le_of_ble_eq_true rfl) dX11_guard_36 ⟨by decide, by decide⟩ (fun v_ u_ H locs h_ I => ?_)
    obtain rfl := h_
    have I : IX D A s.heap (wX cy q (va_up K 3 (wmF (K 3) j o)) C O L f) H locs := I
    refine W.eq (g2 := F0 m 39 ls [.int (bI ((K 3).testBit j))]) rfl ?_
    refine cS (np := 1) (As := [.int (bI ((K 3).testBit j))]) (rest := []) S (x_asNumber l D cy (wX cy q (va_up K 3 (wmF (K 3) j o)) C O L f) ((K 3).testBit j)) hK hA I wm_X11_69 wt_X11_asNumber wn_X11 wk_X11_asNumber ⟨rfl, hd_X11_asNumber⟩ rfl ⟨by decide, by decide⟩ hl.1 rfl (Nat.le_of_ble_eq_true rfl) dX11_guard_39 ⟨by decide, by decide⟩ (fun v_ u_ H locs h_ I => ?_)
    obtain rfl := h_
    have I : IX D A s.heap (wX cy q (va_up K 3 (wmF (K 3) j o)) C O L f) H locs := I
    refine W.eq (g2 := F0 m 42 ls [.int (bI ((K 3).testBit j))]) rfl ?_
    exact ru_i hQ S hr hlk (u := ((va_up K 3 (wmF (K 3) j o)), C, O, L, f)) I (by rw [sp_guard, if_pos c_8, e_j]; exact ⟨congrArg (fun z => some (Value.int (bI z))) (hG j (by omega)), guard_rel hrc (by omega) rfl⟩) dX11_guard_42
  · skip
    have c_8 := bI_f c_8
    rw [k0] at c_8
    refine lv_iconst (v := (-1)) S.1 S.2.1 dX11_guard_11 (by decide) ?_
    exact ru_i hQ S hr hlk (u := (K, C, O, L, f)) I (by rw [sp_guard, if_neg (by rw [c_8]; exact Bool.false_ne_true)]; exact ⟨rfl, hrc⟩) dX11_guard_12
set_option maxHeartbeats 4000000 in
set_option maxRecDepth 100000 in
theorem x_version (l : Launch) (D : va_G) (cy : Nat → ClassId) (q : Nat → Nat) (K : Nat → Nat) (C : Nat → Nat → Int32) (O : Nat → Nat → Option Nat) (L : List Nat) (f : Nat → va_E) (N : Nat → Nat) (R : Nat → Nat → Int32) (x : Int32) (v : Int32) (hW : WFm N R) (hrc : RelC K C O L f N R) : MS (α := (Nat → Nat) × (Nat → Nat → Int32) × (Nat → Nat → Option Nat) × List Nat × (Nat → va_E)) l D cy yX11_version cX11_version 4 (Option.some FieldType.int) rm_X11_version [.ref (q 0), .int x, .int v] (wX cy q K C O L f) (fun v_ u_ => v_ = some (.int (sp_version N R x v).1) ∧ RelC u_.1 u_.2.1 u_.2.2.1 u_.2.2.2.1 u_.2.2.2.2 (sp_version N R x v).2.1 (sp_version N R x v).2.2) (fun u_ => wX cy q u_.1 u_.2.1 u_.2.2.1 u_.2.2.2.1 u_.2.2.2.2) := by
  refine MS.mk2 (by decide) (Nat.le_of_ble_eq_true rfl) [(0, .ref (q 0)), (1, .int x), (2, .int v)] rfl ?_
  intro p e s m args below meth c A ls Q hQ S hr hlk hnm hK hA I hl
  have hW0 := hW
  obtain ⟨hB, hPt, hBo, hH, hM, hQu⟩ := hW0
  have hB0 := hB
  obtain ⟨b0, b6, b17, b24, b30⟩ := hB0
  have hrc0 := hrc
  obtain ⟨hrel, hrg, hrm, hrp, hinj⟩ := hrc0
  have hrel0 := hrel
  obtain ⟨k0, k1, hC6, hK2, hC7, hHol⟩ := hrel0
  have hrm0 := hrm
  obtain ⟨k7, k8, hMe, hQe⟩ := hrm0
  have hrg0 := hrg
  obtain ⟨hC5, hG, hG3, hG2⟩ := hrg0
  have hp2 := pow_256 b17
  obtain ⟨k9, hC20, hK10, hC31⟩ := hrp
  have hgC : ∀ p, p < N 0 → C 5 p = R 1 p := fun p hp => hC5 p (by omega)
  refine lv_aload_n S.1 S.2.1 dX11_version_0 rfl (lv_at hl 0 rfl) ?_
  refine rg (ci := 11) (q0 := 0) (v := .ref (q 1)) 0 S hK I cl_X11 rfl wf_X11_12 (by decide) rfl rfl rfl dX11_version_1 ?_
  refine lv_iload_n S.1 S.2.1 dX11_version_4 rfl (lv_at hl 1 rfl) ?_
  refine cV (np := 1) (ci := 5) (q0 := 1) (As := [.int x]) (rest := []) S (x_hasPart l D cy q K C O L f x (by omega)) hK hA I wm_X11_55 wi_X5_hasPart ws_X5_X5_hasPart wn_X5 wk_X5_hasPart ⟨rfl, hd_X5_hasPart⟩ rfl ⟨by decide, by decide⟩ rfl rfl hl.1 rfl (Nat.le_of_ble_eq_true rfl) dX11_version_5 ⟨by decide, by decide⟩ (fun v_ u_ H locs h_ I => ?_)
  obtain rfl := h_
  have I : IX D A s.heap (wX cy q K C O L f) H locs := I
  refine W.eq (g2 := F0 m 8 ls [.int (bI (isP (K 0) x))]) rfl ?_
  refine lv_if_eq (tgt := 18) S.1 S.2.1 dX11_version_8 (by decide) (fun c_8 => ?_) (fun c_8 => ?_)
  · skip
    have c_8 := bI_f c_8
    rw [k0] at c_8
    refine lv_iconst (v := (-1)) S.1 S.2.1 dX11_version_18 (by decide) ?_
    exact ru_i hQ S hr hlk (u := (K, C, O, L, f)) I (by rw [sp_version, if_neg (by simp [c_8])]; exact ⟨rfl, hrc⟩) dX11_version_19
  · skip
    have c_8 := bI_t c_8
    rw [k0] at c_8
    obtain ⟨j, h_j, rfl⟩ := isP_of c_8 (by omega)
    have e_j : (nI j).toNatClampNeg = j := nI_clamp (by omega)
    refine lv_iload_n S.1 S.2.1 dX11_version_11 rfl (lv_at hl 2 rfl) ?_
    refine cS (np := 1) (As := [.int v]) (rest := []) S (x_isVersion l D cy (wX cy q K C O L f) v) hK hA I wm_X11_43 wt_X11_isVersion wn_X11 wk_X11_isVersion ⟨rfl, hd_X11_isVersion⟩ rfl ⟨by decide, by decide⟩ hl.1 rfl (Nat.le_of_ble_eq_true rfl) dX11_version_12 ⟨by decide, by decide⟩ (fun v_ u_ H locs h_ I => ?_)
    obtain rfl := h_
    have I : IX D A s.heap (wX cy q K C O L f) H locs := I
    refine W.eq (g2 := F0 m 15 ls [.int (bI (isV v))]) rfl ?_
    refine lv_if_ne (tgt := 20) S.1 S.2.1 dX11_version_15 (by decide) (fun c_15 => ?_) (fun c_15 => ?_)
    · skip
      have c_15 := bI_t c_15
      refine lv_aload_n S.1 S.2.1 dX11_version_20 rfl (lv_at hl 0 rfl) ?_
      refine rg (ci := 11) (q0 := 0) (v := .ref (q 1)) 0 S hK I cl_X11 rfl wf_X11_12 (by decide) rfl rfl rfl dX11_version_21 ?_
      refine rg (ci := 5) (q0 := 1) (v := .ref (q 5)) 0 S hK I cl_X5 rfl wf_X11_77 (by decide) rfl rfl rfl dX11_version_24 ?_
      refine lv_iload_n S.1 S.2.1 dX11_version_27 rfl (lv_at hl 1 rfl) ?_
      refine ri (q0 := 5) (n := 8) (f := C 5) j S hK I rfl rfl (by omega) (by decide) dX11_version_28 ?_
      refine lv_istore_n (lv' := [(3, .int (C 5 j)), (0, .ref (q 0)), (1, .int (nI j)), (2, .int v)]) S.1 S.2.1 dX11_version_29 rfl hl (by decide) rfl (fun ls hl => ?_)
      refine lv_aload_n S.1 S.2.1 dX11_version_30 rfl (lv_at hl 1 rfl) ?_
      refine rg (ci := 11) (q0 := 0) (v := .ref (q 1)) 0 S hK I cl_X11 rfl wf_X11_12 (by decide) rfl rfl rfl dX11_version_31 ?_
      refine rg (ci := 5) (q0 := 1) (v := .ref (q 5)) 0 S hK I cl_X5 rfl wf_X11_77 (by decide) rfl rfl rfl dX11_version_34 ?_
      refine lv_iload_n S.1 S.2.1 dX11_version_37 rfl (lv_at hl 2 rfl) ?_
      refine lv_iload_n S.1 S.2.1 dX11_version_38 rfl (lv_at hl 3 rfl) ?_
      refine si (q0 := 5) (n := 8) (f := C 5) j S hK I rfl rfl (by omega) (by decide) dX11_version_39 (fun H locs I => ?_)
      have I : IX D A s.heap (wX cy q K (va_up C 5 (upd (C 5) j v)) O L f) H locs := I
      refine lv_iload_n S.1 S.2.1 dX11_version_40 rfl (lv_at hl 0 rfl) ?_
      exact ru_i hQ S hr hlk (u := (K, (va_up C 5 (upd (C 5) j v)), O, L, f)) I (by rw [sp_version, if_pos ⟨c_8, c_15⟩, e_j]; exact ⟨congrArg (fun z => some (Value.int z)) (hC5 j (by omega)), version_rel hrc rfl⟩) dX11_version_41
    · skip
      have c_15 := bI_f c_15
      refine lv_iconst (v := (-1)) S.1 S.2.1 dX11_version_18 (by decide) ?_
      exact ru_i hQ S hr hlk (u := (K, C, O, L, f)) I (by rw [sp_version, if_neg (by simp [c_8, c_15])]; exact ⟨rfl, hrc⟩) dX11_version_19
set_option maxHeartbeats 4000000 in
set_option maxRecDepth 100000 in
theorem x_count (l : Launch) (D : va_G) (cy : Nat → ClassId) (q : Nat → Nat) (K : Nat → Nat) (C : Nat → Nat → Int32) (O : Nat → Nat → Option Nat) (L : List Nat) (f : Nat → va_E) (N : Nat → Nat) (R : Nat → Nat → Int32) (x : Int32) (hW : WFm N R) (hrc : RelC K C O L f N R) : MS (α := (Nat → Nat) × (Nat → Nat → Int32) × (Nat → Nat → Option Nat) × List Nat × (Nat → va_E)) l D cy yX11_count cX11_count 2 (Option.some FieldType.int) rm_X11_count [.ref (q 0), .int x] (wX cy q K C O L f) (fun v_ u_ => v_ = some (.int (sp_count N R x)) ∧ RelC u_.1 u_.2.1 u_.2.2.1 u_.2.2.2.1 u_.2.2.2.2 N R) (fun u_ => wX cy q u_.1 u_.2.1 u_.2.2.1 u_.2.2.2.1 u_.2.2.2.2) := by
  refine MS.mk2 (by decide) (Nat.le_of_ble_eq_true rfl) [(0, .ref (q 0)), (1, .int x)] rfl ?_
  intro p e s m args below meth c A ls Q hQ S hr hlk hnm hK hA I hl
  have hW0 := hW
  obtain ⟨hB, hPt, hBo, hH, hM, hQu⟩ := hW0
  have hB0 := hB
  obtain ⟨b0, b6, b17, b24, b30⟩ := hB0
  have hrc0 := hrc
  obtain ⟨hrel, hrg, hrm, hrp, hinj⟩ := hrc0
  have hrel0 := hrel
  obtain ⟨k0, k1, hC6, hK2, hC7, hHol⟩ := hrel0
  have hrm0 := hrm
  obtain ⟨k7, k8, hMe, hQe⟩ := hrm0
  have hrg0 := hrg
  obtain ⟨hC5, hG, hG3, hG2⟩ := hrg0
  have hp2 := pow_256 b17
  obtain ⟨k9, hC20, hK10, hC31⟩ := hrp
  have hgC : ∀ p, p < N 0 → C 5 p = R 1 p := fun p hp => hC5 p (by omega)
  refine lv_iload_n S.1 S.2.1 dX11_count_0 rfl (lv_at hl 1 rfl) ?_
  rcases sw_6 x with hsw | hsw | hsw | hsw | hsw | hsw | hsw
  · skip
    refine lv_tableIn (off := 39) (tgt := 40) S.1 S.2.1 dX11_count_1 (by rw [hsw]; decide) (by rw [hsw]; decide) (by rw [hsw]; rfl) (by decide) ?_
    refine lv_aload_n S.1 S.2.1 dX11_count_40 rfl (lv_at hl 0 rfl) ?_
    refine rg (ci := 11) (q0 := 0) (v := .ref (q 1)) 0 S hK I cl_X11 rfl wf_X11_12 (by decide) rfl rfl rfl dX11_count_41 ?_
    refine rg (ci := 5) (q0 := 1) (v := .int (nI (K 0))) 4 S hK I cl_X5 rfl wf_X11_143 (by decide) rfl rfl rfl dX11_count_44 ?_
    exact ru_i hQ S hr hlk (u := (K, C, O, L, f)) I (⟨(congrArg (fun z => some (Value.int z)) (by simp [sp_count, hsw, k0, k1, k7, k8])), hrc⟩) dX11_count_47
  · skip
    refine lv_tableIn (off := 47) (tgt := 48) S.1 S.2.1 dX11_count_1 (by rw [hsw]; decide) (by rw [hsw]; decide) (by rw [hsw]; rfl) (by decide) ?_
    refine lv_aload_n S.1 S.2.1 dX11_count_48 rfl (lv_at hl 0 rfl) ?_
    refine rg (ci := 11) (q0 := 0) (v := .ref (q 1)) 0 S hK I cl_X11 rfl wf_X11_12 (by decide) rfl rfl rfl dX11_count_49 ?_
    refine rg (ci := 5) (q0 := 1) (v := .int (nI (K 1))) 5 S hK I cl_X5 rfl wf_X11_233 (by decide) rfl rfl rfl dX11_count_52 ?_
    exact ru_i hQ S hr hlk (u := (K, C, O, L, f)) I (⟨(congrArg (fun z => some (Value.int z)) (by simp [sp_count, hsw, k0, k1, k7, k8])), hrc⟩) dX11_count_55
  · skip
    refine lv_tableIn (off := 55) (tgt := 56) S.1 S.2.1 dX11_count_1 (by rw [hsw]; decide) (by rw [hsw]; decide) (by rw [hsw]; rfl) (by decide) ?_
    refine lv_aload_n S.1 S.2.1 dX11_count_56 rfl (lv_at hl 0 rfl) ?_
    refine rg (ci := 11) (q0 := 0) (v := .ref (q 3)) 2 S hK I cl_X11 rfl wf_X11_30 (by decide) rfl rfl rfl dX11_count_57 ?_
    refine rg (ci := 4) (q0 := 3) (v := .int (nI (K 7))) 5 S hK I cl_X4 rfl wf_X11_186 (by decide) rfl rfl rfl dX11_count_60 ?_
    exact ru_i hQ S hr hlk (u := (K, C, O, L, f)) I (⟨(congrArg (fun z => some (Value.int z)) (by simp [sp_count, hsw, k0, k1, k7, k8])), hrc⟩) dX11_count_63
  · skip
    refine lv_tableIn (off := 63) (tgt := 64) S.1 S.2.1 dX11_count_1 (by rw [hsw]; decide) (by rw [hsw]; decide) (by rw [hsw]; rfl) (by decide) ?_
    refine lv_aload_n S.1 S.2.1 dX11_count_64 rfl (lv_at hl 0 rfl) ?_
    refine rg (ci := 11) (q0 := 0) (v := .ref (q 3)) 2 S hK I cl_X11 rfl wf_X11_30 (by decide) rfl rfl rfl dX11_count_65 ?_
    refine rg (ci := 4) (q0 := 3) (v := .int (nI (K 8))) 6 S hK I cl_X4 rfl wf_X11_236 (by decide) rfl rfl rfl dX11_count_68 ?_
    exact ru_i hQ S hr hlk (u := (K, C, O, L, f)) I (⟨(congrArg (fun z => some (Value.int z)) (by simp [sp_count, hsw, k0, k1, k7, k8])), hrc⟩) dX11_count_71
  · skip
    refine lv_tableIn (off := 71) (tgt := 72) S.1 S.2.1 dX11_count_1 (by rw [hsw]; decide) (by rw [hsw]; decide) (by rw [hsw]; rfl) (by decide) ?_
    refine lv_aload_n S.1 S.2.1 dX11_count_72 rfl (lv_at hl 0 rfl) ?_
    refine cV (np := 0) (ci := 11) (q0 := 0) (As := []) (rest := []) S (x_spreadNow l D cy q K C O L f N R hW hrc) hK hA I wm_X11_128 wi_X11_spreadNow ws_X11_X11_spreadNow wn_X11 wk_X11_spreadNow ⟨rfl, hd_X11_spreadNow⟩ rfl ⟨by decide, by decide⟩ rfl rfl hl.1 rfl (Nat.le_of_ble_eq_true rfl) dX11_count_73 ⟨by decide, by decide⟩ (fun v_ u_ H locs h_ I => ?_)
    obtain ⟨rfl, hu4_73, hu5_73, hu5l_73, hur_73⟩ := h_
    obtain ⟨u4_73, u5_73, u6_73, u9_73, u10_73, u11_73⟩ := u_
    have hu4_73 : u4_73 = msk (stB R (R 1)) (N 6) := hu4_73
    have hu5_73 : ∀ z, z < 8 → (u5_73).testBit z = (decide (z < N 0) && tkN (eS N R (R 1)) z) := hu5_73
    have hu5l_73 : u5_73 < 256 := hu5l_73
    have hur_73 : RowC N R (R 1) (eS N R (R 1)) u9_73 u10_73 u11_73 := hur_73
    have I : IX D A s.heap (wX cy q (va_up (va_up (va_up K 4 u4_73) 5 u5_73) 6 u6_73) (va_up (va_up (va_up C 9 u9_73) 10 u10_73) 11 u11_73) O L f) H locs := I
    refine W.eq (g2 := F0 m 76 ls [.int (nI (rsk N R (R 1)))]) rfl ?_
    refine lv_pop S.1 S.2.1 dX11_count_76 rfl ?_
    refine lv_aload_n S.1 S.2.1 dX11_count_77 rfl (lv_at hl 0 rfl) ?_
    refine rg (ci := 11) (q0 := 0) (v := .ref (q 2)) 1 S hK I cl_X11 rfl wf_X11_21 (by decide) rfl rfl rfl dX11_count_78 ?_
    refine rg (ci := 9) (q0 := 2) (v := .int (nI u4_73)) 4 S hK I cl_X9 rfl wf_X11_239 (by decide) rfl rfl rfl dX11_count_81 ?_
    refine cJ (np := 1) (As := [.int (nI u4_73)]) (rest := []) S (x_bitCount l D cy (wX cy q (va_up (va_up (va_up K 4 u4_73) 5 u5_73) 6 u6_73) (va_up (va_up (va_up C 9 u9_73) 10 u10_73) 11 u11_73) O L f) u4_73 (by rw [hu4_73]; exact Nat.lt_of_lt_of_le (msk_lt _ _) (pow_4096 b6))) hK hA I wm_X11_242 wt_J6_bitCount_0f7a4 wn_J6 wk_J6_bitCount_0f7a4 hd_J6_bitCount_0f7a4 rfl ⟨by decide, by decide⟩ hl.1 rfl (Nat.le_of_ble_eq_true rfl) dX11_count_84 ⟨by decide, by decide⟩ (fun v_ u_ H locs h_ I => ?_)
    obtain rfl := h_
    have I : IX D A s.heap (wX cy q (va_up (va_up (va_up K 4 u4_73) 5 u5_73) 6 u6_73) (va_up (va_up (va_up C 9 u9_73) 10 u10_73) 11 u11_73) O L f) H locs := I
    refine W.eq (g2 := F0 m 87 ls [.int (nI (fb_ct (fun i => u4_73.testBit i) 12))]) rfl ?_
    exact ru_i hQ S hr hlk (u := ((va_up (va_up (va_up K 4 u4_73) 5 u5_73) 6 u6_73), (va_up (va_up (va_up C 9 u9_73) 10 u10_73) 11 u11_73), O, L, f)) I (⟨(congrArg (fun z => some (Value.int z)) (by rw [hu4_73, ct_msk (by omega)]; simp [sp_count, hsw])), hrc⟩) dX11_count_87
  · skip
    refine lv_tableIn (off := 87) (tgt := 88) S.1 S.2.1 dX11_count_1 (by rw [hsw]; decide) (by rw [hsw]; decide) (by rw [hsw]; rfl) (by decide) ?_
    refine lv_aload_n S.1 S.2.1 dX11_count_88 rfl (lv_at hl 0 rfl) ?_
    refine cV (np := 0) (ci := 11) (q0 := 0) (As := []) (rest := []) S (x_spreadNow l D cy q K C O L f N R hW hrc) hK hA I wm_X11_128 wi_X11_spreadNow ws_X11_X11_spreadNow wn_X11 wk_X11_spreadNow ⟨rfl, hd_X11_spreadNow⟩ rfl ⟨by decide, by decide⟩ rfl rfl hl.1 rfl (Nat.le_of_ble_eq_true rfl) dX11_count_89 ⟨by decide, by decide⟩ (fun v_ u_ H locs h_ I => ?_)
    obtain ⟨rfl, hu4_89, hu5_89, hu5l_89, hur_89⟩ := h_
    obtain ⟨u4_89, u5_89, u6_89, u9_89, u10_89, u11_89⟩ := u_
    have hu4_89 : u4_89 = msk (stB R (R 1)) (N 6) := hu4_89
    have hu5_89 : ∀ z, z < 8 → (u5_89).testBit z = (decide (z < N 0) && tkN (eS N R (R 1)) z) := hu5_89
    have hu5l_89 : u5_89 < 256 := hu5l_89
    have hur_89 : RowC N R (R 1) (eS N R (R 1)) u9_89 u10_89 u11_89 := hur_89
    have I : IX D A s.heap (wX cy q (va_up (va_up (va_up K 4 u4_89) 5 u5_89) 6 u6_89) (va_up (va_up (va_up C 9 u9_89) 10 u10_89) 11 u11_89) O L f) H locs := I
    refine W.eq (g2 := F0 m 92 ls [.int (nI (rsk N R (R 1)))]) rfl ?_
    refine lv_pop S.1 S.2.1 dX11_count_92 rfl ?_
    refine lv_aload_n S.1 S.2.1 dX11_count_93 rfl (lv_at hl 0 rfl) ?_
    refine rg (ci := 11) (q0 := 0) (v := .ref (q 2)) 1 S hK I cl_X11 rfl wf_X11_21 (by decide) rfl rfl rfl dX11_count_94 ?_
    refine rg (ci := 9) (q0 := 2) (v := .int (nI u5_89)) 5 S hK I cl_X9 rfl wf_X11_131 (by decide) rfl rfl rfl dX11_count_97 ?_
    refine cJ (np := 1) (As := [.int (nI u5_89)]) (rest := []) S (x_bitCount l D cy (wX cy q (va_up (va_up (va_up K 4 u4_89) 5 u5_89) 6 u6_89) (va_up (va_up (va_up C 9 u9_89) 10 u10_89) 11 u11_89) O L f) u5_89 (by omega)) hK hA I wm_X11_242 wt_J6_bitCount_0f7a4 wn_J6 wk_J6_bitCount_0f7a4 hd_J6_bitCount_0f7a4 rfl ⟨by decide, by decide⟩ hl.1 rfl (Nat.le_of_ble_eq_true rfl) dX11_count_100 ⟨by decide, by decide⟩ (fun v_ u_ H locs h_ I => ?_)
    obtain rfl := h_
    have I : IX D A s.heap (wX cy q (va_up (va_up (va_up K 4 u4_89) 5 u5_89) 6 u6_89) (va_up (va_up (va_up C 9 u9_89) 10 u10_89) 11 u11_89) O L f) H locs := I
    refine W.eq (g2 := F0 m 103 ls [.int (nI (fb_ct (fun i => u5_89.testBit i) 12))]) rfl ?_
    exact ru_i hQ S hr hlk (u := ((va_up (va_up (va_up K 4 u4_89) 5 u5_89) 6 u6_89), (va_up (va_up (va_up C 9 u9_89) 10 u10_89) 11 u11_89), O, L, f)) I (⟨(congrArg (fun z => some (Value.int z)) (by rw [eq_msk hu5_89 hu5l_89 b0, ct_msk (by omega)]; simp [sp_count, hsw])), hrc⟩) dX11_count_103
  · skip
    refine lv_tableOut (tgt := 104) S.1 S.2.1 dX11_count_1 hsw.2 (by decide) ?_
    refine lv_iconst (v := (-1)) S.1 S.2.1 dX11_count_104 (by decide) ?_
    exact ru_i hQ S hr hlk (u := (K, C, O, L, f)) I (⟨(congrArg (fun z => some (Value.int z)) (by simp [sp_count, hsw.1])), hrc⟩) dX11_count_105
