theorem pd_X0_none : yX0_none.cls = RX0 ∧ yX0_none.cls ≠ "java/lang/invoke/MethodHandle" ∧ yX0_none.cls ≠ "java/lang/invoke/VarHandle" ∧ (parseMethodDescriptor yX0_none.desc).map (fun d => d.parameters.length) = some 0 := by decide +kernel
set_option maxHeartbeats 4000000 in
set_option maxRecDepth 100000 in
theorem r_X0_none (l : Launch) (D : va_G) (cT : ClassId × ClassId × ClassId) (h0 : Nat)  : Met l yX0_none wsX0_none ({ frames := 0, cells := 0, slots := 0, locals := 0 }) (va_Pc [.ref h0] (sx_R D (TY cT) ([(h0, .inr (0, []))]))) (vp_Sl (fun r_ => r_ = 0)) 0 0 (fun _ => False) := by
  refine rd_start (cc := cX0_none) (maxL := 1) (ret := (some .long)) RX0 ⟨by decide +kernel, rfl⟩ rfl (Nat.le_of_ble_eq_true rfl) ?_
  intro p0 e0 s0 m0 a0 b0 t0 c0 S hr hlocks hP hK ls hl
  have hl : lv_has ls 1 [(0, .ref h0)] := hl
  refine lv_lconst (v := 0) S.1 S.2.1 dX0_none_0 (by decide) ?_
  exact rd_lret S hr hlocks (rfl) dX0_none_1

theorem pd_X0_start : yX0_start.cls = RX0 ∧ yX0_start.cls ≠ "java/lang/invoke/MethodHandle" ∧ yX0_start.cls ≠ "java/lang/invoke/VarHandle" ∧ (parseMethodDescriptor yX0_start.desc).map (fun d => d.parameters.length) = some 0 := by decide +kernel
set_option maxHeartbeats 4000000 in
set_option maxRecDepth 100000 in
theorem r_X0_start (l : Launch) (D : va_G) (cT : ClassId × ClassId × ClassId) (h0 : Nat)  : Met l yX0_start wsX0_start ({ frames := 0, cells := 0, slots := 0, locals := 0 }) (va_Pc [.ref h0] (sx_R D (TY cT) ([(h0, .inr (0, []))]))) (vp_Sl (fun r_ => r_ = 1)) 0 0 (fun _ => False) := by
  refine rd_start (cc := cX0_start) (maxL := 1) (ret := (some .long)) RX0 ⟨by decide +kernel, rfl⟩ rfl (Nat.le_of_ble_eq_true rfl) ?_
  intro p0 e0 s0 m0 a0 b0 t0 c0 S hr hlocks hP hK ls hl
  have hl : lv_has ls 1 [(0, .ref h0)] := hl
  refine lv_lconst (v := 1) S.1 S.2.1 dX0_start_0 (by decide) ?_
  exact rd_lret S hr hlocks (rfl) dX0_start_1

theorem pd_X0_longer : yX0_longer.cls = RX0 ∧ yX0_longer.cls ≠ "java/lang/invoke/MethodHandle" ∧ yX0_longer.cls ≠ "java/lang/invoke/VarHandle" ∧ (parseMethodDescriptor yX0_longer.desc).map (fun d => d.parameters.length) = some 3 := by decide +kernel
set_option maxHeartbeats 4000000 in
set_option maxRecDepth 100000 in
theorem r_X0_longer (l : Launch) (D : va_G) (cT : ClassId × ClassId × ClassId) (h0 : Nat) (v : Int64) (d e : Nat)  : Met l yX0_longer wsX0_longer ({ frames := 0, cells := 0, slots := 0, locals := 0 }) (va_Pc [.ref h0, .long v, .int (nI d), .int (nI e)] (sx_R D (TY cT) ([(h0, .inr (0, []))]))) (vp_Sl (fun r_ => r_ = v)) 0 0 (fun _ => False) := by
  refine rd_start (cc := cX0_longer) (maxL := 5) (ret := (some .long)) RX0 ⟨by decide +kernel, rfl⟩ rfl (Nat.le_of_ble_eq_true rfl) ?_
  intro p0 e0 s0 m0 a0 b0 t0 c0 S hr hlocks hP hK ls hl
  have hl : lv_has ls 5 [(0, .ref h0), (1, .long v), (3, .int (nI d)), (4, .int (nI e))] := hl
  refine lv_lload_n S.1 S.2.1 dX0_longer_0 rfl (lv_at hl 1 rfl) ?_
  exact rd_lret S hr hlocks (rfl) dX0_longer_1

theorem pd_X0_joined : yX0_joined.cls = RX0 ∧ yX0_joined.cls ≠ "java/lang/invoke/MethodHandle" ∧ yX0_joined.cls ≠ "java/lang/invoke/VarHandle" ∧ (parseMethodDescriptor yX0_joined.desc).map (fun d => d.parameters.length) = some 2 := by decide +kernel
set_option maxHeartbeats 4000000 in
set_option maxRecDepth 100000 in
theorem r_X0_joined (l : Launch) (D : va_G) (cT : ClassId × ClassId × ClassId) (h0 : Nat) (a b : Int64)  : Met l yX0_joined wsX0_joined ({ frames := 0, cells := 0, slots := 0, locals := 0 }) (va_Pc [.ref h0, .long a, .long b] (sx_R D (TY cT) ([(h0, .inr (0, []))]))) (vp_Sl (fun r_ => r_ = (a + b))) 0 0 (fun _ => False) := by
  refine rd_start (cc := cX0_joined) (maxL := 5) (ret := (some .long)) RX0 ⟨by decide +kernel, rfl⟩ rfl (Nat.le_of_ble_eq_true rfl) ?_
  intro p0 e0 s0 m0 a0 b0 t0 c0 S hr hlocks hP hK ls hl
  have hl : lv_has ls 5 [(0, .ref h0), (1, .long a), (3, .long b)] := hl
  refine lv_lload_n S.1 S.2.1 dX0_joined_0 rfl (lv_at hl 1 rfl) ?_
  refine lv_lload_n S.1 S.2.1 dX0_joined_1 rfl (lv_at hl 2 rfl) ?_
  refine lv_ladd S.1 S.2.1 dX0_joined_2 ?_
  exact rd_lret S hr hlocks (rfl) dX0_joined_3

theorem pd_X5_none : yX5_none.cls = RX5 ∧ yX5_none.cls ≠ "java/lang/invoke/MethodHandle" ∧ yX5_none.cls ≠ "java/lang/invoke/VarHandle" ∧ (parseMethodDescriptor yX5_none.desc).map (fun d => d.parameters.length) = some 0 := by decide +kernel
theorem w_X5_none_0 : Cond.constantLong RX5 41 9223372036854775807 ∈ wsX5_none := by decide +kernel
set_option maxHeartbeats 4000000 in
set_option maxRecDepth 100000 in
theorem r_X5_none (l : Launch) (D : va_G) (cT : ClassId × ClassId × ClassId) (h0 a1 : Nat)  : Met l yX5_none wsX5_none ({ frames := 0, cells := 0, slots := 0, locals := 0 }) (va_Pc [.ref h0] (sx_R D (TY cT) ([(h0, .inr (4, [.ref a1]))]))) (vp_Sl (fun r_ => r_ = 9223372036854775807)) 0 0 (fun _ => False) := by
  refine rd_start (cc := cX5_none) (maxL := 1) (ret := (some .long)) RX5 ⟨by decide +kernel, rfl⟩ rfl (Nat.le_of_ble_eq_true rfl) ?_
  intro p0 e0 s0 m0 a0 b0 t0 c0 S hr hlocks hP hK ls hl
  have hl : lv_has ls 1 [(0, .ref h0)] := hl
  refine lv_ldc2 S.1 S.2.1 (own := RX5) S.2.2.2.1 (S.2.2.2.2 _ w_X5_none_0) dX5_none_0 ?_
  exact rd_lret S hr hlocks (rfl) dX5_none_3

theorem pd_X5_start : yX5_start.cls = RX5 ∧ yX5_start.cls ≠ "java/lang/invoke/MethodHandle" ∧ yX5_start.cls ≠ "java/lang/invoke/VarHandle" ∧ (parseMethodDescriptor yX5_start.desc).map (fun d => d.parameters.length) = some 0 := by decide +kernel
set_option maxHeartbeats 4000000 in
set_option maxRecDepth 100000 in
theorem r_X5_start (l : Launch) (D : va_G) (cT : ClassId × ClassId × ClassId) (h0 a1 : Nat)  : Met l yX5_start wsX5_start ({ frames := 0, cells := 0, slots := 0, locals := 0 }) (va_Pc [.ref h0] (sx_R D (TY cT) ([(h0, .inr (4, [.ref a1]))]))) (vp_Sl (fun r_ => r_ = 0)) 0 0 (fun _ => False) := by
  refine rd_start (cc := cX5_start) (maxL := 1) (ret := (some .long)) RX5 ⟨by decide +kernel, rfl⟩ rfl (Nat.le_of_ble_eq_true rfl) ?_
  intro p0 e0 s0 m0 a0 b0 t0 c0 S hr hlocks hP hK ls hl
  have hl : lv_has ls 1 [(0, .ref h0)] := hl
  refine lv_lconst (v := 0) S.1 S.2.1 dX5_start_0 (by decide) ?_
  exact rd_lret S hr hlocks (rfl) dX5_start_1

theorem pd_X5_longer : yX5_longer.cls = RX5 ∧ yX5_longer.cls ≠ "java/lang/invoke/MethodHandle" ∧ yX5_longer.cls ≠ "java/lang/invoke/VarHandle" ∧ (parseMethodDescriptor yX5_longer.desc).map (fun d => d.parameters.length) = some 3 := by decide +kernel
theorem w_X5_longer_0 : Cond.fieldLink RX5 15 "CoverSheet$Pricing" "prices" "[J" ∈ wsX5_longer := by decide +kernel
theorem in_X5_longer_X5 : ∀ w ∈ u_ws RX5 TX5 1, w ∈ wsX5_longer := by decide +kernel
set_option maxHeartbeats 4000000 in
set_option maxRecDepth 100000 in
theorem r_X5_longer (l : Launch) (D : va_G) (cT : ClassId × ClassId × ClassId) (h0 a1 : Nat) (PR : Nat → Int64) (v : Int64) (d e : Nat) (hd : d < 7) (he : e < 4) : Met l yX5_longer wsX5_longer ({ frames := 0, cells := 0, slots := 0, locals := 0 }) (va_Pc [.ref h0, .long v, .int (nI d), .int (nI e)] (sx_R D (TY cT) ([(h0, .inr (4, [.ref a1])), (a1, .inl (cT.2.1, 28, .inr (.inl PR)))]))) (vp_Sl (fun r_ => r_ = (v + PR (d * 4 + e)))) 0 0 (fun _ => False) := by
  refine rd_start (cc := cX5_longer) (maxL := 6) (ret := (some .long)) RX5 ⟨by decide +kernel, rfl⟩ rfl (Nat.le_of_ble_eq_true rfl) ?_
  intro p0 e0 s0 m0 a0 b0 t0 c0 S hr hlocks hP hK ls hl
  have hl : lv_has ls 6 [(0, .ref h0), (1, .long v), (3, .int (nI d)), (4, .int (nI e))] := hl
  refine lv_iload_n S.1 S.2.1 dX5_longer_0 rfl (lv_at hl 2 rfl) ?_
  refine lv_iconst (v := (nI 4)) S.1 S.2.1 dX5_longer_1 (by decide) ?_
  refine n_mul S dX5_longer_2 ?_
  refine lv_iload S.1 S.2.1 dX5_longer_3 (lv_at hl 3 rfl) ?_
  refine n_add S dX5_longer_5 ?_
  refine lv_istore (lv' := [(5, .int (nI ((d * 4) + e))), (0, .ref h0), (1, .long v), (3, .int (nI d)), (4, .int (nI e))]) S.1 S.2.1 dX5_longer_6 hl (by decide) rfl (fun ls hl => ?_)
  refine lv_iload S.1 S.2.1 dX5_longer_8 (lv_at hl 0 rfl) ?_
  refine n_zlt S (tgt := 23) (by omega) dX5_longer_10 (by decide) ?_
  refine lv_iload S.1 S.2.1 dX5_longer_13 (lv_at hl 0 rfl) ?_
  refine lv_aload_n S.1 S.2.1 dX5_longer_15 rfl (lv_at hl 1 rfl) ?_
  refine g_get (C := RX5) (T := TX5) (N := 1) (v := .ref a1) S 0 4 0 in_X5_longer_X5 hK hP rfl rfl (by decide) w_X5_longer_0 rfl dX5_longer_16 ?_
  refine g_alen S 1 1 hK hP rfl rfl dX5_longer_19 ?_
  refine n_clt S (tgt := 29) (by omega) dX5_longer_20 (by decide) (fun c20 => ?_) (fun c20 => ?_)
  rotate_left
  · exact absurd c20 (by omega)
  refine lv_lload_n S.1 S.2.1 dX5_longer_29 rfl (lv_at hl 2 rfl) ?_
  refine lv_aload_n S.1 S.2.1 dX5_longer_30 rfl (lv_at hl 1 rfl) ?_
  refine g_get (C := RX5) (T := TX5) (N := 1) (v := .ref a1) S 0 4 0 in_X5_longer_X5 hK hP rfl rfl (by decide) w_X5_longer_0 rfl dX5_longer_31 ?_
  refine lv_iload S.1 S.2.1 dX5_longer_34 (lv_at hl 0 rfl) ?_
  refine g_lald S 1 hK hP rfl (by omega) dX5_longer_36 ?_
  refine lv_ladd S.1 S.2.1 dX5_longer_37 ?_
  exact rd_lret S hr hlocks (rfl) dX5_longer_38

theorem pd_X5_joined : yX5_joined.cls = RX5 ∧ yX5_joined.cls ≠ "java/lang/invoke/MethodHandle" ∧ yX5_joined.cls ≠ "java/lang/invoke/VarHandle" ∧ (parseMethodDescriptor yX5_joined.desc).map (fun d => d.parameters.length) = some 2 := by decide +kernel
theorem w_X5_joined_0 : Cond.methodLink RX5 45 Lib.MathLoose.min_long.x ∈ wsX5_joined := by decide +kernel
theorem w_X5_joined_1 : Cond.static Lib.MathLoose.min_long.x ∈ wsX5_joined := by decide +kernel
theorem w_X5_joined_2 : Cond.initialized "java/lang/Math" ∈ wsX5_joined := by decide +kernel
theorem w_X5_joined_3 : Cond.code Lib.MathLoose.min_long.x Lib.MathLoose.min_long.code 4 (some .long) ∈ wsX5_joined := by decide +kernel
set_option maxHeartbeats 4000000 in
set_option maxRecDepth 100000 in
theorem r_X5_joined (l : Launch) (D : va_G) (cT : ClassId × ClassId × ClassId) (h0 a1 : Nat) (a b : Int64)  : Met l yX5_joined wsX5_joined ({ frames := 1, cells := 0, slots := 0, locals := 23 }) (va_Pc [.ref h0, .long a, .long b] (sx_R D (TY cT) ([(h0, .inr (4, [.ref a1]))]))) (vp_Sl (fun r_ => r_ = (if b < a then b else a))) 0 0 (fun _ => False) := by
  refine rd_start (cc := cX5_joined) (maxL := 5) (ret := (some .long)) RX5 ⟨by decide +kernel, rfl⟩ rfl (Nat.le_of_ble_eq_true rfl) ?_
  intro p0 e0 s0 m0 a0 b0 t0 c0 S hr hlocks hP hK ls hl
  have hl : lv_has ls 5 [(0, .ref h0), (1, .long a), (3, .long b)] := hl
  refine lv_lload_n S.1 S.2.1 dX5_joined_0 rfl (lv_at hl 1 rfl) ?_
  refine lv_lload_n S.1 S.2.1 dX5_joined_1 rfl (lv_at hl 2 rfl) ?_
  refine va_mmin_long S.1 S.2.1 (S.2.2.1.trans hl.1.symm) S.2.2.2.1 (S.2.2.2.2 _ w_X5_joined_0) (S.2.2.2.2 _ w_X5_joined_1) (S.2.2.2.2 _ w_X5_joined_2) (S.2.2.2.2 _ w_X5_joined_3) (Nat.le_of_ble_eq_true rfl) (Nat.le_of_ble_eq_true rfl) (Nat.zero_le _) (Nat.zero_le _) dX5_joined_2 ?_
  exact rd_lret S hr hlocks (rfl) dX5_joined_5

theorem pd_X5_weekOf : yX5_weekOf.cls ≠ "java/lang/invoke/MethodHandle" ∧ yX5_weekOf.cls ≠ "java/lang/invoke/VarHandle" ∧ (parseMethodDescriptor yX5_weekOf.desc).map (fun d => d.parameters.length) = some 1 := by decide +kernel
theorem w_X5_weekOf_0 : Cond.constantLong RX5 41 9223372036854775807 ∈ wsX5_weekOf := by decide +kernel
theorem w_X5_weekOf_1 : Cond.constantLong RX5 43 16383 ∈ wsX5_weekOf := by decide +kernel
set_option maxHeartbeats 4000000 in
set_option maxRecDepth 100000 in
theorem r_X5_weekOf (l : Launch) (D : va_G) (cT : ClassId × ClassId × ClassId) (v : Int64)  : Met l yX5_weekOf wsX5_weekOf ({ frames := 0, cells := 0, slots := 0, locals := 0 }) (va_Pc [.long v] (sx_R D (TY cT) ([]))) (vp_Si (fun r_ => r_ = (wkI v))) 0 0 (fun _ => False) := by
  refine rd_start (cc := cX5_weekOf) (maxL := 2) (ret := (some .int)) RX5 ⟨by decide +kernel, rfl⟩ rfl (Nat.le_of_ble_eq_true rfl) ?_
  intro p0 e0 s0 m0 a0 b0 t0 c0 S hr hlocks hP hK ls hl
  have hl : lv_has ls 2 [(0, .long v)] := hl
  refine lv_lload_n S.1 S.2.1 dX5_weekOf_0 rfl (lv_at hl 0 rfl) ?_
  refine lv_ldc2 S.1 S.2.1 (own := RX5) S.2.2.2.1 (S.2.2.2.2 _ w_X5_weekOf_0) dX5_weekOf_1 ?_
  refine n_lne S (tgt := 12) dX5_weekOf_4 dX5_weekOf_5 (by decide) (fun c5 => ?_) (fun c5 => ?_)
  · refine lv_lload_n S.1 S.2.1 dX5_weekOf_12 rfl (lv_at hl 0 rfl) ?_
    refine lv_ldc2 S.1 S.2.1 (own := RX5) S.2.2.2.1 (S.2.2.2.2 _ w_X5_weekOf_1) dX5_weekOf_13 ?_
    refine lv_land S.1 S.2.1 dX5_weekOf_16 ?_
    refine lv_l2i S.1 S.2.1 dX5_weekOf_17 rfl ?_
    exact rd_iret S hr rfl hlocks (show _ = (if v = 9223372036854775807 then 0 else (v &&& 16383).toInt32) from by rw [if_neg c5]) dX5_weekOf_18
  · refine lv_iconst (v := (nI 0)) S.1 S.2.1 dX5_weekOf_8 (by decide) ?_
    refine lv_goto (tgt := 18) S.1 S.2.1 dX5_weekOf_9 (by decide) ?_
    exact rd_iret S hr rfl hlocks (show nI 0 = (if v = 9223372036854775807 then 0 else (v &&& 16383).toInt32) from by rw [if_pos c5]; rfl) dX5_weekOf_18

theorem pd_X5_priceOf : yX5_priceOf.cls ≠ "java/lang/invoke/MethodHandle" ∧ yX5_priceOf.cls ≠ "java/lang/invoke/VarHandle" ∧ (parseMethodDescriptor yX5_priceOf.desc).map (fun d => d.parameters.length) = some 4 := by decide +kernel
theorem w_X5_priceOf_0 : Cond.constantLong RX5 39 16384 ∈ wsX5_priceOf := by decide +kernel
theorem w_X5_priceOf_1 : Cond.constantLong RX5 27 131072 ∈ wsX5_priceOf := by decide +kernel
theorem w_X5_priceOf_2 : Cond.constantLong RX5 25 562949953421312 ∈ wsX5_priceOf := by decide +kernel
theorem w_X5_priceOf_3 : Cond.constantLong RX5 23 4503599627370496 ∈ wsX5_priceOf := by decide +kernel
theorem in_X5_priceOf_X4 : ∀ w ∈ u_ws RX4 TX4 8, w ∈ wsX5_priceOf := by decide +kernel
set_option maxHeartbeats 4000000 in
set_option maxRecDepth 100000 in
theorem r_X5_priceOf (l : Launch) (D : va_G) (cT : ClassId × ClassId × ClassId) (h0 sk mo wk fx wi la da we d e : Nat) (fill : Bool) (hd : d < 7) (he : e < 4) (hs : wi < 128 ∧ we ≤ 8192) : Met l yX5_priceOf wsX5_priceOf ({ frames := 2, cells := 0, slots := 0, locals := 43 }) (va_Pc [.ref h0, .int (nI d), .int (nI e), .int (nI fill.toNat)] (sx_R D (TY cT) ([(h0, .inr (3, [.int (nI sk), .int (nI mo), .int (nI wk), .int (nI fx), .int (nI wi), .int (nI la), .int (nI da), .int (nI we)]))]))) (vp_Sl (fun r_ => r_ = (lN (priN we wi d e fill)))) 0 0 (fun _ => False) := by
  refine rd_start (cc := cX5_priceOf) (maxL := 6) (ret := (some .long)) RX5 ⟨by decide +kernel, rfl⟩ rfl (Nat.le_of_ble_eq_true rfl) ?_
  intro p0 e0 s0 m0 a0 b0 t0 c0 S hr hlocks hP hK ls hl
  have hl : lv_has ls 6 [(0, .ref h0), (1, .int (nI d)), (2, .int (nI e)), (3, .int (nI fill.toNat))] := hl
  have hws := wset_lt (w := 0) (d := d) (e := e) (by decide) hd he
  refine lv_iconst (v := (nI 0)) S.1 S.2.1 dX5_priceOf_0 (by decide) ?_
  refine lv_iload_n S.1 S.2.1 dX5_priceOf_1 rfl (lv_at hl 1 rfl) ?_
  refine lv_iload_n S.1 S.2.1 dX5_priceOf_2 rfl (lv_at hl 2 rfl) ?_
  refine rd_callS (rest := []) S (r_X7_with l D cT 0 d e (by decide) (hd) (he)) gX5_priceOf_X7_with rfl pd_X7_with ⟨rfl, rfl, Nat.le_of_ble_eq_true rfl, Nat.le_of_ble_eq_true rfl⟩ (sx_P0 D _) hK hl rfl rfl (Nat.le_of_ble_eq_true rfl) ⟨Nat.zero_le _, Nat.zero_le _⟩ dX5_priceOf_3 ?_
  refine lv_i2l (v := lN (wset 0 d e)) S.1 S.2.1 dX5_priceOf_6 (nI_l (by omega)) ?_
  refine lv_lstore (lv' := [(4, .long (lN (wset 0 d e))), (0, .ref h0), (1, .int (nI d)), (2, .int (nI e)), (3, .int (nI fill.toNat))]) S.1 S.2.1 dX5_priceOf_7 hl (by decide) rfl (fun ls hl => ?_)
  refine lv_iload_n S.1 S.2.1 dX5_priceOf_9 rfl (lv_at hl 4 rfl) ?_
  refine n_bne S (tgt := 21) dX5_priceOf_10 (by decide) (fun c10 => ?_) (fun c10 => ?_)
  · refine lv_iload_n S.1 S.2.1 dX5_priceOf_21 rfl (lv_at hl 3 rfl) ?_
    refine n_zeq S (tgt := 33) (by omega) dX5_priceOf_22 (by decide) (fun c22 => ?_) (fun c22 => ?_)
    · refine lv_iload_n S.1 S.2.1 dX5_priceOf_33 rfl (lv_at hl 3 rfl) ?_
      refine n_zeq S (tgt := 56) (by omega) dX5_priceOf_34 (by decide) (fun c34 => ?_) (fun c34 => ?_)
      · refine lv_aload_n S.1 S.2.1 dX5_priceOf_56 rfl (lv_at hl 1 rfl) ?_
        refine lv_iload_n S.1 S.2.1 dX5_priceOf_57 rfl (lv_at hl 2 rfl) ?_
        refine lv_iload_n S.1 S.2.1 dX5_priceOf_58 rfl (lv_at hl 3 rfl) ?_
        refine rd_callV (rest := []) S (r_X4_breaksWish l D cT h0 sk mo wk fx wi la da we d e (by omega) (by omega) (by omega)) gX5_priceOf_X4_breaksWish rfl pd_X4_breaksWish ⟨rfl, rfl, Nat.le_of_ble_eq_true rfl, Nat.le_of_ble_eq_true rfl⟩ hP hK (va_recv hK.1 hP (ci := 3) (q0 := 0) rfl rfl) hl rfl rfl (Nat.le_of_ble_eq_true rfl) ⟨Nat.zero_le _, Nat.zero_le _⟩ dX5_priceOf_59 ?_
        refine n_beq S (tgt := 73) dX5_priceOf_62 (by decide) (fun c62 => ?_) (fun c62 => ?_)
        · refine lv_lload S.1 S.2.1 dX5_priceOf_73 (lv_at hl 0 rfl) ?_
          exact rd_lret S hr hlocks (congrArg lN (by simp only [priN, if_pos c10, if_pos c22, if_neg (show ¬ brk wi d e = true by rw [c62]; decide), Nat.add_zero])) dX5_priceOf_75
        · refine lv_lload S.1 S.2.1 dX5_priceOf_65 (lv_at hl 0 rfl) ?_
          refine lv_ldc2 S.1 S.2.1 (own := RX5) S.2.2.2.1 (S.2.2.2.2 _ w_X5_priceOf_0) dX5_priceOf_67 ?_
          refine n_topl (show 16384 = (lN K14) from k14) ?_
          refine lv_ladd S.1 S.2.1 dX5_priceOf_70 ?_
          refine n_topl (lN_add _ _) ?_
          refine lv_lstore (lv' := [(4, .long (lN ((wset 0 d e) + K14))), (0, .ref h0), (1, .int (nI d)), (2, .int (nI e)), (3, .int (nI fill.toNat))]) S.1 S.2.1 dX5_priceOf_71 hl (by decide) rfl (fun ls hl => ?_)
          refine lv_lload S.1 S.2.1 dX5_priceOf_73 (lv_at hl 0 rfl) ?_
          exact rd_lret S hr hlocks (congrArg lN (by simp only [priN, if_pos c10, if_pos c22, if_pos c62, Nat.add_zero])) dX5_priceOf_75
      · refine lv_iload_n S.1 S.2.1 dX5_priceOf_37 rfl (lv_at hl 2 rfl) ?_
        refine lv_iconst (v := (nI 5)) S.1 S.2.1 dX5_priceOf_38 (by decide) ?_
        refine n_clt S (tgt := 56) (by omega) dX5_priceOf_39 (by decide) (fun c39 => ?_) (fun c39 => ?_)
        · refine lv_aload_n S.1 S.2.1 dX5_priceOf_56 rfl (lv_at hl 1 rfl) ?_
          refine lv_iload_n S.1 S.2.1 dX5_priceOf_57 rfl (lv_at hl 2 rfl) ?_
          refine lv_iload_n S.1 S.2.1 dX5_priceOf_58 rfl (lv_at hl 3 rfl) ?_
          refine rd_callV (rest := []) S (r_X4_breaksWish l D cT h0 sk mo wk fx wi la da we d e (by omega) (by omega) (by omega)) gX5_priceOf_X4_breaksWish rfl pd_X4_breaksWish ⟨rfl, rfl, Nat.le_of_ble_eq_true rfl, Nat.le_of_ble_eq_true rfl⟩ hP hK (va_recv hK.1 hP (ci := 3) (q0 := 0) rfl rfl) hl rfl rfl (Nat.le_of_ble_eq_true rfl) ⟨Nat.zero_le _, Nat.zero_le _⟩ dX5_priceOf_59 ?_
          refine n_beq S (tgt := 73) dX5_priceOf_62 (by decide) (fun c62 => ?_) (fun c62 => ?_)
          · refine lv_lload S.1 S.2.1 dX5_priceOf_73 (lv_at hl 0 rfl) ?_
            exact rd_lret S hr hlocks (absurd c22 c34) dX5_priceOf_75
          · refine lv_lload S.1 S.2.1 dX5_priceOf_65 (lv_at hl 0 rfl) ?_
            refine lv_ldc2 S.1 S.2.1 (own := RX5) S.2.2.2.1 (S.2.2.2.2 _ w_X5_priceOf_0) dX5_priceOf_67 ?_
            refine n_topl (show 16384 = (lN K14) from k14) ?_
            refine lv_ladd S.1 S.2.1 dX5_priceOf_70 ?_
            refine n_topl (lN_add _ _) ?_
            refine lv_lstore (lv' := [(4, .long (lN ((wset 0 d e) + K14))), (0, .ref h0), (1, .int (nI d)), (2, .int (nI e)), (3, .int (nI fill.toNat))]) S.1 S.2.1 dX5_priceOf_71 hl (by decide) rfl (fun ls hl => ?_)
            refine lv_lload S.1 S.2.1 dX5_priceOf_73 (lv_at hl 0 rfl) ?_
            exact rd_lret S hr hlocks (absurd c22 c34) dX5_priceOf_75
        · refine lv_lload S.1 S.2.1 dX5_priceOf_42 (lv_at hl 0 rfl) ?_
          refine lv_ldc2 S.1 S.2.1 (own := RX5) S.2.2.2.1 (S.2.2.2.2 _ w_X5_priceOf_1) dX5_priceOf_44 ?_
          refine n_topl (show 131072 = (lN K17) from k17) ?_
          refine lv_aload_n S.1 S.2.1 dX5_priceOf_47 rfl (lv_at hl 1 rfl) ?_
          refine g_getN (C := RX4) (T := TX4) (N := 8) (v := .int (nI we)) S 0 3 7 in_X5_priceOf_X4 hK hP rfl rfl (by decide) (List.mem_of_getElem? (i := 15) rfl) rfl dX5_priceOf_48 ?_
          refine lv_i2l (v := lN we) S.1 S.2.1 dX5_priceOf_51 (nI_l (by omega)) ?_
          refine lv_lmul S.1 S.2.1 dX5_priceOf_52 ?_
          refine n_topl (lN_mul _ _) ?_
          refine lv_ladd S.1 S.2.1 dX5_priceOf_53 ?_
          refine n_topl (lN_add _ _) ?_
          refine lv_lstore (lv' := [(4, .long (lN ((wset 0 d e) + (K17 * we)))), (0, .ref h0), (1, .int (nI d)), (2, .int (nI e)), (3, .int (nI fill.toNat))]) S.1 S.2.1 dX5_priceOf_54 hl (by decide) rfl (fun ls hl => ?_)
          refine lv_aload_n S.1 S.2.1 dX5_priceOf_56 rfl (lv_at hl 1 rfl) ?_
          refine lv_iload_n S.1 S.2.1 dX5_priceOf_57 rfl (lv_at hl 2 rfl) ?_
          refine lv_iload_n S.1 S.2.1 dX5_priceOf_58 rfl (lv_at hl 3 rfl) ?_
          refine rd_callV (rest := []) S (r_X4_breaksWish l D cT h0 sk mo wk fx wi la da we d e (by omega) (by omega) (by omega)) gX5_priceOf_X4_breaksWish rfl pd_X4_breaksWish ⟨rfl, rfl, Nat.le_of_ble_eq_true rfl, Nat.le_of_ble_eq_true rfl⟩ hP hK (va_recv hK.1 hP (ci := 3) (q0 := 0) rfl rfl) hl rfl rfl (Nat.le_of_ble_eq_true rfl) ⟨Nat.zero_le _, Nat.zero_le _⟩ dX5_priceOf_59 ?_
          refine n_beq S (tgt := 73) dX5_priceOf_62 (by decide) (fun c62 => ?_) (fun c62 => ?_)
          · refine lv_lload S.1 S.2.1 dX5_priceOf_73 (lv_at hl 0 rfl) ?_
            exact rd_lret S hr hlocks (absurd c22 c34) dX5_priceOf_75
          · refine lv_lload S.1 S.2.1 dX5_priceOf_65 (lv_at hl 0 rfl) ?_
            refine lv_ldc2 S.1 S.2.1 (own := RX5) S.2.2.2.1 (S.2.2.2.2 _ w_X5_priceOf_0) dX5_priceOf_67 ?_
            refine n_topl (show 16384 = (lN K14) from k14) ?_
            refine lv_ladd S.1 S.2.1 dX5_priceOf_70 ?_
            refine n_topl (lN_add _ _) ?_
            refine lv_lstore (lv' := [(4, .long (lN (((wset 0 d e) + (K17 * we)) + K14))), (0, .ref h0), (1, .int (nI d)), (2, .int (nI e)), (3, .int (nI fill.toNat))]) S.1 S.2.1 dX5_priceOf_71 hl (by decide) rfl (fun ls hl => ?_)
            refine lv_lload S.1 S.2.1 dX5_priceOf_73 (lv_at hl 0 rfl) ?_
            exact rd_lret S hr hlocks (absurd c22 c34) dX5_priceOf_75
    · refine lv_lload S.1 S.2.1 dX5_priceOf_25 (lv_at hl 0 rfl) ?_
      refine lv_ldc2 S.1 S.2.1 (own := RX5) S.2.2.2.1 (S.2.2.2.2 _ w_X5_priceOf_2) dX5_priceOf_27 ?_
      refine n_topl (show 562949953421312 = (lN K49) from k49) ?_
      refine lv_ladd S.1 S.2.1 dX5_priceOf_30 ?_
      refine n_topl (lN_add _ _) ?_
      refine lv_lstore (lv' := [(4, .long (lN ((wset 0 d e) + K49))), (0, .ref h0), (1, .int (nI d)), (2, .int (nI e)), (3, .int (nI fill.toNat))]) S.1 S.2.1 dX5_priceOf_31 hl (by decide) rfl (fun ls hl => ?_)
      refine lv_iload_n S.1 S.2.1 dX5_priceOf_33 rfl (lv_at hl 3 rfl) ?_
      refine n_zeq S (tgt := 56) (by omega) dX5_priceOf_34 (by decide) (fun c34 => ?_) (fun c34 => ?_)
      · refine lv_aload_n S.1 S.2.1 dX5_priceOf_56 rfl (lv_at hl 1 rfl) ?_
        refine lv_iload_n S.1 S.2.1 dX5_priceOf_57 rfl (lv_at hl 2 rfl) ?_
        refine lv_iload_n S.1 S.2.1 dX5_priceOf_58 rfl (lv_at hl 3 rfl) ?_
        refine rd_callV (rest := []) S (r_X4_breaksWish l D cT h0 sk mo wk fx wi la da we d e (by omega) (by omega) (by omega)) gX5_priceOf_X4_breaksWish rfl pd_X4_breaksWish ⟨rfl, rfl, Nat.le_of_ble_eq_true rfl, Nat.le_of_ble_eq_true rfl⟩ hP hK (va_recv hK.1 hP (ci := 3) (q0 := 0) rfl rfl) hl rfl rfl (Nat.le_of_ble_eq_true rfl) ⟨Nat.zero_le _, Nat.zero_le _⟩ dX5_priceOf_59 ?_
        refine n_beq S (tgt := 73) dX5_priceOf_62 (by decide) (fun c62 => ?_) (fun c62 => ?_)
        · refine lv_lload S.1 S.2.1 dX5_priceOf_73 (lv_at hl 0 rfl) ?_
          exact rd_lret S hr hlocks (absurd c34 c22) dX5_priceOf_75
        · refine lv_lload S.1 S.2.1 dX5_priceOf_65 (lv_at hl 0 rfl) ?_
          refine lv_ldc2 S.1 S.2.1 (own := RX5) S.2.2.2.1 (S.2.2.2.2 _ w_X5_priceOf_0) dX5_priceOf_67 ?_
          refine n_topl (show 16384 = (lN K14) from k14) ?_
          refine lv_ladd S.1 S.2.1 dX5_priceOf_70 ?_
          refine n_topl (lN_add _ _) ?_
          refine lv_lstore (lv' := [(4, .long (lN (((wset 0 d e) + K49) + K14))), (0, .ref h0), (1, .int (nI d)), (2, .int (nI e)), (3, .int (nI fill.toNat))]) S.1 S.2.1 dX5_priceOf_71 hl (by decide) rfl (fun ls hl => ?_)
          refine lv_lload S.1 S.2.1 dX5_priceOf_73 (lv_at hl 0 rfl) ?_
          exact rd_lret S hr hlocks (absurd c34 c22) dX5_priceOf_75
      · refine lv_iload_n S.1 S.2.1 dX5_priceOf_37 rfl (lv_at hl 2 rfl) ?_
        refine lv_iconst (v := (nI 5)) S.1 S.2.1 dX5_priceOf_38 (by decide) ?_
        refine n_clt S (tgt := 56) (by omega) dX5_priceOf_39 (by decide) (fun c39 => ?_) (fun c39 => ?_)
        · refine lv_aload_n S.1 S.2.1 dX5_priceOf_56 rfl (lv_at hl 1 rfl) ?_
          refine lv_iload_n S.1 S.2.1 dX5_priceOf_57 rfl (lv_at hl 2 rfl) ?_
          refine lv_iload_n S.1 S.2.1 dX5_priceOf_58 rfl (lv_at hl 3 rfl) ?_
          refine rd_callV (rest := []) S (r_X4_breaksWish l D cT h0 sk mo wk fx wi la da we d e (by omega) (by omega) (by omega)) gX5_priceOf_X4_breaksWish rfl pd_X4_breaksWish ⟨rfl, rfl, Nat.le_of_ble_eq_true rfl, Nat.le_of_ble_eq_true rfl⟩ hP hK (va_recv hK.1 hP (ci := 3) (q0 := 0) rfl rfl) hl rfl rfl (Nat.le_of_ble_eq_true rfl) ⟨Nat.zero_le _, Nat.zero_le _⟩ dX5_priceOf_59 ?_
          refine n_beq S (tgt := 73) dX5_priceOf_62 (by decide) (fun c62 => ?_) (fun c62 => ?_)
          · refine lv_lload S.1 S.2.1 dX5_priceOf_73 (lv_at hl 0 rfl) ?_
            exact rd_lret S hr hlocks (congrArg lN (by simp only [priN, if_pos c10, if_neg c22, if_pos c39, if_neg (show ¬ brk wi d e = true by rw [c62]; decide), Nat.add_zero])) dX5_priceOf_75
          · refine lv_lload S.1 S.2.1 dX5_priceOf_65 (lv_at hl 0 rfl) ?_
            refine lv_ldc2 S.1 S.2.1 (own := RX5) S.2.2.2.1 (S.2.2.2.2 _ w_X5_priceOf_0) dX5_priceOf_67 ?_
            refine n_topl (show 16384 = (lN K14) from k14) ?_
            refine lv_ladd S.1 S.2.1 dX5_priceOf_70 ?_
            refine n_topl (lN_add _ _) ?_
            refine lv_lstore (lv' := [(4, .long (lN (((wset 0 d e) + K49) + K14))), (0, .ref h0), (1, .int (nI d)), (2, .int (nI e)), (3, .int (nI fill.toNat))]) S.1 S.2.1 dX5_priceOf_71 hl (by decide) rfl (fun ls hl => ?_)
            refine lv_lload S.1 S.2.1 dX5_priceOf_73 (lv_at hl 0 rfl) ?_
            exact rd_lret S hr hlocks (congrArg lN (by simp only [priN, if_pos c10, if_neg c22, if_pos c39, if_pos c62, Nat.add_zero])) dX5_priceOf_75
        · refine lv_lload S.1 S.2.1 dX5_priceOf_42 (lv_at hl 0 rfl) ?_
          refine lv_ldc2 S.1 S.2.1 (own := RX5) S.2.2.2.1 (S.2.2.2.2 _ w_X5_priceOf_1) dX5_priceOf_44 ?_
          refine n_topl (show 131072 = (lN K17) from k17) ?_
          refine lv_aload_n S.1 S.2.1 dX5_priceOf_47 rfl (lv_at hl 1 rfl) ?_
          refine g_getN (C := RX4) (T := TX4) (N := 8) (v := .int (nI we)) S 0 3 7 in_X5_priceOf_X4 hK hP rfl rfl (by decide) (List.mem_of_getElem? (i := 15) rfl) rfl dX5_priceOf_48 ?_
          refine lv_i2l (v := lN we) S.1 S.2.1 dX5_priceOf_51 (nI_l (by omega)) ?_
          refine lv_lmul S.1 S.2.1 dX5_priceOf_52 ?_
          refine n_topl (lN_mul _ _) ?_
          refine lv_ladd S.1 S.2.1 dX5_priceOf_53 ?_
          refine n_topl (lN_add _ _) ?_
          refine lv_lstore (lv' := [(4, .long (lN (((wset 0 d e) + K49) + (K17 * we)))), (0, .ref h0), (1, .int (nI d)), (2, .int (nI e)), (3, .int (nI fill.toNat))]) S.1 S.2.1 dX5_priceOf_54 hl (by decide) rfl (fun ls hl => ?_)
          refine lv_aload_n S.1 S.2.1 dX5_priceOf_56 rfl (lv_at hl 1 rfl) ?_
          refine lv_iload_n S.1 S.2.1 dX5_priceOf_57 rfl (lv_at hl 2 rfl) ?_
          refine lv_iload_n S.1 S.2.1 dX5_priceOf_58 rfl (lv_at hl 3 rfl) ?_
          refine rd_callV (rest := []) S (r_X4_breaksWish l D cT h0 sk mo wk fx wi la da we d e (by omega) (by omega) (by omega)) gX5_priceOf_X4_breaksWish rfl pd_X4_breaksWish ⟨rfl, rfl, Nat.le_of_ble_eq_true rfl, Nat.le_of_ble_eq_true rfl⟩ hP hK (va_recv hK.1 hP (ci := 3) (q0 := 0) rfl rfl) hl rfl rfl (Nat.le_of_ble_eq_true rfl) ⟨Nat.zero_le _, Nat.zero_le _⟩ dX5_priceOf_59 ?_
          refine n_beq S (tgt := 73) dX5_priceOf_62 (by decide) (fun c62 => ?_) (fun c62 => ?_)
          · refine lv_lload S.1 S.2.1 dX5_priceOf_73 (lv_at hl 0 rfl) ?_
            exact rd_lret S hr hlocks (congrArg lN (by simp only [priN, if_pos c10, if_neg c22, if_neg (Nat.not_lt.mpr c39), if_neg (show ¬ brk wi d e = true by rw [c62]; decide), Nat.add_zero])) dX5_priceOf_75
          · refine lv_lload S.1 S.2.1 dX5_priceOf_65 (lv_at hl 0 rfl) ?_
            refine lv_ldc2 S.1 S.2.1 (own := RX5) S.2.2.2.1 (S.2.2.2.2 _ w_X5_priceOf_0) dX5_priceOf_67 ?_
            refine n_topl (show 16384 = (lN K14) from k14) ?_
            refine lv_ladd S.1 S.2.1 dX5_priceOf_70 ?_
            refine n_topl (lN_add _ _) ?_
            refine lv_lstore (lv' := [(4, .long (lN ((((wset 0 d e) + K49) + (K17 * we)) + K14))), (0, .ref h0), (1, .int (nI d)), (2, .int (nI e)), (3, .int (nI fill.toNat))]) S.1 S.2.1 dX5_priceOf_71 hl (by decide) rfl (fun ls hl => ?_)
            refine lv_lload S.1 S.2.1 dX5_priceOf_73 (lv_at hl 0 rfl) ?_
            exact rd_lret S hr hlocks (congrArg lN (by simp only [priN, if_pos c10, if_neg c22, if_neg (Nat.not_lt.mpr c39), if_pos c62, Nat.add_zero])) dX5_priceOf_75
  · refine lv_lload S.1 S.2.1 dX5_priceOf_13 (lv_at hl 0 rfl) ?_
    refine lv_ldc2 S.1 S.2.1 (own := RX5) S.2.2.2.1 (S.2.2.2.2 _ w_X5_priceOf_3) dX5_priceOf_15 ?_
    refine n_topl (show 4503599627370496 = (lN K52) from k52) ?_
    refine lv_ladd S.1 S.2.1 dX5_priceOf_18 ?_
    refine n_topl (lN_add _ _) ?_
    refine lv_lstore (lv' := [(4, .long (lN ((wset 0 d e) + K52))), (0, .ref h0), (1, .int (nI d)), (2, .int (nI e)), (3, .int (nI fill.toNat))]) S.1 S.2.1 dX5_priceOf_19 hl (by decide) rfl (fun ls hl => ?_)
    refine lv_iload_n S.1 S.2.1 dX5_priceOf_21 rfl (lv_at hl 3 rfl) ?_
    refine n_zeq S (tgt := 33) (by omega) dX5_priceOf_22 (by decide) (fun c22 => ?_) (fun c22 => ?_)
    · refine lv_iload_n S.1 S.2.1 dX5_priceOf_33 rfl (lv_at hl 3 rfl) ?_
      refine n_zeq S (tgt := 56) (by omega) dX5_priceOf_34 (by decide) (fun c34 => ?_) (fun c34 => ?_)
      · refine lv_aload_n S.1 S.2.1 dX5_priceOf_56 rfl (lv_at hl 1 rfl) ?_
        refine lv_iload_n S.1 S.2.1 dX5_priceOf_57 rfl (lv_at hl 2 rfl) ?_
        refine lv_iload_n S.1 S.2.1 dX5_priceOf_58 rfl (lv_at hl 3 rfl) ?_
        refine rd_callV (rest := []) S (r_X4_breaksWish l D cT h0 sk mo wk fx wi la da we d e (by omega) (by omega) (by omega)) gX5_priceOf_X4_breaksWish rfl pd_X4_breaksWish ⟨rfl, rfl, Nat.le_of_ble_eq_true rfl, Nat.le_of_ble_eq_true rfl⟩ hP hK (va_recv hK.1 hP (ci := 3) (q0 := 0) rfl rfl) hl rfl rfl (Nat.le_of_ble_eq_true rfl) ⟨Nat.zero_le _, Nat.zero_le _⟩ dX5_priceOf_59 ?_
        refine n_beq S (tgt := 73) dX5_priceOf_62 (by decide) (fun c62 => ?_) (fun c62 => ?_)
        · refine lv_lload S.1 S.2.1 dX5_priceOf_73 (lv_at hl 0 rfl) ?_
          exact rd_lret S hr hlocks (congrArg lN (by simp only [priN, if_neg (show ¬ fill = true by rw [c10]; decide), if_pos c22, if_neg (show ¬ brk wi d e = true by rw [c62]; decide), Nat.add_zero])) dX5_priceOf_75
        · refine lv_lload S.1 S.2.1 dX5_priceOf_65 (lv_at hl 0 rfl) ?_
          refine lv_ldc2 S.1 S.2.1 (own := RX5) S.2.2.2.1 (S.2.2.2.2 _ w_X5_priceOf_0) dX5_priceOf_67 ?_
          refine n_topl (show 16384 = (lN K14) from k14) ?_
          refine lv_ladd S.1 S.2.1 dX5_priceOf_70 ?_
          refine n_topl (lN_add _ _) ?_
          refine lv_lstore (lv' := [(4, .long (lN (((wset 0 d e) + K52) + K14))), (0, .ref h0), (1, .int (nI d)), (2, .int (nI e)), (3, .int (nI fill.toNat))]) S.1 S.2.1 dX5_priceOf_71 hl (by decide) rfl (fun ls hl => ?_)
          refine lv_lload S.1 S.2.1 dX5_priceOf_73 (lv_at hl 0 rfl) ?_
          exact rd_lret S hr hlocks (congrArg lN (by simp only [priN, if_neg (show ¬ fill = true by rw [c10]; decide), if_pos c22, if_pos c62, Nat.add_zero])) dX5_priceOf_75
      · refine lv_iload_n S.1 S.2.1 dX5_priceOf_37 rfl (lv_at hl 2 rfl) ?_
        refine lv_iconst (v := (nI 5)) S.1 S.2.1 dX5_priceOf_38 (by decide) ?_
        refine n_clt S (tgt := 56) (by omega) dX5_priceOf_39 (by decide) (fun c39 => ?_) (fun c39 => ?_)
        · refine lv_aload_n S.1 S.2.1 dX5_priceOf_56 rfl (lv_at hl 1 rfl) ?_
          refine lv_iload_n S.1 S.2.1 dX5_priceOf_57 rfl (lv_at hl 2 rfl) ?_
          refine lv_iload_n S.1 S.2.1 dX5_priceOf_58 rfl (lv_at hl 3 rfl) ?_
          refine rd_callV (rest := []) S (r_X4_breaksWish l D cT h0 sk mo wk fx wi la da we d e (by omega) (by omega) (by omega)) gX5_priceOf_X4_breaksWish rfl pd_X4_breaksWish ⟨rfl, rfl, Nat.le_of_ble_eq_true rfl, Nat.le_of_ble_eq_true rfl⟩ hP hK (va_recv hK.1 hP (ci := 3) (q0 := 0) rfl rfl) hl rfl rfl (Nat.le_of_ble_eq_true rfl) ⟨Nat.zero_le _, Nat.zero_le _⟩ dX5_priceOf_59 ?_
          refine n_beq S (tgt := 73) dX5_priceOf_62 (by decide) (fun c62 => ?_) (fun c62 => ?_)
          · refine lv_lload S.1 S.2.1 dX5_priceOf_73 (lv_at hl 0 rfl) ?_
            exact rd_lret S hr hlocks (absurd c22 c34) dX5_priceOf_75
          · refine lv_lload S.1 S.2.1 dX5_priceOf_65 (lv_at hl 0 rfl) ?_
            refine lv_ldc2 S.1 S.2.1 (own := RX5) S.2.2.2.1 (S.2.2.2.2 _ w_X5_priceOf_0) dX5_priceOf_67 ?_
            refine n_topl (show 16384 = (lN K14) from k14) ?_
            refine lv_ladd S.1 S.2.1 dX5_priceOf_70 ?_
            refine n_topl (lN_add _ _) ?_
            refine lv_lstore (lv' := [(4, .long (lN (((wset 0 d e) + K52) + K14))), (0, .ref h0), (1, .int (nI d)), (2, .int (nI e)), (3, .int (nI fill.toNat))]) S.1 S.2.1 dX5_priceOf_71 hl (by decide) rfl (fun ls hl => ?_)
            refine lv_lload S.1 S.2.1 dX5_priceOf_73 (lv_at hl 0 rfl) ?_
            exact rd_lret S hr hlocks (absurd c22 c34) dX5_priceOf_75
        · refine lv_lload S.1 S.2.1 dX5_priceOf_42 (lv_at hl 0 rfl) ?_
          refine lv_ldc2 S.1 S.2.1 (own := RX5) S.2.2.2.1 (S.2.2.2.2 _ w_X5_priceOf_1) dX5_priceOf_44 ?_
          refine n_topl (show 131072 = (lN K17) from k17) ?_
          refine lv_aload_n S.1 S.2.1 dX5_priceOf_47 rfl (lv_at hl 1 rfl) ?_
          refine g_getN (C := RX4) (T := TX4) (N := 8) (v := .int (nI we)) S 0 3 7 in_X5_priceOf_X4 hK hP rfl rfl (by decide) (List.mem_of_getElem? (i := 15) rfl) rfl dX5_priceOf_48 ?_
          refine lv_i2l (v := lN we) S.1 S.2.1 dX5_priceOf_51 (nI_l (by omega)) ?_
          refine lv_lmul S.1 S.2.1 dX5_priceOf_52 ?_
          refine n_topl (lN_mul _ _) ?_
          refine lv_ladd S.1 S.2.1 dX5_priceOf_53 ?_
          refine n_topl (lN_add _ _) ?_
          refine lv_lstore (lv' := [(4, .long (lN (((wset 0 d e) + K52) + (K17 * we)))), (0, .ref h0), (1, .int (nI d)), (2, .int (nI e)), (3, .int (nI fill.toNat))]) S.1 S.2.1 dX5_priceOf_54 hl (by decide) rfl (fun ls hl => ?_)
          refine lv_aload_n S.1 S.2.1 dX5_priceOf_56 rfl (lv_at hl 1 rfl) ?_
          refine lv_iload_n S.1 S.2.1 dX5_priceOf_57 rfl (lv_at hl 2 rfl) ?_
          refine lv_iload_n S.1 S.2.1 dX5_priceOf_58 rfl (lv_at hl 3 rfl) ?_
          refine rd_callV (rest := []) S (r_X4_breaksWish l D cT h0 sk mo wk fx wi la da we d e (by omega) (by omega) (by omega)) gX5_priceOf_X4_breaksWish rfl pd_X4_breaksWish ⟨rfl, rfl, Nat.le_of_ble_eq_true rfl, Nat.le_of_ble_eq_true rfl⟩ hP hK (va_recv hK.1 hP (ci := 3) (q0 := 0) rfl rfl) hl rfl rfl (Nat.le_of_ble_eq_true rfl) ⟨Nat.zero_le _, Nat.zero_le _⟩ dX5_priceOf_59 ?_
          refine n_beq S (tgt := 73) dX5_priceOf_62 (by decide) (fun c62 => ?_) (fun c62 => ?_)
          · refine lv_lload S.1 S.2.1 dX5_priceOf_73 (lv_at hl 0 rfl) ?_
            exact rd_lret S hr hlocks (absurd c22 c34) dX5_priceOf_75
          · refine lv_lload S.1 S.2.1 dX5_priceOf_65 (lv_at hl 0 rfl) ?_
            refine lv_ldc2 S.1 S.2.1 (own := RX5) S.2.2.2.1 (S.2.2.2.2 _ w_X5_priceOf_0) dX5_priceOf_67 ?_
            refine n_topl (show 16384 = (lN K14) from k14) ?_
            refine lv_ladd S.1 S.2.1 dX5_priceOf_70 ?_
            refine n_topl (lN_add _ _) ?_
            refine lv_lstore (lv' := [(4, .long (lN ((((wset 0 d e) + K52) + (K17 * we)) + K14))), (0, .ref h0), (1, .int (nI d)), (2, .int (nI e)), (3, .int (nI fill.toNat))]) S.1 S.2.1 dX5_priceOf_71 hl (by decide) rfl (fun ls hl => ?_)
            refine lv_lload S.1 S.2.1 dX5_priceOf_73 (lv_at hl 0 rfl) ?_
            exact rd_lret S hr hlocks (absurd c22 c34) dX5_priceOf_75
    · refine lv_lload S.1 S.2.1 dX5_priceOf_25 (lv_at hl 0 rfl) ?_
      refine lv_ldc2 S.1 S.2.1 (own := RX5) S.2.2.2.1 (S.2.2.2.2 _ w_X5_priceOf_2) dX5_priceOf_27 ?_
      refine n_topl (show 562949953421312 = (lN K49) from k49) ?_
      refine lv_ladd S.1 S.2.1 dX5_priceOf_30 ?_
      refine n_topl (lN_add _ _) ?_
      refine lv_lstore (lv' := [(4, .long (lN (((wset 0 d e) + K52) + K49))), (0, .ref h0), (1, .int (nI d)), (2, .int (nI e)), (3, .int (nI fill.toNat))]) S.1 S.2.1 dX5_priceOf_31 hl (by decide) rfl (fun ls hl => ?_)
      refine lv_iload_n S.1 S.2.1 dX5_priceOf_33 rfl (lv_at hl 3 rfl) ?_
      refine n_zeq S (tgt := 56) (by omega) dX5_priceOf_34 (by decide) (fun c34 => ?_) (fun c34 => ?_)
      · refine lv_aload_n S.1 S.2.1 dX5_priceOf_56 rfl (lv_at hl 1 rfl) ?_
        refine lv_iload_n S.1 S.2.1 dX5_priceOf_57 rfl (lv_at hl 2 rfl) ?_
        refine lv_iload_n S.1 S.2.1 dX5_priceOf_58 rfl (lv_at hl 3 rfl) ?_
        refine rd_callV (rest := []) S (r_X4_breaksWish l D cT h0 sk mo wk fx wi la da we d e (by omega) (by omega) (by omega)) gX5_priceOf_X4_breaksWish rfl pd_X4_breaksWish ⟨rfl, rfl, Nat.le_of_ble_eq_true rfl, Nat.le_of_ble_eq_true rfl⟩ hP hK (va_recv hK.1 hP (ci := 3) (q0 := 0) rfl rfl) hl rfl rfl (Nat.le_of_ble_eq_true rfl) ⟨Nat.zero_le _, Nat.zero_le _⟩ dX5_priceOf_59 ?_
        refine n_beq S (tgt := 73) dX5_priceOf_62 (by decide) (fun c62 => ?_) (fun c62 => ?_)
        · refine lv_lload S.1 S.2.1 dX5_priceOf_73 (lv_at hl 0 rfl) ?_
          exact rd_lret S hr hlocks (absurd c34 c22) dX5_priceOf_75
        · refine lv_lload S.1 S.2.1 dX5_priceOf_65 (lv_at hl 0 rfl) ?_
          refine lv_ldc2 S.1 S.2.1 (own := RX5) S.2.2.2.1 (S.2.2.2.2 _ w_X5_priceOf_0) dX5_priceOf_67 ?_
          refine n_topl (show 16384 = (lN K14) from k14) ?_
          refine lv_ladd S.1 S.2.1 dX5_priceOf_70 ?_
          refine n_topl (lN_add _ _) ?_
          refine lv_lstore (lv' := [(4, .long (lN ((((wset 0 d e) + K52) + K49) + K14))), (0, .ref h0), (1, .int (nI d)), (2, .int (nI e)), (3, .int (nI fill.toNat))]) S.1 S.2.1 dX5_priceOf_71 hl (by decide) rfl (fun ls hl => ?_)
          refine lv_lload S.1 S.2.1 dX5_priceOf_73 (lv_at hl 0 rfl) ?_
          exact rd_lret S hr hlocks (absurd c34 c22) dX5_priceOf_75
      · refine lv_iload_n S.1 S.2.1 dX5_priceOf_37 rfl (lv_at hl 2 rfl) ?_
        refine lv_iconst (v := (nI 5)) S.1 S.2.1 dX5_priceOf_38 (by decide) ?_
        refine n_clt S (tgt := 56) (by omega) dX5_priceOf_39 (by decide) (fun c39 => ?_) (fun c39 => ?_)
        · refine lv_aload_n S.1 S.2.1 dX5_priceOf_56 rfl (lv_at hl 1 rfl) ?_
          refine lv_iload_n S.1 S.2.1 dX5_priceOf_57 rfl (lv_at hl 2 rfl) ?_
          refine lv_iload_n S.1 S.2.1 dX5_priceOf_58 rfl (lv_at hl 3 rfl) ?_
          refine rd_callV (rest := []) S (r_X4_breaksWish l D cT h0 sk mo wk fx wi la da we d e (by omega) (by omega) (by omega)) gX5_priceOf_X4_breaksWish rfl pd_X4_breaksWish ⟨rfl, rfl, Nat.le_of_ble_eq_true rfl, Nat.le_of_ble_eq_true rfl⟩ hP hK (va_recv hK.1 hP (ci := 3) (q0 := 0) rfl rfl) hl rfl rfl (Nat.le_of_ble_eq_true rfl) ⟨Nat.zero_le _, Nat.zero_le _⟩ dX5_priceOf_59 ?_
          refine n_beq S (tgt := 73) dX5_priceOf_62 (by decide) (fun c62 => ?_) (fun c62 => ?_)
          · refine lv_lload S.1 S.2.1 dX5_priceOf_73 (lv_at hl 0 rfl) ?_
            exact rd_lret S hr hlocks (congrArg lN (by simp only [priN, if_neg (show ¬ fill = true by rw [c10]; decide), if_neg c22, if_pos c39, if_neg (show ¬ brk wi d e = true by rw [c62]; decide), Nat.add_zero])) dX5_priceOf_75
          · refine lv_lload S.1 S.2.1 dX5_priceOf_65 (lv_at hl 0 rfl) ?_
            refine lv_ldc2 S.1 S.2.1 (own := RX5) S.2.2.2.1 (S.2.2.2.2 _ w_X5_priceOf_0) dX5_priceOf_67 ?_
            refine n_topl (show 16384 = (lN K14) from k14) ?_
            refine lv_ladd S.1 S.2.1 dX5_priceOf_70 ?_
            refine n_topl (lN_add _ _) ?_
            refine lv_lstore (lv' := [(4, .long (lN ((((wset 0 d e) + K52) + K49) + K14))), (0, .ref h0), (1, .int (nI d)), (2, .int (nI e)), (3, .int (nI fill.toNat))]) S.1 S.2.1 dX5_priceOf_71 hl (by decide) rfl (fun ls hl => ?_)
            refine lv_lload S.1 S.2.1 dX5_priceOf_73 (lv_at hl 0 rfl) ?_
            exact rd_lret S hr hlocks (congrArg lN (by simp only [priN, if_neg (show ¬ fill = true by rw [c10]; decide), if_neg c22, if_pos c39, if_pos c62, Nat.add_zero])) dX5_priceOf_75
        · refine lv_lload S.1 S.2.1 dX5_priceOf_42 (lv_at hl 0 rfl) ?_
          refine lv_ldc2 S.1 S.2.1 (own := RX5) S.2.2.2.1 (S.2.2.2.2 _ w_X5_priceOf_1) dX5_priceOf_44 ?_
          refine n_topl (show 131072 = (lN K17) from k17) ?_
          refine lv_aload_n S.1 S.2.1 dX5_priceOf_47 rfl (lv_at hl 1 rfl) ?_
          refine g_getN (C := RX4) (T := TX4) (N := 8) (v := .int (nI we)) S 0 3 7 in_X5_priceOf_X4 hK hP rfl rfl (by decide) (List.mem_of_getElem? (i := 15) rfl) rfl dX5_priceOf_48 ?_
          refine lv_i2l (v := lN we) S.1 S.2.1 dX5_priceOf_51 (nI_l (by omega)) ?_
          refine lv_lmul S.1 S.2.1 dX5_priceOf_52 ?_
          refine n_topl (lN_mul _ _) ?_
          refine lv_ladd S.1 S.2.1 dX5_priceOf_53 ?_
          refine n_topl (lN_add _ _) ?_
          refine lv_lstore (lv' := [(4, .long (lN ((((wset 0 d e) + K52) + K49) + (K17 * we)))), (0, .ref h0), (1, .int (nI d)), (2, .int (nI e)), (3, .int (nI fill.toNat))]) S.1 S.2.1 dX5_priceOf_54 hl (by decide) rfl (fun ls hl => ?_)
          refine lv_aload_n S.1 S.2.1 dX5_priceOf_56 rfl (lv_at hl 1 rfl) ?_
          refine lv_iload_n S.1 S.2.1 dX5_priceOf_57 rfl (lv_at hl 2 rfl) ?_
          refine lv_iload_n S.1 S.2.1 dX5_priceOf_58 rfl (lv_at hl 3 rfl) ?_
          refine rd_callV (rest := []) S (r_X4_breaksWish l D cT h0 sk mo wk fx wi la da we d e (by omega) (by omega) (by omega)) gX5_priceOf_X4_breaksWish rfl pd_X4_breaksWish ⟨rfl, rfl, Nat.le_of_ble_eq_true rfl, Nat.le_of_ble_eq_true rfl⟩ hP hK (va_recv hK.1 hP (ci := 3) (q0 := 0) rfl rfl) hl rfl rfl (Nat.le_of_ble_eq_true rfl) ⟨Nat.zero_le _, Nat.zero_le _⟩ dX5_priceOf_59 ?_
          refine n_beq S (tgt := 73) dX5_priceOf_62 (by decide) (fun c62 => ?_) (fun c62 => ?_)
          · refine lv_lload S.1 S.2.1 dX5_priceOf_73 (lv_at hl 0 rfl) ?_
            exact rd_lret S hr hlocks (congrArg lN (by simp only [priN, if_neg (show ¬ fill = true by rw [c10]; decide), if_neg c22, if_neg (Nat.not_lt.mpr c39), if_neg (show ¬ brk wi d e = true by rw [c62]; decide), Nat.add_zero])) dX5_priceOf_75
          · refine lv_lload S.1 S.2.1 dX5_priceOf_65 (lv_at hl 0 rfl) ?_
            refine lv_ldc2 S.1 S.2.1 (own := RX5) S.2.2.2.1 (S.2.2.2.2 _ w_X5_priceOf_0) dX5_priceOf_67 ?_
            refine n_topl (show 16384 = (lN K14) from k14) ?_
            refine lv_ladd S.1 S.2.1 dX5_priceOf_70 ?_
            refine n_topl (lN_add _ _) ?_
            refine lv_lstore (lv' := [(4, .long (lN (((((wset 0 d e) + K52) + K49) + (K17 * we)) + K14))), (0, .ref h0), (1, .int (nI d)), (2, .int (nI e)), (3, .int (nI fill.toNat))]) S.1 S.2.1 dX5_priceOf_71 hl (by decide) rfl (fun ls hl => ?_)
            refine lv_lload S.1 S.2.1 dX5_priceOf_73 (lv_at hl 0 rfl) ?_
            exact rd_lret S hr hlocks (congrArg lN (by simp only [priN, if_neg (show ¬ fill = true by rw [c10]; decide), if_neg c22, if_neg (Nat.not_lt.mpr c39), if_pos c62, Nat.add_zero])) dX5_priceOf_75

theorem pd_X1_placeOf : yX1_placeOf.cls ≠ "java/lang/invoke/MethodHandle" ∧ yX1_placeOf.cls ≠ "java/lang/invoke/VarHandle" ∧ (parseMethodDescriptor yX1_placeOf.desc).map (fun d => d.parameters.length) = some 3 := by decide +kernel
set_option maxHeartbeats 4000000 in
set_option maxRecDepth 100000 in
theorem r_X1_placeOf (l : Launch) (D : va_G) (cT : ClassId × ClassId × ClassId) (s r e : Nat)  : Met l yX1_placeOf wsX1_placeOf ({ frames := 0, cells := 0, slots := 0, locals := 0 }) (va_Pc [.int (nI s), .int (nI r), .int (nI e)] (sx_R D (TY cT) ([]))) (vp_Si (fun r_ => r_ = (nI (pl4 s r e)))) 0 0 (fun _ => False) := by
  refine rd_start (cc := cX1_placeOf) (maxL := 3) (ret := (some .int)) RX1 ⟨by decide +kernel, rfl⟩ rfl (Nat.le_of_ble_eq_true rfl) ?_
  intro p0 e0 s0 m0 a0 b0 t0 c0 S hr hlocks hP hK ls hl
  have hl : lv_has ls 3 [(0, .int (nI s)), (1, .int (nI r)), (2, .int (nI e))] := hl
  refine lv_iload_n S.1 S.2.1 dX1_placeOf_0 rfl (lv_at hl 0 rfl) ?_
  refine lv_bipush (v := (nI 15)) S.1 S.2.1 dX1_placeOf_1 (by decide) ?_
  refine n_mul S dX1_placeOf_3 ?_
  refine lv_iload_n S.1 S.2.1 dX1_placeOf_4 rfl (lv_at hl 1 rfl) ?_
  refine n_add S dX1_placeOf_5 ?_
  refine lv_iconst (v := (nI 4)) S.1 S.2.1 dX1_placeOf_6 (by decide) ?_
  refine n_mul S dX1_placeOf_7 ?_
  refine lv_iload_n S.1 S.2.1 dX1_placeOf_8 rfl (lv_at hl 2 rfl) ?_
  refine n_add S dX1_placeOf_9 ?_
  exact rd_iret S hr rfl hlocks (rfl) dX1_placeOf_10

