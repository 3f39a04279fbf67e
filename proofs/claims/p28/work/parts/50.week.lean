theorem pd_X7_placeOf : yX7_placeOf.cls ≠ "java/lang/invoke/MethodHandle" ∧ yX7_placeOf.cls ≠ "java/lang/invoke/VarHandle" ∧ (parseMethodDescriptor yX7_placeOf.desc).map (fun d => d.parameters.length) = some 1 := by decide +kernel
set_option maxHeartbeats 4000000 in
set_option maxRecDepth 100000 in
theorem r_X7_placeOf (l : Launch) (D : va_G) (cT : ClassId × ClassId × ClassId) (d : Nat) (hd : d < 7) : Met l yX7_placeOf wsX7_placeOf ({ frames := 0, cells := 0, slots := 0, locals := 0 }) (va_Pc [.int (nI d)] (sx_R D (TY cT) ([]))) (vp_Si (fun r_ => r_ = (nI (2 * (6 - d))))) 0 0 (fun _ => False) := by
  refine rd_start (cc := cX7_placeOf) (maxL := 1) (ret := (some .int)) RX7 ⟨by decide +kernel, rfl⟩ rfl (Nat.le_of_ble_eq_true rfl) ?_
  intro p0 e0 s0 m0 a0 b0 t0 c0 S hr hlocks hP hK ls hl
  have hl : lv_has ls 1 [(0, .int (nI d))] := hl
  refine lv_iconst (v := (nI 2)) S.1 S.2.1 dX7_placeOf_0 (by decide) ?_
  refine lv_bipush (v := (nI 6)) S.1 S.2.1 dX7_placeOf_1 (by decide) ?_
  refine lv_iload_n S.1 S.2.1 dX7_placeOf_3 rfl (lv_at hl 0 rfl) ?_
  refine n_sub S (by omega) dX7_placeOf_4 ?_
  refine n_mul S dX7_placeOf_5 ?_
  exact rd_iret S hr rfl hlocks (rfl) dX7_placeOf_6

theorem pd_X7_at : yX7_at.cls ≠ "java/lang/invoke/MethodHandle" ∧ yX7_at.cls ≠ "java/lang/invoke/VarHandle" ∧ (parseMethodDescriptor yX7_at.desc).map (fun d => d.parameters.length) = some 2 := by decide +kernel
set_option maxHeartbeats 4000000 in
set_option maxRecDepth 100000 in
theorem r_X7_at (l : Launch) (D : va_G) (cT : ClassId × ClassId × ClassId) (w d : Nat) (hw : w < 16384) (hd : d < 7) : Met l yX7_at wsX7_at ({ frames := 1, cells := 0, slots := 0, locals := 20 }) (va_Pc [.int (nI w), .int (nI d)] (sx_R D (TY cT) ([]))) (vp_Si (fun r_ => r_ = (nI (ent w d)))) 0 0 (fun _ => False) := by
  refine rd_start (cc := cX7_at) (maxL := 2) (ret := (some .int)) RX7 ⟨by decide +kernel, rfl⟩ rfl (Nat.le_of_ble_eq_true rfl) ?_
  intro p0 e0 s0 m0 a0 b0 t0 c0 S hr hlocks hP hK ls hl
  have hl : lv_has ls 2 [(0, .int (nI w)), (1, .int (nI d))] := hl
  refine lv_iload_n S.1 S.2.1 dX7_at_0 rfl (lv_at hl 0 rfl) ?_
  refine lv_iload_n S.1 S.2.1 dX7_at_1 rfl (lv_at hl 1 rfl) ?_
  refine rd_callS (rest := [.int (nI w)]) S (r_X7_placeOf l D cT d (by omega)) gX7_at_X7_placeOf rfl pd_X7_placeOf ⟨rfl, rfl, Nat.le_of_ble_eq_true rfl, Nat.le_of_ble_eq_true rfl⟩ (sx_P0 D _) hK hl rfl rfl (Nat.le_of_ble_eq_true rfl) ⟨Nat.zero_le _, Nat.zero_le _⟩ dX7_at_2 ?_
  refine n_shr S (by omega) dX7_at_5 ?_
  refine lv_iconst (v := (nI 3)) S.1 S.2.1 dX7_at_6 (by decide) ?_
  refine n_and S dX7_at_7 ?_
  refine n_top (show (nI ((w / 2 ^ (2 * (6 - d))) &&& 3)) = (nI (ent w d)) from congrArg nI (ent_and _)) ?_
  exact rd_iret S hr rfl hlocks (rfl) dX7_at_8

theorem pd_X7_shiftsFrom : yX7_shiftsFrom.cls ≠ "java/lang/invoke/MethodHandle" ∧ yX7_shiftsFrom.cls ≠ "java/lang/invoke/VarHandle" ∧ (parseMethodDescriptor yX7_shiftsFrom.desc).map (fun d => d.parameters.length) = some 2 := by decide +kernel
set_option maxHeartbeats 4000000 in
set_option maxRecDepth 100000 in
theorem r_X7_shiftsFrom (l : Launch) (D : va_G) (cT : ClassId × ClassId × ClassId) (w a : Nat) (hw : w < 16384) (ha : a ≤ 7) : Met l yX7_shiftsFrom wsX7_shiftsFrom ({ frames := 2, cells := 0, slots := 0, locals := 41 }) (va_Pc [.int (nI w), .int (nI a)] (sx_R D (TY cT) ([]))) (vp_Si (fun r_ => r_ = (nI (shc w a (7 - a))))) 0 0 (fun _ => False) := by
  refine rd_start (cc := cX7_shiftsFrom) (maxL := 4) (ret := (some .int)) RX7 ⟨by decide +kernel, rfl⟩ rfl (Nat.le_of_ble_eq_true rfl) ?_
  intro p0 e0 s0 m0 a0 b0 t0 c0 S hr hlocks hP hK ls hl
  have hl : lv_has ls 4 [(0, .int (nI w)), (1, .int (nI a))] := hl
  refine lv_iconst (v := (nI 0)) S.1 S.2.1 dX7_shiftsFrom_0 (by decide) ?_
  refine lv_istore_n (lv' := [(2, .int (nI 0)), (0, .int (nI w)), (1, .int (nI a))]) S.1 S.2.1 dX7_shiftsFrom_1 rfl hl (by decide) rfl (fun ls hl => ?_)
  refine lv_iload_n S.1 S.2.1 dX7_shiftsFrom_2 rfl (lv_at hl 2 rfl) ?_
  refine lv_istore_n (lv' := [(3, .int (nI a)), (2, .int (nI 0)), (0, .int (nI w)), (1, .int (nI a))]) S.1 S.2.1 dX7_shiftsFrom_3 rfl hl (by decide) rfl (fun ls hl => ?_)
  have lp4 : ∀ (fu : Nat) (f : Nat) (d : Nat), (a ≤ d) → (d ≤ 7) → (f = shc w a (d - a)) → (7 - d) < fu → ∀ ls : Array Slot, lv_has ls 4 [(0, .int (nI w)), (1, .int (nI a)), (2, .int (nI f)), (3, .int (nI d))] → W p0 l e0 ({ frames := 2, cells := 0, slots := 0, locals := 41 } : Room) s0 m0 a0 b0 t0 c0 s0.heap [] 0 0 (MQ b0 (vp_Si (fun r_ => r_ = (nI (shc w a (7 - a))))) a0 s0 0 0 (fun _ => False)) (F0 m0 4 ls []) := by
    intro fu
    induction fu with
    | zero =>
      intro f d h1 h2 hf hm
      exact absurd hm (Nat.not_lt_zero _)
    | succ fu ih4 =>
      intro f d h1 h2 hf hm ls hl
      refine lv_iload_n S.1 S.2.1 dX7_shiftsFrom_4 rfl (lv_at hl 3 rfl) ?_
      refine lv_bipush (v := (nI 7)) S.1 S.2.1 dX7_shiftsFrom_5 (by decide) ?_
      refine n_cge S (tgt := 27) (by omega) dX7_shiftsFrom_7 (by decide) (fun c7 => ?_) (fun c7 => ?_)
      · refine lv_iload_n S.1 S.2.1 dX7_shiftsFrom_27 rfl (lv_at hl 2 rfl) ?_
        exact rd_iret S hr rfl hlocks (by rw [hf, show d = 7 by omega]) dX7_shiftsFrom_28
      · refine lv_iload_n S.1 S.2.1 dX7_shiftsFrom_10 rfl (lv_at hl 0 rfl) ?_
        refine lv_iload_n S.1 S.2.1 dX7_shiftsFrom_11 rfl (lv_at hl 3 rfl) ?_
        refine rd_callS (rest := []) S (r_X7_at l D cT w d (by omega) (by omega)) gX7_shiftsFrom_X7_at rfl pd_X7_at ⟨rfl, rfl, Nat.le_of_ble_eq_true rfl, Nat.le_of_ble_eq_true rfl⟩ (sx_P0 D _) hK hl rfl rfl (Nat.le_of_ble_eq_true rfl) ⟨Nat.zero_le _, Nat.zero_le _⟩ dX7_shiftsFrom_12 ?_
        refine n_zeq S (tgt := 21) (Nat.lt_trans (ent_lt _ _) (by decide)) dX7_shiftsFrom_15 (by decide) (fun c15 => ?_) (fun c15 => ?_)
        · refine lv_iinc (v := (nI (d + 1))) (lv' := [(3, .int (nI (d + 1))), (0, .int (nI w)), (1, .int (nI a)), (2, .int (nI f))]) S.1 S.2.1 dX7_shiftsFrom_21 hl (k := 3) rfl (nI_1 _) (by decide) rfl (fun ls hl => ?_)
          refine lv_goto (tgt := 4) S.1 S.2.1 dX7_shiftsFrom_24 (by decide) ?_
          exact ih4 f (d + 1) (by omega) (by omega) (by first | rw [hf, shc_s0 h1 c15] | rw [hf, shc_s1 h1 c15]) (by omega) ls (lv_sub hl [1, 2, 3, 0] rfl)
        · refine lv_iinc (v := (nI (f + 1))) (lv' := [(2, .int (nI (f + 1))), (0, .int (nI w)), (1, .int (nI a)), (3, .int (nI d))]) S.1 S.2.1 dX7_shiftsFrom_18 hl (k := 2) rfl (nI_1 _) (by decide) rfl (fun ls hl => ?_)
          refine lv_iinc (v := (nI (d + 1))) (lv' := [(3, .int (nI (d + 1))), (2, .int (nI (f + 1))), (0, .int (nI w)), (1, .int (nI a))]) S.1 S.2.1 dX7_shiftsFrom_21 hl (k := 3) rfl (nI_1 _) (by decide) rfl (fun ls hl => ?_)
          refine lv_goto (tgt := 4) S.1 S.2.1 dX7_shiftsFrom_24 (by decide) ?_
          exact ih4 (f + 1) (d + 1) (by omega) (by omega) (by first | rw [hf, shc_s0 h1 c15] | rw [hf, shc_s1 h1 c15]) (by omega) ls (lv_sub hl [2, 3, 1, 0] rfl)
  exact lp4 _ 0 a (Nat.le_refl _) (ha) (by rw [Nat.sub_self]; rfl) (Nat.lt_succ_self _) ls (lv_sub hl [2, 3, 1, 0] rfl)

theorem pd_X6_pairOf : yX6_pairOf.cls ≠ "java/lang/invoke/MethodHandle" ∧ yX6_pairOf.cls ≠ "java/lang/invoke/VarHandle" ∧ (parseMethodDescriptor yX6_pairOf.desc).map (fun d => d.parameters.length) = some 2 := by decide +kernel
set_option maxHeartbeats 4000000 in
set_option maxRecDepth 100000 in
theorem r_X6_pairOf (l : Launch) (D : va_G) (cT : ClassId × ClassId × ClassId) (b e : Nat) (hb : b < 4) (he : e < 4) : Met l yX6_pairOf wsX6_pairOf ({ frames := 0, cells := 0, slots := 0, locals := 0 }) (va_Pc [.int (nI b), .int (nI e)] (sx_R D (TY cT) ([]))) (vp_Si (fun r_ => r_ = (nI (1 * 2 ^ (b * 4 + e))))) 0 0 (fun _ => False) := by
  refine rd_start (cc := cX6_pairOf) (maxL := 2) (ret := (some .int)) RX6 ⟨by decide +kernel, rfl⟩ rfl (Nat.le_of_ble_eq_true rfl) ?_
  intro p0 e0 s0 m0 a0 b0 t0 c0 S hr hlocks hP hK ls hl
  have hl : lv_has ls 2 [(0, .int (nI b)), (1, .int (nI e))] := hl
  refine lv_iconst (v := (nI 1)) S.1 S.2.1 dX6_pairOf_0 (by decide) ?_
  refine lv_iload_n S.1 S.2.1 dX6_pairOf_1 rfl (lv_at hl 0 rfl) ?_
  refine lv_iconst (v := (nI 4)) S.1 S.2.1 dX6_pairOf_2 (by decide) ?_
  refine n_mul S dX6_pairOf_3 ?_
  refine lv_iload_n S.1 S.2.1 dX6_pairOf_4 rfl (lv_at hl 1 rfl) ?_
  refine n_add S dX6_pairOf_5 ?_
  refine n_shl S (by omega) dX6_pairOf_6 ?_
  exact rd_iret S hr rfl hlocks (rfl) dX6_pairOf_7

theorem pd_X6_allow : yX6_allow.cls = RX6 ∧ yX6_allow.cls ≠ "java/lang/invoke/MethodHandle" ∧ yX6_allow.cls ≠ "java/lang/invoke/VarHandle" ∧ (parseMethodDescriptor yX6_allow.desc).map (fun d => d.parameters.length) = some 3 := by decide +kernel
theorem w_X6_allow_0 : Cond.fieldLink RX6 19 "CoverSheet$Rules" "longestRun" "I" ∈ wsX6_allow := by decide +kernel
theorem w_X6_allow_1 : Cond.fieldLink RX6 15 "CoverSheet$Rules" "forbidden" "I" ∈ wsX6_allow := by decide +kernel
theorem in_X6_allow_X6 : ∀ w ∈ u_ws RX6 TX6 2, w ∈ wsX6_allow := by decide +kernel
set_option maxHeartbeats 4000000 in
set_option maxRecDepth 100000 in
theorem r_X6_allow (l : Launch) (D : va_G) (cT : ClassId × ClassId × ClassId) (h0 fb rn b r e : Nat) (hb : b < 4) (he : e < 4) (hr0 : r < 2 ^ 31 ∧ rn < 2 ^ 31 ∧ fb < 2 ^ 31) : Met l yX6_allow wsX6_allow ({ frames := 1, cells := 0, slots := 0, locals := 21 }) (va_Pc [.ref h0, .int (nI b), .int (nI r), .int (nI e)] (sx_R D (TY cT) ([(h0, .inr (5, [.int (nI fb), .int (nI rn)]))]))) (vp_Si (fun r_ => r_ = (nI (alw (bit fb) rn b r e).toNat))) 0 0 (fun _ => False) := by
  refine rd_start (cc := cX6_allow) (maxL := 4) (ret := (some .boolean)) RX6 ⟨by decide +kernel, rfl⟩ rfl (Nat.le_of_ble_eq_true rfl) ?_
  intro p0 e0 s0 m0 a0 b0 t0 c0 S hr hlocks hP hK ls hl
  have hl : lv_has ls 4 [(0, .ref h0), (1, .int (nI b)), (2, .int (nI r)), (3, .int (nI e))] := hl
  refine lv_iload_n S.1 S.2.1 dX6_allow_0 rfl (lv_at hl 3 rfl) ?_
  refine n_zeq S (tgt := 25) (by omega) dX6_allow_1 (by decide) (fun c1 => ?_) (fun c1 => ?_)
  · refine lv_iconst (v := (nI 1)) S.1 S.2.1 dX6_allow_25 (by decide) ?_
    refine lv_goto (tgt := 30) S.1 S.2.1 dX6_allow_26 (by decide) ?_
    exact rd_iret S hr (by decide) hlocks (by (try rw [bit_and, Nat.mul_comm b 4] at c22); (try rw [Ne, bit_and, Nat.mul_comm b 4] at c22); exact r_t (by simp only [alw, Bool.or_eq_true, Bool.and_eq_true, decide_eq_true_eq, beq_iff_eq, bne_iff_ne, Bool.not_eq_true]; omega)) dX6_allow_30
  · refine lv_iload_n S.1 S.2.1 dX6_allow_4 rfl (lv_at hl 2 rfl) ?_
    refine lv_aload_n S.1 S.2.1 dX6_allow_5 rfl (lv_at hl 0 rfl) ?_
    refine g_get (C := RX6) (T := TX6) (N := 2) (v := .int (nI rn)) S 0 5 1 in_X6_allow_X6 hK hP rfl rfl (by decide) w_X6_allow_0 rfl dX6_allow_6 ?_
    refine n_cge S (tgt := 29) (by omega) dX6_allow_9 (by decide) (fun c9 => ?_) (fun c9 => ?_)
    · refine lv_iconst (v := (nI 0)) S.1 S.2.1 dX6_allow_29 (by decide) ?_
      exact rd_iret S hr (by decide) hlocks (by (try rw [bit_and, Nat.mul_comm b 4] at c22); (try rw [Ne, bit_and, Nat.mul_comm b 4] at c22); exact r_f (fun h => by simp only [alw, Bool.or_eq_true, Bool.and_eq_true, decide_eq_true_eq, beq_iff_eq, bne_iff_ne, Bool.not_eq_true] at h; omega)) dX6_allow_30
    · refine lv_aload_n S.1 S.2.1 dX6_allow_12 rfl (lv_at hl 0 rfl) ?_
      refine g_get (C := RX6) (T := TX6) (N := 2) (v := .int (nI fb)) S 0 5 0 in_X6_allow_X6 hK hP rfl rfl (by decide) w_X6_allow_1 rfl dX6_allow_13 ?_
      refine lv_iload_n S.1 S.2.1 dX6_allow_16 rfl (lv_at hl 1 rfl) ?_
      refine lv_iload_n S.1 S.2.1 dX6_allow_17 rfl (lv_at hl 3 rfl) ?_
      refine rd_callS (rest := [.int (nI fb)]) S (r_X6_pairOf l D cT b e (by omega) (by omega)) gX6_allow_X6_pairOf rfl pd_X6_pairOf ⟨rfl, rfl, Nat.le_of_ble_eq_true rfl, Nat.le_of_ble_eq_true rfl⟩ (sx_P0 D _) hK hl rfl rfl (Nat.le_of_ble_eq_true rfl) ⟨Nat.zero_le _, Nat.zero_le _⟩ dX6_allow_18 ?_
      refine n_and S dX6_allow_21 ?_
      refine n_zne S (tgt := 29) (Nat.lt_of_le_of_lt Nat.and_le_left (by omega)) dX6_allow_22 (by decide) (fun c22 => ?_) (fun c22 => ?_)
      · refine lv_iconst (v := (nI 0)) S.1 S.2.1 dX6_allow_29 (by decide) ?_
        exact rd_iret S hr (by decide) hlocks (by (try rw [bit_and, Nat.mul_comm b 4] at c22); (try rw [Ne, bit_and, Nat.mul_comm b 4] at c22); exact r_f (fun h => by simp only [alw, Bool.or_eq_true, Bool.and_eq_true, decide_eq_true_eq, beq_iff_eq, bne_iff_ne, Bool.not_eq_true] at h; omega)) dX6_allow_30
      · refine lv_iconst (v := (nI 1)) S.1 S.2.1 dX6_allow_25 (by decide) ?_
        refine lv_goto (tgt := 30) S.1 S.2.1 dX6_allow_26 (by decide) ?_
        exact rd_iret S hr (by decide) hlocks (by (try rw [bit_and, Nat.mul_comm b 4] at c22); (try rw [Ne, bit_and, Nat.mul_comm b 4] at c22); exact r_t (by simp only [alw, Bool.or_eq_true, Bool.and_eq_true, decide_eq_true_eq, beq_iff_eq, bne_iff_ne, Bool.not_eq_true]; omega)) dX6_allow_30

theorem pd_X4_fixedAt : yX4_fixedAt.cls = RX4 ∧ yX4_fixedAt.cls ≠ "java/lang/invoke/MethodHandle" ∧ yX4_fixedAt.cls ≠ "java/lang/invoke/VarHandle" ∧ (parseMethodDescriptor yX4_fixedAt.desc).map (fun d => d.parameters.length) = some 1 := by decide +kernel
theorem w_X4_fixedAt_0 : Cond.fieldLink RX4 34 "CoverSheet$Person" "fixed" "I" ∈ wsX4_fixedAt := by decide +kernel
theorem in_X4_fixedAt_X4 : ∀ w ∈ u_ws RX4 TX4 8, w ∈ wsX4_fixedAt := by decide +kernel
set_option maxHeartbeats 4000000 in
set_option maxRecDepth 100000 in
theorem r_X4_fixedAt (l : Launch) (D : va_G) (cT : ClassId × ClassId × ClassId) (h0 sk mo wk fx wi la da we d : Nat) (hd : d < 7) (hx : fx < 2 ^ 28) : Met l yX4_fixedAt wsX4_fixedAt ({ frames := 0, cells := 0, slots := 0, locals := 0 }) (va_Pc [.ref h0, .int (nI d)] (sx_R D (TY cT) ([(h0, .inr (3, [.int (nI sk), .int (nI mo), .int (nI wk), .int (nI fx), .int (nI wi), .int (nI la), .int (nI da), .int (nI we)]))]))) (vp_Si (fun r_ => r_ = (nI (nib fx d) - nI 1))) 0 0 (fun _ => False) := by
  refine rd_start (cc := cX4_fixedAt) (maxL := 2) (ret := (some .int)) RX4 ⟨by decide +kernel, rfl⟩ rfl (Nat.le_of_ble_eq_true rfl) ?_
  intro p0 e0 s0 m0 a0 b0 t0 c0 S hr hlocks hP hK ls hl
  have hl : lv_has ls 2 [(0, .ref h0), (1, .int (nI d))] := hl
  refine lv_aload_n S.1 S.2.1 dX4_fixedAt_0 rfl (lv_at hl 0 rfl) ?_
  refine g_get (C := RX4) (T := TX4) (N := 8) (v := .int (nI fx)) S 0 3 3 in_X4_fixedAt_X4 hK hP rfl rfl (by decide) w_X4_fixedAt_0 rfl dX4_fixedAt_1 ?_
  refine lv_iconst (v := (nI 4)) S.1 S.2.1 dX4_fixedAt_4 (by decide) ?_
  refine lv_iload_n S.1 S.2.1 dX4_fixedAt_5 rfl (lv_at hl 1 rfl) ?_
  refine n_mul S dX4_fixedAt_6 ?_
  refine n_shr S (by omega) dX4_fixedAt_7 ?_
  refine lv_bipush (v := (nI 15)) S.1 S.2.1 dX4_fixedAt_8 (by decide) ?_
  refine n_and S dX4_fixedAt_10 ?_
  refine n_top (show (nI ((fx / 2 ^ (4 * d)) &&& 15)) = (nI (nib fx d)) from congrArg nI (nib_and _)) ?_
  refine lv_iconst (v := (nI 1)) S.1 S.2.1 dX4_fixedAt_11 (by decide) ?_
  refine lv_isub S.1 S.2.1 dX4_fixedAt_12 ?_
  exact rd_iret S hr rfl hlocks (rfl) dX4_fixedAt_13

theorem pd_X4_mayHave : yX4_mayHave.cls = RX4 ∧ yX4_mayHave.cls ≠ "java/lang/invoke/MethodHandle" ∧ yX4_mayHave.cls ≠ "java/lang/invoke/VarHandle" ∧ (parseMethodDescriptor yX4_mayHave.desc).map (fun d => d.parameters.length) = some 2 := by decide +kernel
theorem w_X4_mayHave_0 : Cond.fieldLink RX4 9 "CoverSheet$Person" "skills" "I" ∈ wsX4_mayHave := by decide +kernel
theorem in_X4_mayHave_X4 : ∀ w ∈ u_ws RX4 TX4 8, w ∈ wsX4_mayHave := by decide +kernel
set_option maxHeartbeats 4000000 in
set_option maxRecDepth 100000 in
theorem r_X4_mayHave (l : Launch) (D : va_G) (cT : ClassId × ClassId × ClassId) (h0 sk mo wk fx wi la da we d e : Nat) (hd : d < 7) (he : e < 4) (hx : fx < 2 ^ 28) (hs : sk < 16) : Met l yX4_mayHave wsX4_mayHave ({ frames := 1, cells := 0, slots := 0, locals := 21 }) (va_Pc [.ref h0, .int (nI d), .int (nI e)] (sx_R D (TY cT) ([(h0, .inr (3, [.int (nI sk), .int (nI mo), .int (nI wk), .int (nI fx), .int (nI wi), .int (nI la), .int (nI da), .int (nI we)]))]))) (vp_Si (fun r_ => r_ = (nI (may sk (nib fx) d e).toNat))) 0 0 (fun _ => False) := by
  refine rd_start (cc := cX4_mayHave) (maxL := 4) (ret := (some .boolean)) RX4 ⟨by decide +kernel, rfl⟩ rfl (Nat.le_of_ble_eq_true rfl) ?_
  intro p0 e0 s0 m0 a0 b0 t0 c0 S hr hlocks hP hK ls hl
  have hl : lv_has ls 4 [(0, .ref h0), (1, .int (nI d)), (2, .int (nI e))] := hl
  refine lv_aload_n S.1 S.2.1 dX4_mayHave_0 rfl (lv_at hl 0 rfl) ?_
  refine lv_iload_n S.1 S.2.1 dX4_mayHave_1 rfl (lv_at hl 1 rfl) ?_
  refine rd_callV (rest := []) S (r_X4_fixedAt l D cT h0 sk mo wk fx wi la da we d (by omega) (by omega)) gX4_mayHave_X4_fixedAt rfl pd_X4_fixedAt ⟨rfl, rfl, Nat.le_of_ble_eq_true rfl, Nat.le_of_ble_eq_true rfl⟩ hP hK (va_recv hK.1 hP (ci := 3) (q0 := 0) rfl rfl) hl rfl rfl (Nat.le_of_ble_eq_true rfl) ⟨Nat.zero_le _, Nat.zero_le _⟩ dX4_mayHave_2 ?_
  refine lv_istore_n (lv' := [(3, .int (nI (nib fx d) - nI 1)), (0, .ref h0), (1, .int (nI d)), (2, .int (nI e))]) S.1 S.2.1 dX4_mayHave_5 rfl hl (by decide) rfl (fun ls hl => ?_)
  refine lv_iload_n S.1 S.2.1 dX4_mayHave_6 rfl (lv_at hl 0 rfl) ?_
  refine lv_iconst (v := (-1)) S.1 S.2.1 dX4_mayHave_7 (by decide) ?_
  refine lv_icmp_eq (tgt := 16) S.1 S.2.1 dX4_mayHave_8 (by decide) (fun c8 => ?_) (fun c8 => ?_)
  · refine lv_iload_n S.1 S.2.1 dX4_mayHave_16 rfl (lv_at hl 3 rfl) ?_
    refine n_zeq S (tgt := 31) (by omega) dX4_mayHave_17 (by decide) (fun c17 => ?_) (fun c17 => ?_)
    · refine lv_iconst (v := (nI 1)) S.1 S.2.1 dX4_mayHave_31 (by decide) ?_
      refine lv_goto (tgt := 36) S.1 S.2.1 dX4_mayHave_32 (by decide) ?_
      exact rd_iret S hr (by decide) hlocks (by (try rw [fx_m1 (nib_lt _ _)] at c8); (try rw [fx_ev (nib_lt _ _) he] at c13); (try rw [bit_and] at c28); (try rw [Ne, bit_and] at c28); have hb := bit_lt sk e; exact r_t (by simp only [may, Bool.or_eq_true, Bool.and_eq_true, decide_eq_true_eq, beq_iff_eq, bne_iff_ne, Bool.not_eq_true]; omega)) dX4_mayHave_36
    · refine lv_aload_n S.1 S.2.1 dX4_mayHave_20 rfl (lv_at hl 1 rfl) ?_
      refine g_get (C := RX4) (T := TX4) (N := 8) (v := .int (nI sk)) S 0 3 0 in_X4_mayHave_X4 hK hP rfl rfl (by decide) w_X4_mayHave_0 rfl dX4_mayHave_21 ?_
      refine lv_iconst (v := (nI 1)) S.1 S.2.1 dX4_mayHave_24 (by decide) ?_
      refine lv_iload_n S.1 S.2.1 dX4_mayHave_25 rfl (lv_at hl 3 rfl) ?_
      refine n_shl S (by omega) dX4_mayHave_26 ?_
      refine n_and S dX4_mayHave_27 ?_
      refine n_zeq S (tgt := 35) (Nat.lt_of_le_of_lt Nat.and_le_left (by omega)) dX4_mayHave_28 (by decide) (fun c28 => ?_) (fun c28 => ?_)
      · refine lv_iconst (v := (nI 0)) S.1 S.2.1 dX4_mayHave_35 (by decide) ?_
        exact rd_iret S hr (by decide) hlocks (by (try rw [fx_m1 (nib_lt _ _)] at c8); (try rw [fx_ev (nib_lt _ _) he] at c13); (try rw [bit_and] at c28); (try rw [Ne, bit_and] at c28); have hb := bit_lt sk e; exact r_f (fun h => by simp only [may, Bool.or_eq_true, Bool.and_eq_true, decide_eq_true_eq, beq_iff_eq, bne_iff_ne, Bool.not_eq_true] at h; omega)) dX4_mayHave_36
      · refine lv_iconst (v := (nI 1)) S.1 S.2.1 dX4_mayHave_31 (by decide) ?_
        refine lv_goto (tgt := 36) S.1 S.2.1 dX4_mayHave_32 (by decide) ?_
        exact rd_iret S hr (by decide) hlocks (by (try rw [fx_m1 (nib_lt _ _)] at c8); (try rw [fx_ev (nib_lt _ _) he] at c13); (try rw [bit_and] at c28); (try rw [Ne, bit_and] at c28); have hb := bit_lt sk e; exact r_t (by simp only [may, Bool.or_eq_true, Bool.and_eq_true, decide_eq_true_eq, beq_iff_eq, bne_iff_ne, Bool.not_eq_true]; omega)) dX4_mayHave_36
  · refine lv_iload_n S.1 S.2.1 dX4_mayHave_11 rfl (lv_at hl 0 rfl) ?_
    refine lv_iload_n S.1 S.2.1 dX4_mayHave_12 rfl (lv_at hl 3 rfl) ?_
    refine lv_icmp_ne (tgt := 35) S.1 S.2.1 dX4_mayHave_13 (by decide) (fun c13 => ?_) (fun c13 => ?_)
    · refine lv_iconst (v := (nI 0)) S.1 S.2.1 dX4_mayHave_35 (by decide) ?_
      exact rd_iret S hr (by decide) hlocks (by (try rw [fx_m1 (nib_lt _ _)] at c8); (try rw [fx_ev (nib_lt _ _) he] at c13); (try rw [bit_and] at c28); (try rw [Ne, bit_and] at c28); have hb := bit_lt sk e; exact r_f (fun h => by simp only [may, Bool.or_eq_true, Bool.and_eq_true, decide_eq_true_eq, beq_iff_eq, bne_iff_ne, Bool.not_eq_true] at h; omega)) dX4_mayHave_36
    · refine lv_iload_n S.1 S.2.1 dX4_mayHave_16 rfl (lv_at hl 3 rfl) ?_
      refine n_zeq S (tgt := 31) (by omega) dX4_mayHave_17 (by decide) (fun c17 => ?_) (fun c17 => ?_)
      · refine lv_iconst (v := (nI 1)) S.1 S.2.1 dX4_mayHave_31 (by decide) ?_
        refine lv_goto (tgt := 36) S.1 S.2.1 dX4_mayHave_32 (by decide) ?_
        exact rd_iret S hr (by decide) hlocks (by (try rw [fx_m1 (nib_lt _ _)] at c8); (try rw [fx_ev (nib_lt _ _) he] at c13); (try rw [bit_and] at c28); (try rw [Ne, bit_and] at c28); have hb := bit_lt sk e; exact r_t (by simp only [may, Bool.or_eq_true, Bool.and_eq_true, decide_eq_true_eq, beq_iff_eq, bne_iff_ne, Bool.not_eq_true]; omega)) dX4_mayHave_36
      · refine lv_aload_n S.1 S.2.1 dX4_mayHave_20 rfl (lv_at hl 1 rfl) ?_
        refine g_get (C := RX4) (T := TX4) (N := 8) (v := .int (nI sk)) S 0 3 0 in_X4_mayHave_X4 hK hP rfl rfl (by decide) w_X4_mayHave_0 rfl dX4_mayHave_21 ?_
        refine lv_iconst (v := (nI 1)) S.1 S.2.1 dX4_mayHave_24 (by decide) ?_
        refine lv_iload_n S.1 S.2.1 dX4_mayHave_25 rfl (lv_at hl 3 rfl) ?_
        refine n_shl S (by omega) dX4_mayHave_26 ?_
        refine n_and S dX4_mayHave_27 ?_
        refine n_zeq S (tgt := 35) (Nat.lt_of_le_of_lt Nat.and_le_left (by omega)) dX4_mayHave_28 (by decide) (fun c28 => ?_) (fun c28 => ?_)
        · refine lv_iconst (v := (nI 0)) S.1 S.2.1 dX4_mayHave_35 (by decide) ?_
          exact rd_iret S hr (by decide) hlocks (by (try rw [fx_m1 (nib_lt _ _)] at c8); (try rw [fx_ev (nib_lt _ _) he] at c13); (try rw [bit_and] at c28); (try rw [Ne, bit_and] at c28); have hb := bit_lt sk e; exact r_f (fun h => by simp only [may, Bool.or_eq_true, Bool.and_eq_true, decide_eq_true_eq, beq_iff_eq, bne_iff_ne, Bool.not_eq_true] at h; omega)) dX4_mayHave_36
        · refine lv_iconst (v := (nI 1)) S.1 S.2.1 dX4_mayHave_31 (by decide) ?_
          refine lv_goto (tgt := 36) S.1 S.2.1 dX4_mayHave_32 (by decide) ?_
          exact rd_iret S hr (by decide) hlocks (by (try rw [fx_m1 (nib_lt _ _)] at c8); (try rw [fx_ev (nib_lt _ _) he] at c13); (try rw [bit_and] at c28); (try rw [Ne, bit_and] at c28); have hb := bit_lt sk e; exact r_t (by simp only [may, Bool.or_eq_true, Bool.and_eq_true, decide_eq_true_eq, beq_iff_eq, bne_iff_ne, Bool.not_eq_true]; omega)) dX4_mayHave_36

theorem pd_X4_breaksWish : yX4_breaksWish.cls = RX4 ∧ yX4_breaksWish.cls ≠ "java/lang/invoke/MethodHandle" ∧ yX4_breaksWish.cls ≠ "java/lang/invoke/VarHandle" ∧ (parseMethodDescriptor yX4_breaksWish.desc).map (fun d => d.parameters.length) = some 2 := by decide +kernel
theorem w_X4_breaksWish_0 : Cond.fieldLink RX4 18 "CoverSheet$Person" "wishes" "I" ∈ wsX4_breaksWish := by decide +kernel
theorem in_X4_breaksWish_X4 : ∀ w ∈ u_ws RX4 TX4 8, w ∈ wsX4_breaksWish := by decide +kernel
set_option maxHeartbeats 4000000 in
set_option maxRecDepth 100000 in
theorem r_X4_breaksWish (l : Launch) (D : va_G) (cT : ClassId × ClassId × ClassId) (h0 sk mo wk fx wi la da we d e : Nat) (hd : d < 7) (he : e < 4) (hs : wi < 128) : Met l yX4_breaksWish wsX4_breaksWish ({ frames := 0, cells := 0, slots := 0, locals := 0 }) (va_Pc [.ref h0, .int (nI d), .int (nI e)] (sx_R D (TY cT) ([(h0, .inr (3, [.int (nI sk), .int (nI mo), .int (nI wk), .int (nI fx), .int (nI wi), .int (nI la), .int (nI da), .int (nI we)]))]))) (vp_Si (fun r_ => r_ = (nI (brk wi d e).toNat))) 0 0 (fun _ => False) := by
  refine rd_start (cc := cX4_breaksWish) (maxL := 3) (ret := (some .boolean)) RX4 ⟨by decide +kernel, rfl⟩ rfl (Nat.le_of_ble_eq_true rfl) ?_
  intro p0 e0 s0 m0 a0 b0 t0 c0 S hr hlocks hP hK ls hl
  have hl : lv_has ls 3 [(0, .ref h0), (1, .int (nI d)), (2, .int (nI e))] := hl
  refine lv_iload_n S.1 S.2.1 dX4_breaksWish_0 rfl (lv_at hl 2 rfl) ?_
  refine n_zeq S (tgt := 19) (by omega) dX4_breaksWish_1 (by decide) (fun c1 => ?_) (fun c1 => ?_)
  · refine lv_iconst (v := (nI 0)) S.1 S.2.1 dX4_breaksWish_19 (by decide) ?_
    exact rd_iret S hr (by decide) hlocks (by (try rw [bit_and] at c12); (try rw [Ne, bit_and] at c12); have hb := bit_lt wi d; exact r_f (fun h => by simp only [brk, Bool.or_eq_true, Bool.and_eq_true, decide_eq_true_eq, beq_iff_eq, bne_iff_ne, Bool.not_eq_true] at h; omega)) dX4_breaksWish_20
  · refine lv_aload_n S.1 S.2.1 dX4_breaksWish_4 rfl (lv_at hl 0 rfl) ?_
    refine g_get (C := RX4) (T := TX4) (N := 8) (v := .int (nI wi)) S 0 3 4 in_X4_breaksWish_X4 hK hP rfl rfl (by decide) w_X4_breaksWish_0 rfl dX4_breaksWish_5 ?_
    refine lv_iconst (v := (nI 1)) S.1 S.2.1 dX4_breaksWish_8 (by decide) ?_
    refine lv_iload_n S.1 S.2.1 dX4_breaksWish_9 rfl (lv_at hl 1 rfl) ?_
    refine n_shl S (by omega) dX4_breaksWish_10 ?_
    refine n_and S dX4_breaksWish_11 ?_
    refine n_zeq S (tgt := 19) (Nat.lt_of_le_of_lt Nat.and_le_left (by omega)) dX4_breaksWish_12 (by decide) (fun c12 => ?_) (fun c12 => ?_)
    · refine lv_iconst (v := (nI 0)) S.1 S.2.1 dX4_breaksWish_19 (by decide) ?_
      exact rd_iret S hr (by decide) hlocks (by (try rw [bit_and] at c12); (try rw [Ne, bit_and] at c12); have hb := bit_lt wi d; exact r_f (fun h => by simp only [brk, Bool.or_eq_true, Bool.and_eq_true, decide_eq_true_eq, beq_iff_eq, bne_iff_ne, Bool.not_eq_true] at h; omega)) dX4_breaksWish_20
    · refine lv_iconst (v := (nI 1)) S.1 S.2.1 dX4_breaksWish_15 (by decide) ?_
      refine lv_goto (tgt := 20) S.1 S.2.1 dX4_breaksWish_16 (by decide) ?_
      exact rd_iret S hr (by decide) hlocks (by (try rw [bit_and] at c12); (try rw [Ne, bit_and] at c12); have hb := bit_lt wi d; exact r_t (by simp only [brk, Bool.or_eq_true, Bool.and_eq_true, decide_eq_true_eq, beq_iff_eq, bne_iff_ne, Bool.not_eq_true]; omega)) dX4_breaksWish_20

theorem pd_X4_brokenWishes : yX4_brokenWishes.cls = RX4 ∧ yX4_brokenWishes.cls ≠ "java/lang/invoke/MethodHandle" ∧ yX4_brokenWishes.cls ≠ "java/lang/invoke/VarHandle" ∧ (parseMethodDescriptor yX4_brokenWishes.desc).map (fun d => d.parameters.length) = some 0 := by decide +kernel
theorem w_X4_brokenWishes_0 : Cond.fieldLink RX4 21 "CoverSheet$Person" "week" "I" ∈ wsX4_brokenWishes := by decide +kernel
theorem in_X4_brokenWishes_X4 : ∀ w ∈ u_ws RX4 TX4 8, w ∈ wsX4_brokenWishes := by decide +kernel
set_option maxHeartbeats 4000000 in
set_option maxRecDepth 100000 in
theorem r_X4_brokenWishes (l : Launch) (D : va_G) (cT : ClassId × ClassId × ClassId) (h0 sk mo wk fx wi la da we : Nat) (hw : wk < 16384) (hs : wi < 128) : Met l yX4_brokenWishes wsX4_brokenWishes ({ frames := 2, cells := 0, slots := 0, locals := 41 }) (va_Pc [.ref h0] (sx_R D (TY cT) ([(h0, .inr (3, [.int (nI sk), .int (nI mo), .int (nI wk), .int (nI fx), .int (nI wi), .int (nI la), .int (nI da), .int (nI we)]))]))) (vp_Si (fun r_ => r_ = (nI (brc wi wk 7)))) 0 0 (fun _ => False) := by
  refine rd_start (cc := cX4_brokenWishes) (maxL := 3) (ret := (some .int)) RX4 ⟨by decide +kernel, rfl⟩ rfl (Nat.le_of_ble_eq_true rfl) ?_
  intro p0 e0 s0 m0 a0 b0 t0 c0 S hr hlocks hP hK ls hl
  have hl : lv_has ls 3 [(0, .ref h0)] := hl
  refine lv_iconst (v := (nI 0)) S.1 S.2.1 dX4_brokenWishes_0 (by decide) ?_
  refine lv_istore_n (lv' := [(1, .int (nI 0)), (0, .ref h0)]) S.1 S.2.1 dX4_brokenWishes_1 rfl hl (by decide) rfl (fun ls hl => ?_)
  refine lv_iconst (v := (nI 0)) S.1 S.2.1 dX4_brokenWishes_2 (by decide) ?_
  refine lv_istore_n (lv' := [(2, .int (nI 0)), (1, .int (nI 0)), (0, .ref h0)]) S.1 S.2.1 dX4_brokenWishes_3 rfl hl (by decide) rfl (fun ls hl => ?_)
  have lp4 : ∀ (fu : Nat) (f : Nat) (d : Nat), (d ≤ 7) → (f = brc wi wk d) → (7 - d) < fu → ∀ ls : Array Slot, lv_has ls 3 [(0, .ref h0), (1, .int (nI f)), (2, .int (nI d))] → W p0 l e0 ({ frames := 2, cells := 0, slots := 0, locals := 41 } : Room) s0 m0 a0 b0 t0 c0 s0.heap [] 0 0 (MQ b0 (vp_Si (fun r_ => r_ = (nI (brc wi wk 7)))) a0 s0 0 0 (fun _ => False)) (F0 m0 4 ls []) := by
    intro fu
    induction fu with
    | zero =>
      intro f d h2 hf hm
      exact absurd hm (Nat.not_lt_zero _)
    | succ fu ih4 =>
      intro f d h2 hf hm ls hl
      refine lv_iload_n S.1 S.2.1 dX4_brokenWishes_4 rfl (lv_at hl 2 rfl) ?_
      refine lv_bipush (v := (nI 7)) S.1 S.2.1 dX4_brokenWishes_5 (by decide) ?_
      refine n_cge S (tgt := 35) (by omega) dX4_brokenWishes_7 (by decide) (fun c7 => ?_) (fun c7 => ?_)
      · refine lv_iload_n S.1 S.2.1 dX4_brokenWishes_35 rfl (lv_at hl 1 rfl) ?_
        exact rd_iret S hr rfl hlocks (by rw [hf, show d = 7 by omega]) dX4_brokenWishes_36
      · refine lv_aload_n S.1 S.2.1 dX4_brokenWishes_10 rfl (lv_at hl 0 rfl) ?_
        refine lv_iload_n S.1 S.2.1 dX4_brokenWishes_11 rfl (lv_at hl 2 rfl) ?_
        refine lv_aload_n S.1 S.2.1 dX4_brokenWishes_12 rfl (lv_at hl 0 rfl) ?_
        refine g_get (C := RX4) (T := TX4) (N := 8) (v := .int (nI wk)) S 0 3 2 in_X4_brokenWishes_X4 hK hP rfl rfl (by decide) w_X4_brokenWishes_0 rfl dX4_brokenWishes_13 ?_
        refine lv_iload_n S.1 S.2.1 dX4_brokenWishes_16 rfl (lv_at hl 2 rfl) ?_
        refine rd_callS (rest := [.int (nI d), .ref h0]) S (r_X7_at l D cT wk d (by omega) (by omega)) gX4_brokenWishes_X7_at rfl pd_X7_at ⟨rfl, rfl, Nat.le_of_ble_eq_true rfl, Nat.le_of_ble_eq_true rfl⟩ (sx_P0 D _) hK hl rfl rfl (Nat.le_of_ble_eq_true rfl) ⟨Nat.zero_le _, Nat.zero_le _⟩ dX4_brokenWishes_17 ?_
        refine rd_callV (rest := []) S (r_X4_breaksWish l D cT h0 sk mo wk fx wi la da we d (ent wk d) (by omega) (ent_lt _ _) (hs)) gX4_brokenWishes_X4_breaksWish rfl pd_X4_breaksWish ⟨rfl, rfl, Nat.le_of_ble_eq_true rfl, Nat.le_of_ble_eq_true rfl⟩ hP hK (va_recv hK.1 hP (ci := 3) (q0 := 0) rfl rfl) hl rfl rfl (Nat.le_of_ble_eq_true rfl) ⟨Nat.zero_le _, Nat.zero_le _⟩ dX4_brokenWishes_20 ?_
        refine n_beq S (tgt := 29) dX4_brokenWishes_23 (by decide) (fun c23 => ?_) (fun c23 => ?_)
        · refine lv_iinc (v := (nI (d + 1))) (lv' := [(2, .int (nI (d + 1))), (0, .ref h0), (1, .int (nI f))]) S.1 S.2.1 dX4_brokenWishes_29 hl (k := 2) rfl (nI_1 _) (by decide) rfl (fun ls hl => ?_)
          refine lv_goto (tgt := 4) S.1 S.2.1 dX4_brokenWishes_32 (by decide) ?_
          exact ih4 f (d + 1) (by omega) (by first | rw [hf, brc_0 c23] | rw [hf, brc_1 c23]) (by omega) ls (lv_sub hl [1, 2, 0] rfl)
        · refine lv_iinc (v := (nI (f + 1))) (lv' := [(1, .int (nI (f + 1))), (0, .ref h0), (2, .int (nI d))]) S.1 S.2.1 dX4_brokenWishes_26 hl (k := 1) rfl (nI_1 _) (by decide) rfl (fun ls hl => ?_)
          refine lv_iinc (v := (nI (d + 1))) (lv' := [(2, .int (nI (d + 1))), (1, .int (nI (f + 1))), (0, .ref h0)]) S.1 S.2.1 dX4_brokenWishes_29 hl (k := 2) rfl (nI_1 _) (by decide) rfl (fun ls hl => ?_)
          refine lv_goto (tgt := 4) S.1 S.2.1 dX4_brokenWishes_32 (by decide) ?_
          exact ih4 (f + 1) (d + 1) (by omega) (by first | rw [hf, brc_0 c23] | rw [hf, brc_1 c23]) (by omega) ls (lv_sub hl [2, 1, 0] rfl)
  exact lp4 _ 0 0 (Nat.zero_le _) (rfl) (Nat.lt_succ_self _) ls (lv_sub hl [2, 1, 0] rfl)

