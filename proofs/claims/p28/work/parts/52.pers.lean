theorem pd_X7_with : yX7_with.cls ≠ "java/lang/invoke/MethodHandle" ∧ yX7_with.cls ≠ "java/lang/invoke/VarHandle" ∧ (parseMethodDescriptor yX7_with.desc).map (fun d => d.parameters.length) = some 3 := by decide +kernel
set_option maxHeartbeats 4000000 in
set_option maxRecDepth 100000 in
theorem r_X7_with (l : Launch) (D : va_G) (cT : ClassId × ClassId × ClassId) (w d e : Nat) (hw : w < 16384) (hd : d < 7) (he : e < 4) : Met l yX7_with wsX7_with ({ frames := 1, cells := 0, slots := 0, locals := 20 }) (va_Pc [.int (nI w), .int (nI d), .int (nI e)] (sx_R D (TY cT) ([]))) (vp_Si (fun r_ => r_ = (nI (wset w d e)))) 0 0 (fun _ => False) := by
  refine rd_start (cc := cX7_with) (maxL := 4) (ret := (some .int)) RX7 ⟨by decide +kernel, rfl⟩ rfl (Nat.le_of_ble_eq_true rfl) ?_
  intro p0 e0 s0 m0 a0 b0 t0 c0 S hr hlocks hP hK ls hl
  have hl : lv_has ls 4 [(0, .int (nI w)), (1, .int (nI d)), (2, .int (nI e))] := hl
  refine lv_iload_n S.1 S.2.1 dX7_with_0 rfl (lv_at hl 1 rfl) ?_
  refine rd_callS (rest := []) S (r_X7_placeOf l D cT d (by omega)) gX7_with_X7_placeOf rfl pd_X7_placeOf ⟨rfl, rfl, Nat.le_of_ble_eq_true rfl, Nat.le_of_ble_eq_true rfl⟩ (sx_P0 D _) hK hl rfl rfl (Nat.le_of_ble_eq_true rfl) ⟨Nat.zero_le _, Nat.zero_le _⟩ dX7_with_1 ?_
  refine lv_istore_n (lv' := [(3, .int (nI (2 * (6 - d)))), (0, .int (nI w)), (1, .int (nI d)), (2, .int (nI e))]) S.1 S.2.1 dX7_with_4 rfl hl (by decide) rfl (fun ls hl => ?_)
  refine lv_iload_n S.1 S.2.1 dX7_with_5 rfl (lv_at hl 1 rfl) ?_
  refine lv_iconst (v := (nI 3)) S.1 S.2.1 dX7_with_6 (by decide) ?_
  refine lv_iload_n S.1 S.2.1 dX7_with_7 rfl (lv_at hl 0 rfl) ?_
  refine n_shl S (by omega) dX7_with_8 ?_
  refine lv_iconst (v := (-1)) S.1 S.2.1 dX7_with_9 (by decide) ?_
  refine lv_ixor S.1 S.2.1 dX7_with_10 ?_
  refine lv_iand S.1 S.2.1 dX7_with_11 ?_
  refine n_top (show ((nI w) &&& ((nI (3 * 2 ^ (2 * (6 - d)))) ^^^ (-1))) = (nI (w - ent w d * 2 ^ (2 * (6 - d)))) from w_clrI _ _) ?_
  refine lv_iload_n S.1 S.2.1 dX7_with_12 rfl (lv_at hl 3 rfl) ?_
  refine lv_iload_n S.1 S.2.1 dX7_with_13 rfl (lv_at hl 0 rfl) ?_
  refine n_shl S (by omega) dX7_with_14 ?_
  refine n_or S dX7_with_15 ?_
  refine n_top (show (nI ((w - ent w d * 2 ^ (2 * (6 - d))) ||| (e * 2 ^ (2 * (6 - d))))) = (nI (wset w d e)) from congrArg nI (w_or _ _ _ he)) ?_
  exact rd_iret S hr rfl hlocks (rfl) dX7_with_16

theorem pd_X3_of : yX3_of.cls = RX3 ∧ yX3_of.cls ≠ "java/lang/invoke/MethodHandle" ∧ yX3_of.cls ≠ "java/lang/invoke/VarHandle" ∧ (parseMethodDescriptor yX3_of.desc).map (fun d => d.parameters.length) = some 2 := by decide +kernel
theorem w_X3_of_0 : Cond.fieldLink RX3 9 "CoverSheet$Needs" "numbers" "[I" ∈ wsX3_of := by decide +kernel
theorem in_X3_of_X3 : ∀ w ∈ u_ws RX3 TX3 1, w ∈ wsX3_of := by decide +kernel
set_option maxHeartbeats 4000000 in
set_option maxRecDepth 100000 in
theorem r_X3_of (l : Launch) (D : va_G) (cT : ClassId × ClassId × ClassId) (h0 a1 : Nat) (nd : Nat → Nat) (d e : Nat) (hd : d < 7) (he : e < 4) : Met l yX3_of wsX3_of ({ frames := 0, cells := 0, slots := 0, locals := 0 }) (va_Pc [.ref h0, .int (nI d), .int (nI e)] (sx_R D (TY cT) ([(h0, .inr (2, [.ref a1])), (a1, .inl (cT.1, 28, .inl (fun k => nI (nd k))))]))) (vp_Si (fun r_ => r_ = (nI (nd (d * 4 + e))))) 0 0 (fun _ => False) := by
  refine rd_start (cc := cX3_of) (maxL := 4) (ret := (some .int)) RX3 ⟨by decide +kernel, rfl⟩ rfl (Nat.le_of_ble_eq_true rfl) ?_
  intro p0 e0 s0 m0 a0 b0 t0 c0 S hr hlocks hP hK ls hl
  have hl : lv_has ls 4 [(0, .ref h0), (1, .int (nI d)), (2, .int (nI e))] := hl
  refine lv_iload_n S.1 S.2.1 dX3_of_0 rfl (lv_at hl 1 rfl) ?_
  refine lv_iconst (v := (nI 4)) S.1 S.2.1 dX3_of_1 (by decide) ?_
  refine n_mul S dX3_of_2 ?_
  refine lv_iload_n S.1 S.2.1 dX3_of_3 rfl (lv_at hl 2 rfl) ?_
  refine n_add S dX3_of_4 ?_
  refine lv_istore_n (lv' := [(3, .int (nI ((d * 4) + e))), (0, .ref h0), (1, .int (nI d)), (2, .int (nI e))]) S.1 S.2.1 dX3_of_5 rfl hl (by decide) rfl (fun ls hl => ?_)
  refine lv_iload_n S.1 S.2.1 dX3_of_6 rfl (lv_at hl 0 rfl) ?_
  refine n_zlt S (tgt := 19) (by omega) dX3_of_7 (by decide) ?_
  refine lv_iload_n S.1 S.2.1 dX3_of_10 rfl (lv_at hl 0 rfl) ?_
  refine lv_aload_n S.1 S.2.1 dX3_of_11 rfl (lv_at hl 1 rfl) ?_
  refine g_get (C := RX3) (T := TX3) (N := 1) (v := .ref a1) S 0 2 0 in_X3_of_X3 hK hP rfl rfl (by decide) w_X3_of_0 rfl dX3_of_12 ?_
  refine g_alen S 1 0 hK hP rfl rfl dX3_of_15 ?_
  refine n_clt S (tgt := 23) (by omega) dX3_of_16 (by decide) (fun c16 => ?_) (fun c16 => ?_)
  rotate_left
  · exact absurd c16 (by omega)
  refine lv_aload_n S.1 S.2.1 dX3_of_23 rfl (lv_at hl 1 rfl) ?_
  refine g_get (C := RX3) (T := TX3) (N := 1) (v := .ref a1) S 0 2 0 in_X3_of_X3 hK hP rfl rfl (by decide) w_X3_of_0 rfl dX3_of_24 ?_
  refine lv_iload_n S.1 S.2.1 dX3_of_27 rfl (lv_at hl 0 rfl) ?_
  refine g_iald S 1 hK hP rfl (by omega) dX3_of_28 ?_
  exact rd_iret S hr rfl hlocks (rfl) dX3_of_29

theorem pd_X4_canHave : yX4_canHave.cls = RX4 ∧ yX4_canHave.cls ≠ "java/lang/invoke/MethodHandle" ∧ yX4_canHave.cls ≠ "java/lang/invoke/VarHandle" ∧ (parseMethodDescriptor yX4_canHave.desc).map (fun d => d.parameters.length) = some 2 := by decide +kernel
theorem w_X4_canHave_0 : Cond.fieldLink RX4 41 "CoverSheet$Person" "lastEntry" "I" ∈ wsX4_canHave := by decide +kernel
theorem w_X4_canHave_1 : Cond.fieldLink RX4 44 "CoverSheet$Person" "daysInARow" "I" ∈ wsX4_canHave := by decide +kernel
theorem w_X4_canHave_2 : Cond.fieldLink RX4 15 "CoverSheet$Person" "most" "I" ∈ wsX4_canHave := by decide +kernel
theorem in_X4_canHave_X4 : ∀ w ∈ u_ws RX4 TX4 8, w ∈ wsX4_canHave := by decide +kernel
set_option maxHeartbeats 4000000 in
set_option maxRecDepth 100000 in
theorem r_X4_canHave (l : Launch) (D : va_G) (cT : ClassId × ClassId × ClassId) (h0 r0 sk mo wk fx wi la da we fb rn w : Nat) (hw : w < 16384) (hs : sk < 16 ∧ mo ≤ 7 ∧ la < 4 ∧ fb < 65536 ∧ rn ≤ 14 ∧ da ≤ 28672) (hx : fx < 2 ^ 28) : Met l yX4_canHave wsX4_canHave ({ frames := 3, cells := 0, slots := 0, locals := 64 }) (va_Pc [.ref h0, .int (nI w), .ref r0] (sx_R D (TY cT) ([(h0, .inr (3, [.int (nI sk), .int (nI mo), .int (nI wk), .int (nI fx), .int (nI wi), .int (nI la), .int (nI da), .int (nI we)])), (r0, .inr (5, [.int (nI fb), .int (nI rn)]))]))) (vp_Si (fun r_ => r_ = (nI (feas sk mo (nib fx) (bit fb) la da rn w).toNat))) 0 0 (fun _ => False) := by
  refine rd_start (cc := cX4_canHave) (maxL := 7) (ret := (some .boolean)) RX4 ⟨by decide +kernel, rfl⟩ rfl (Nat.le_of_ble_eq_true rfl) ?_
  intro p0 e0 s0 m0 a0 b0 t0 c0 S hr hlocks hP hK ls hl
  have hl : lv_has ls 7 [(0, .ref h0), (1, .int (nI w)), (2, .ref r0)] := hl
  refine lv_aload_n S.1 S.2.1 dX4_canHave_0 rfl (lv_at hl 0 rfl) ?_
  refine g_get (C := RX4) (T := TX4) (N := 8) (v := .int (nI la)) S 0 3 5 in_X4_canHave_X4 hK hP rfl rfl (by decide) w_X4_canHave_0 rfl dX4_canHave_1 ?_
  refine lv_istore_n (lv' := [(3, .int (nI la)), (0, .ref h0), (1, .int (nI w)), (2, .ref r0)]) S.1 S.2.1 dX4_canHave_4 rfl hl (by decide) rfl (fun ls hl => ?_)
  refine lv_aload_n S.1 S.2.1 dX4_canHave_5 rfl (lv_at hl 1 rfl) ?_
  refine g_get (C := RX4) (T := TX4) (N := 8) (v := .int (nI da)) S 0 3 6 in_X4_canHave_X4 hK hP rfl rfl (by decide) w_X4_canHave_1 rfl dX4_canHave_6 ?_
  refine lv_istore (lv' := [(4, .int (nI da)), (3, .int (nI la)), (0, .ref h0), (1, .int (nI w)), (2, .ref r0)]) S.1 S.2.1 dX4_canHave_9 hl (by decide) rfl (fun ls hl => ?_)
  refine lv_iconst (v := (nI 0)) S.1 S.2.1 dX4_canHave_11 (by decide) ?_
  refine lv_istore (lv' := [(5, .int (nI 0)), (4, .int (nI da)), (3, .int (nI la)), (0, .ref h0), (1, .int (nI w)), (2, .ref r0)]) S.1 S.2.1 dX4_canHave_12 hl (by decide) rfl (fun ls hl => ?_)
  have lp14 : ∀ (fu : Nat) (b : Nat) (r : Nat) (d : Nat), (d ≤ 7) → (b = bef w la d) → (r = rnb w da d) → (okn sk (nib fx) (bit fb) la da rn w d = true) → (7 - d) < fu → ∀ ls : Array Slot, lv_has ls 7 [(0, .ref h0), (1, .int (nI w)), (2, .ref r0), (3, .int (nI b)), (4, .int (nI r)), (5, .int (nI d))] → W p0 l e0 ({ frames := 3, cells := 0, slots := 0, locals := 64 } : Room) s0 m0 a0 b0 t0 c0 s0.heap [] 0 0 (MQ b0 (vp_Si (fun r_ => r_ = (nI (feas sk mo (nib fx) (bit fb) la da rn w).toNat))) a0 s0 0 0 (fun _ => False)) (F0 m0 14 ls []) := by
    intro fu
    induction fu with
    | zero =>
      intro b r d h2 hb hrr hok hm
      exact absurd hm (Nat.not_lt_zero _)
    | succ fu ih14 =>
      intro b r d h2 hb hrr hok hm ls hl
      have hbl := bef_lt (w := w) hs.2.2.1 d
      have hrl := rnb_le w da d
      refine lv_iload S.1 S.2.1 dX4_canHave_14 (lv_at hl 5 rfl) ?_
      refine lv_bipush (v := (nI 7)) S.1 S.2.1 dX4_canHave_16 (by decide) ?_
      refine n_cge S (tgt := 78) (by omega) dX4_canHave_18 (by decide) (fun c18 => ?_) (fun c18 => ?_)
      · refine lv_iload_n S.1 S.2.1 dX4_canHave_78 rfl (lv_at hl 1 rfl) ?_
        refine lv_iconst (v := (nI 0)) S.1 S.2.1 dX4_canHave_79 (by decide) ?_
        refine rd_callS (rest := []) S (r_X7_shiftsFrom l D cT w 0 (by omega) (by omega)) gX4_canHave_X7_shiftsFrom rfl pd_X7_shiftsFrom ⟨rfl, rfl, Nat.le_of_ble_eq_true rfl, Nat.le_of_ble_eq_true rfl⟩ (sx_P0 D _) hK hl rfl rfl (Nat.le_of_ble_eq_true rfl) ⟨Nat.zero_le _, Nat.zero_le _⟩ dX4_canHave_80 ?_
        refine n_top (show (nI (shc w 0 (7 - 0))) = (nI (shc w 0 7)) from rfl) ?_
        refine lv_aload_n S.1 S.2.1 dX4_canHave_83 rfl (lv_at hl 0 rfl) ?_
        refine g_get (C := RX4) (T := TX4) (N := 8) (v := .int (nI mo)) S 0 3 1 in_X4_canHave_X4 hK hP rfl rfl (by decide) w_X4_canHave_2 rfl dX4_canHave_84 ?_
        refine n_cgt S (tgt := 94) (⟨Nat.lt_of_le_of_lt (shc_le _ _ _) (by decide), by omega⟩) dX4_canHave_87 (by decide) (fun c87 => ?_) (fun c87 => ?_)
        · refine lv_iconst (v := (nI 0)) S.1 S.2.1 dX4_canHave_94 (by decide) ?_
          exact rd_iret S hr (by decide) hlocks (r_f (fun h => by have h2 : (_ && decide (shc w 0 7 ≤ mo)) = true := h; rw [Bool.and_eq_true, decide_eq_true_eq] at h2; omega)) dX4_canHave_95
        · refine lv_iconst (v := (nI 1)) S.1 S.2.1 dX4_canHave_90 (by decide) ?_
          refine lv_goto (tgt := 95) S.1 S.2.1 dX4_canHave_91 (by decide) ?_
          exact rd_iret S hr (by decide) hlocks (r_t (by rw [show d = 7 by omega] at hok; show (_ && decide _) = true; rw [hok, decide_eq_true c87]; rfl)) dX4_canHave_95
      · refine lv_iload_n S.1 S.2.1 dX4_canHave_21 rfl (lv_at hl 1 rfl) ?_
        refine lv_iload S.1 S.2.1 dX4_canHave_22 (lv_at hl 5 rfl) ?_
        refine rd_callS (rest := []) S (r_X7_at l D cT w d (by omega) (by omega)) gX4_canHave_X7_at rfl pd_X7_at ⟨rfl, rfl, Nat.le_of_ble_eq_true rfl, Nat.le_of_ble_eq_true rfl⟩ (sx_P0 D _) hK hl rfl rfl (Nat.le_of_ble_eq_true rfl) ⟨Nat.zero_le _, Nat.zero_le _⟩ dX4_canHave_24 ?_
        refine lv_istore (lv' := [(6, .int (nI (ent w d))), (0, .ref h0), (1, .int (nI w)), (2, .ref r0), (3, .int (nI b)), (4, .int (nI r)), (5, .int (nI d))]) S.1 S.2.1 dX4_canHave_27 hl (by decide) rfl (fun ls hl => ?_)
        refine lv_aload_n S.1 S.2.1 dX4_canHave_29 rfl (lv_at hl 1 rfl) ?_
        refine lv_iload S.1 S.2.1 dX4_canHave_30 (lv_at hl 6 rfl) ?_
        refine lv_iload S.1 S.2.1 dX4_canHave_32 (lv_at hl 0 rfl) ?_
        refine rd_callV (rest := []) S (r_X4_mayHave l D cT h0 sk mo wk fx wi la da we d (ent w d) (by omega) (ent_lt _ _) (hx) (hs.1)) gX4_canHave_X4_mayHave rfl pd_X4_mayHave ⟨rfl, rfl, Nat.le_of_ble_eq_true rfl, Nat.le_of_ble_eq_true rfl⟩ (hP.sub (ws' := [(h0, .inr (3, [.int (nI sk), .int (nI mo), .int (nI wk), .int (nI fx), .int (nI wi), .int (nI la), .int (nI da), .int (nI we)]))]) [0] rfl) hK (va_recv hK.1 hP (ci := 3) (q0 := 0) rfl rfl) hl rfl rfl (Nat.le_of_ble_eq_true rfl) ⟨Nat.zero_le _, Nat.zero_le _⟩ dX4_canHave_34 ?_
        refine n_beq S (tgt := 52) dX4_canHave_37 (by decide) (fun c37 => ?_) (fun c37 => ?_)
        · refine lv_iconst (v := (nI 0)) S.1 S.2.1 dX4_canHave_52 (by decide) ?_
          exact rd_iret S hr (by decide) hlocks (by first | exact r_f (fun h => by rw [feas_f (okd_1 c37) (show d < 7 by omega)] at h; cases h) | exact r_f (fun h => by rw [hb, hrr] at c49; rw [feas_f (okd_2 c49) (show d < 7 by omega)] at h; cases h)) dX4_canHave_53
        · refine lv_aload_n S.1 S.2.1 dX4_canHave_40 rfl (lv_at hl 3 rfl) ?_
          refine lv_iload_n S.1 S.2.1 dX4_canHave_41 rfl (lv_at hl 4 rfl) ?_
          refine lv_iload S.1 S.2.1 dX4_canHave_42 (lv_at hl 5 rfl) ?_
          refine lv_iload S.1 S.2.1 dX4_canHave_44 (lv_at hl 0 rfl) ?_
          refine rd_callV (rest := []) S (r_X6_allow l D cT r0 fb rn b r (ent w d) (by omega) (ent_lt _ _) (⟨by omega, by omega, by omega⟩)) gX4_canHave_X6_allow rfl pd_X6_allow ⟨rfl, rfl, Nat.le_of_ble_eq_true rfl, Nat.le_of_ble_eq_true rfl⟩ (hP.sub (ws' := [(r0, .inr (5, [.int (nI fb), .int (nI rn)]))]) [1] rfl) hK (va_recv hK.1 hP (ci := 5) (q0 := 1) rfl rfl) hl rfl rfl (Nat.le_of_ble_eq_true rfl) ⟨Nat.zero_le _, Nat.zero_le _⟩ dX4_canHave_46 ?_
          refine n_bne S (tgt := 54) dX4_canHave_49 (by decide) (fun c49 => ?_) (fun c49 => ?_)
          · refine lv_iload S.1 S.2.1 dX4_canHave_54 (lv_at hl 0 rfl) ?_
            refine lv_istore_n (lv' := [(3, .int (nI (ent w d))), (6, .int (nI (ent w d))), (0, .ref h0), (1, .int (nI w)), (2, .ref r0), (4, .int (nI r)), (5, .int (nI d))]) S.1 S.2.1 dX4_canHave_56 rfl hl (by decide) rfl (fun ls hl => ?_)
            refine lv_iload S.1 S.2.1 dX4_canHave_57 (lv_at hl 1 rfl) ?_
            refine n_zne S (tgt := 66) (Nat.lt_trans (ent_lt _ _) (by decide)) dX4_canHave_59 (by decide) (fun c59 => ?_) (fun c59 => ?_)
            · refine lv_iload S.1 S.2.1 dX4_canHave_66 (lv_at hl 5 rfl) ?_
              refine lv_iconst (v := (nI 1)) S.1 S.2.1 dX4_canHave_68 (by decide) ?_
              refine n_add S dX4_canHave_69 ?_
              refine lv_istore (lv' := [(4, .int (nI (r + 1))), (3, .int (nI (ent w d))), (6, .int (nI (ent w d))), (0, .ref h0), (1, .int (nI w)), (2, .ref r0), (5, .int (nI d))]) S.1 S.2.1 dX4_canHave_70 hl (by decide) rfl (fun ls hl => ?_)
              refine lv_iinc (v := (nI (d + 1))) (lv' := [(5, .int (nI (d + 1))), (4, .int (nI (r + 1))), (3, .int (nI (ent w d))), (6, .int (nI (ent w d))), (0, .ref h0), (1, .int (nI w)), (2, .ref r0)]) S.1 S.2.1 dX4_canHave_72 hl (k := 6) rfl (nI_1 _) (by decide) rfl (fun ls hl => ?_)
              refine lv_goto (tgt := 14) S.1 S.2.1 dX4_canHave_75 (by decide) ?_
              exact ih14 (ent w d) (r + 1) (d + 1) (by omega) (rfl) (by first | exact (if_pos c59).symm | (rw [hrr]; exact (if_neg c59).symm)) (okn_s hok c37 (by rw [← hb, ← hrr]; exact c49)) (by omega) ls (lv_sub hl [4, 5, 6, 2, 1, 0] rfl)
            · refine lv_iconst (v := (nI 0)) S.1 S.2.1 dX4_canHave_62 (by decide) ?_
              refine lv_goto (tgt := 70) S.1 S.2.1 dX4_canHave_63 (by decide) ?_
              refine lv_istore (lv' := [(4, .int (nI 0)), (3, .int (nI (ent w d))), (6, .int (nI (ent w d))), (0, .ref h0), (1, .int (nI w)), (2, .ref r0), (5, .int (nI d))]) S.1 S.2.1 dX4_canHave_70 hl (by decide) rfl (fun ls hl => ?_)
              refine lv_iinc (v := (nI (d + 1))) (lv' := [(5, .int (nI (d + 1))), (4, .int (nI 0)), (3, .int (nI (ent w d))), (6, .int (nI (ent w d))), (0, .ref h0), (1, .int (nI w)), (2, .ref r0)]) S.1 S.2.1 dX4_canHave_72 hl (k := 6) rfl (nI_1 _) (by decide) rfl (fun ls hl => ?_)
              refine lv_goto (tgt := 14) S.1 S.2.1 dX4_canHave_75 (by decide) ?_
              exact ih14 (ent w d) 0 (d + 1) (by omega) (rfl) (by first | exact (if_pos c59).symm | (rw [hrr]; exact (if_neg c59).symm)) (okn_s hok c37 (by rw [← hb, ← hrr]; exact c49)) (by omega) ls (lv_sub hl [4, 5, 6, 2, 1, 0] rfl)
          · refine lv_iconst (v := (nI 0)) S.1 S.2.1 dX4_canHave_52 (by decide) ?_
            exact rd_iret S hr (by decide) hlocks (by first | exact r_f (fun h => by rw [feas_f (okd_1 c37) (show d < 7 by omega)] at h; cases h) | exact r_f (fun h => by rw [hb, hrr] at c49; rw [feas_f (okd_2 c49) (show d < 7 by omega)] at h; cases h)) dX4_canHave_53
  exact lp14 _ la da 0 (Nat.zero_le _) (rfl) (rfl) (rfl) (Nat.lt_succ_self _) ls (lv_sub hl [3, 4, 5, 2, 1, 0] rfl)

theorem pd_X8_isDay : yX8_isDay.cls ≠ "java/lang/invoke/MethodHandle" ∧ yX8_isDay.cls ≠ "java/lang/invoke/VarHandle" ∧ (parseMethodDescriptor yX8_isDay.desc).map (fun d => d.parameters.length) = some 1 := by decide +kernel
set_option maxHeartbeats 4000000 in
set_option maxRecDepth 100000 in
theorem r_X8_isDay (l : Launch) (D : va_G) (cT : ClassId × ClassId × ClassId) (d : Nat) (hd : d < 7) : Met l yX8_isDay wsX8_isDay ({ frames := 0, cells := 0, slots := 0, locals := 0 }) (va_Pc [.int (nI d)] (sx_R D (TY cT) ([]))) (vp_Si (fun r_ => r_ = (nI true.toNat))) 0 0 (fun _ => False) := by
  refine rd_start (cc := cX8_isDay) (maxL := 1) (ret := (some .boolean)) RX8 ⟨by decide +kernel, rfl⟩ rfl (Nat.le_of_ble_eq_true rfl) ?_
  intro p0 e0 s0 m0 a0 b0 t0 c0 S hr hlocks hP hK ls hl
  have hl : lv_has ls 1 [(0, .int (nI d))] := hl
  refine lv_iload_n S.1 S.2.1 dX8_isDay_0 rfl (lv_at hl 0 rfl) ?_
  refine n_zlt S (tgt := 14) (by omega) dX8_isDay_1 (by decide) ?_
  refine lv_iload_n S.1 S.2.1 dX8_isDay_4 rfl (lv_at hl 0 rfl) ?_
  refine lv_bipush (v := (nI 7)) S.1 S.2.1 dX8_isDay_5 (by decide) ?_
  refine n_cge S (tgt := 14) (by omega) dX8_isDay_7 (by decide) (fun c7 => ?_) (fun c7 => ?_)
  · exact absurd c7 (by omega)
  refine lv_iconst (v := (nI 1)) S.1 S.2.1 dX8_isDay_10 (by decide) ?_
  refine lv_goto (tgt := 15) S.1 S.2.1 dX8_isDay_11 (by decide) ?_
  exact rd_iret S hr (by decide) hlocks (rfl) dX8_isDay_15

set_option maxHeartbeats 4000000 in
set_option maxRecDepth 100000 in
theorem r_X8_isDay_x (l : Launch) (D : va_G) (cT : ClassId × ClassId × ClassId) (x : Int32) (hx : PX x 7) : Met l yX8_isDay wsX8_isDay ({ frames := 0, cells := 0, slots := 0, locals := 0 }) (va_Pc [.int x] (sx_R D (TY cT) ([]))) (vp_Si (fun r_ => r_ = (nI false.toNat))) 0 0 (fun _ => False) := by
  refine rd_start (cc := cX8_isDay) (maxL := 1) (ret := (some .boolean)) RX8 ⟨by decide +kernel, rfl⟩ rfl (Nat.le_of_ble_eq_true rfl) ?_
  intro p0 e0 s0 m0 a0 b0 t0 c0 S hr hlocks hP hK ls hl
  have hl : lv_has ls 1 [(0, .int x)] := hl
  refine lv_iload_n S.1 S.2.1 dX8_isDay_0 rfl (lv_at hl 0 rfl) ?_
  refine lv_if_lt (tgt := 14) S.1 S.2.1 dX8_isDay_1 (by decide) (fun c1 => ?_) (fun c1 => ?_)
  · refine lv_iconst (v := (nI 0)) S.1 S.2.1 dX8_isDay_14 (by decide) ?_
    exact rd_iret S hr (by decide) hlocks (rfl) dX8_isDay_15
  · refine lv_iload_n S.1 S.2.1 dX8_isDay_4 rfl (lv_at hl 0 rfl) ?_
    refine lv_bipush (v := (nI 7)) S.1 S.2.1 dX8_isDay_5 (by decide) ?_
    refine lv_icmp_ge (tgt := 14) S.1 S.2.1 dX8_isDay_7 (by decide) (fun c7 => ?_) (fun c7 => ?_)
    rotate_left
    · exact absurd hx (fun h => h.elim c1 c7)
    refine lv_iconst (v := (nI 0)) S.1 S.2.1 dX8_isDay_14 (by decide) ?_
    exact rd_iret S hr (by decide) hlocks (rfl) dX8_isDay_15

theorem pd_X8_isEntry : yX8_isEntry.cls ≠ "java/lang/invoke/MethodHandle" ∧ yX8_isEntry.cls ≠ "java/lang/invoke/VarHandle" ∧ (parseMethodDescriptor yX8_isEntry.desc).map (fun d => d.parameters.length) = some 1 := by decide +kernel
set_option maxHeartbeats 4000000 in
set_option maxRecDepth 100000 in
theorem r_X8_isEntry (l : Launch) (D : va_G) (cT : ClassId × ClassId × ClassId) (e : Nat) (hd : e < 4) : Met l yX8_isEntry wsX8_isEntry ({ frames := 0, cells := 0, slots := 0, locals := 0 }) (va_Pc [.int (nI e)] (sx_R D (TY cT) ([]))) (vp_Si (fun r_ => r_ = (nI true.toNat))) 0 0 (fun _ => False) := by
  refine rd_start (cc := cX8_isEntry) (maxL := 1) (ret := (some .boolean)) RX8 ⟨by decide +kernel, rfl⟩ rfl (Nat.le_of_ble_eq_true rfl) ?_
  intro p0 e0 s0 m0 a0 b0 t0 c0 S hr hlocks hP hK ls hl
  have hl : lv_has ls 1 [(0, .int (nI e))] := hl
  refine lv_iload_n S.1 S.2.1 dX8_isEntry_0 rfl (lv_at hl 0 rfl) ?_
  refine n_zlt S (tgt := 13) (by omega) dX8_isEntry_1 (by decide) ?_
  refine lv_iload_n S.1 S.2.1 dX8_isEntry_4 rfl (lv_at hl 0 rfl) ?_
  refine lv_iconst (v := (nI 3)) S.1 S.2.1 dX8_isEntry_5 (by decide) ?_
  refine n_cgt S (tgt := 13) (by omega) dX8_isEntry_6 (by decide) (fun c6 => ?_) (fun c6 => ?_)
  · exact absurd c6 (by omega)
  refine lv_iconst (v := (nI 1)) S.1 S.2.1 dX8_isEntry_9 (by decide) ?_
  refine lv_goto (tgt := 14) S.1 S.2.1 dX8_isEntry_10 (by decide) ?_
  exact rd_iret S hr (by decide) hlocks (rfl) dX8_isEntry_14

set_option maxHeartbeats 4000000 in
set_option maxRecDepth 100000 in
theorem r_X8_isEntry_x (l : Launch) (D : va_G) (cT : ClassId × ClassId × ClassId) (x : Int32) (hx : x < nI 0 ∨ nI 3 < x) : Met l yX8_isEntry wsX8_isEntry ({ frames := 0, cells := 0, slots := 0, locals := 0 }) (va_Pc [.int x] (sx_R D (TY cT) ([]))) (vp_Si (fun r_ => r_ = (nI false.toNat))) 0 0 (fun _ => False) := by
  refine rd_start (cc := cX8_isEntry) (maxL := 1) (ret := (some .boolean)) RX8 ⟨by decide +kernel, rfl⟩ rfl (Nat.le_of_ble_eq_true rfl) ?_
  intro p0 e0 s0 m0 a0 b0 t0 c0 S hr hlocks hP hK ls hl
  have hl : lv_has ls 1 [(0, .int x)] := hl
  refine lv_iload_n S.1 S.2.1 dX8_isEntry_0 rfl (lv_at hl 0 rfl) ?_
  refine lv_if_lt (tgt := 13) S.1 S.2.1 dX8_isEntry_1 (by decide) (fun c1 => ?_) (fun c1 => ?_)
  · refine lv_iconst (v := (nI 0)) S.1 S.2.1 dX8_isEntry_13 (by decide) ?_
    exact rd_iret S hr (by decide) hlocks (rfl) dX8_isEntry_14
  · refine lv_iload_n S.1 S.2.1 dX8_isEntry_4 rfl (lv_at hl 0 rfl) ?_
    refine lv_iconst (v := (nI 3)) S.1 S.2.1 dX8_isEntry_5 (by decide) ?_
    refine lv_icmp_gt (tgt := 13) S.1 S.2.1 dX8_isEntry_6 (by decide) (fun c6 => ?_) (fun c6 => ?_)
    rotate_left
    · exact absurd hx (fun h => h.elim c1 c6)
    refine lv_iconst (v := (nI 0)) S.1 S.2.1 dX8_isEntry_13 (by decide) ?_
    exact rd_iret S hr (by decide) hlocks (rfl) dX8_isEntry_14

theorem pd_X8_isKind : yX8_isKind.cls ≠ "java/lang/invoke/MethodHandle" ∧ yX8_isKind.cls ≠ "java/lang/invoke/VarHandle" ∧ (parseMethodDescriptor yX8_isKind.desc).map (fun d => d.parameters.length) = some 1 := by decide +kernel
set_option maxHeartbeats 4000000 in
set_option maxRecDepth 100000 in
theorem r_X8_isKind (l : Launch) (D : va_G) (cT : ClassId × ClassId × ClassId) (e : Nat) (hd : 1 ≤ e ∧ e < 4) : Met l yX8_isKind wsX8_isKind ({ frames := 0, cells := 0, slots := 0, locals := 0 }) (va_Pc [.int (nI e)] (sx_R D (TY cT) ([]))) (vp_Si (fun r_ => r_ = (nI true.toNat))) 0 0 (fun _ => False) := by
  refine rd_start (cc := cX8_isKind) (maxL := 1) (ret := (some .boolean)) RX8 ⟨by decide +kernel, rfl⟩ rfl (Nat.le_of_ble_eq_true rfl) ?_
  intro p0 e0 s0 m0 a0 b0 t0 c0 S hr hlocks hP hK ls hl
  have hl : lv_has ls 1 [(0, .int (nI e))] := hl
  refine lv_iload_n S.1 S.2.1 dX8_isKind_0 rfl (lv_at hl 0 rfl) ?_
  refine lv_iconst (v := (nI 1)) S.1 S.2.1 dX8_isKind_1 (by decide) ?_
  refine n_clt S (tgt := 14) (by omega) dX8_isKind_2 (by decide) (fun c2 => ?_) (fun c2 => ?_)
  · exact absurd c2 (by omega)
  refine lv_iload_n S.1 S.2.1 dX8_isKind_5 rfl (lv_at hl 0 rfl) ?_
  refine lv_iconst (v := (nI 3)) S.1 S.2.1 dX8_isKind_6 (by decide) ?_
  refine n_cgt S (tgt := 14) (by omega) dX8_isKind_7 (by decide) (fun c7 => ?_) (fun c7 => ?_)
  · exact absurd c7 (by omega)
  refine lv_iconst (v := (nI 1)) S.1 S.2.1 dX8_isKind_10 (by decide) ?_
  refine lv_goto (tgt := 15) S.1 S.2.1 dX8_isKind_11 (by decide) ?_
  exact rd_iret S hr (by decide) hlocks (rfl) dX8_isKind_15

set_option maxHeartbeats 4000000 in
set_option maxRecDepth 100000 in
theorem r_X8_isKind_x (l : Launch) (D : va_G) (cT : ClassId × ClassId × ClassId) (x : Int32) (hx : x < nI 1 ∨ nI 3 < x) : Met l yX8_isKind wsX8_isKind ({ frames := 0, cells := 0, slots := 0, locals := 0 }) (va_Pc [.int x] (sx_R D (TY cT) ([]))) (vp_Si (fun r_ => r_ = (nI false.toNat))) 0 0 (fun _ => False) := by
  refine rd_start (cc := cX8_isKind) (maxL := 1) (ret := (some .boolean)) RX8 ⟨by decide +kernel, rfl⟩ rfl (Nat.le_of_ble_eq_true rfl) ?_
  intro p0 e0 s0 m0 a0 b0 t0 c0 S hr hlocks hP hK ls hl
  have hl : lv_has ls 1 [(0, .int x)] := hl
  refine lv_iload_n S.1 S.2.1 dX8_isKind_0 rfl (lv_at hl 0 rfl) ?_
  refine lv_iconst (v := (nI 1)) S.1 S.2.1 dX8_isKind_1 (by decide) ?_
  refine lv_icmp_lt (tgt := 14) S.1 S.2.1 dX8_isKind_2 (by decide) (fun c2 => ?_) (fun c2 => ?_)
  · refine lv_iconst (v := (nI 0)) S.1 S.2.1 dX8_isKind_14 (by decide) ?_
    exact rd_iret S hr (by decide) hlocks (rfl) dX8_isKind_15
  · refine lv_iload_n S.1 S.2.1 dX8_isKind_5 rfl (lv_at hl 0 rfl) ?_
    refine lv_iconst (v := (nI 3)) S.1 S.2.1 dX8_isKind_6 (by decide) ?_
    refine lv_icmp_gt (tgt := 14) S.1 S.2.1 dX8_isKind_7 (by decide) (fun c7 => ?_) (fun c7 => ?_)
    rotate_left
    · exact absurd hx (fun h => h.elim c2 c7)
    refine lv_iconst (v := (nI 0)) S.1 S.2.1 dX8_isKind_14 (by decide) ?_
    exact rd_iret S hr (by decide) hlocks (rfl) dX8_isKind_15

theorem pd_X8_personAt : yX8_personAt.cls = RX8 ∧ yX8_personAt.cls ≠ "java/lang/invoke/MethodHandle" ∧ yX8_personAt.cls ≠ "java/lang/invoke/VarHandle" ∧ (parseMethodDescriptor yX8_personAt.desc).map (fun d => d.parameters.length) = some 1 := by decide +kernel
theorem w_X8_personAt_0 : Cond.fieldLink RX8 11 "CoverSheet" "team" "[LCoverSheet$Person;" ∈ wsX8_personAt := by decide +kernel
theorem in_X8_personAt_X8 : ∀ w ∈ u_ws RX8 TX8 9, w ∈ wsX8_personAt := by decide +kernel
set_option maxHeartbeats 4000000 in
set_option maxRecDepth 100000 in
theorem r_X8_personAt (l : Launch) (D : va_G) (cT : ClassId × ClassId × ClassId) (c pa : Nat → Nat) (bd a6 a7 n ro cl fb rn : Nat) (nd sk mo wk fx wi la da we : Nat → Nat) (V V2 PR : Nat → Int64) (i : Nat) (hwf : wfC n bd fb rn nd sk mo wk fx wi la da we) (hi : i < n) : Met l yX8_personAt wsX8_personAt ({ frames := 0, cells := 0, slots := 0, locals := 0 }) (va_Pc [.ref (c 0), .int (nI i)] (sx_R D (TY cT) (cX cT c a6 a7 n ro cl fb rn nd V V2 PR pa ++ pool n pa (per sk mo wk fx wi la da we)))) (va_Sq (fun r_ => r_ = some (pa i))) 0 0 (fun _ => False) := by
  refine rd_start (cc := cX8_personAt) (maxL := 2) (ret := (some (.object "CoverSheet$Person"))) RX8 ⟨by decide +kernel, rfl⟩ rfl (Nat.le_of_ble_eq_true rfl) ?_
  intro p0 e0 s0 m0 a0 b0 t0 c0 S hr hlocks hP hK ls hl
  have hl : lv_has ls 2 [(0, .ref (c 0)), (1, .int (nI i))] := hl
  obtain ⟨hn, hcl, hfb, hrn, hnd, hper⟩ := id hwf
  refine lv_iload_n S.1 S.2.1 dX8_personAt_0 rfl (lv_at hl 1 rfl) ?_
  refine n_zlt S (tgt := 13) (by omega) dX8_personAt_1 (by decide) ?_
  refine lv_iload_n S.1 S.2.1 dX8_personAt_4 rfl (lv_at hl 1 rfl) ?_
  refine lv_aload_n S.1 S.2.1 dX8_personAt_5 rfl (lv_at hl 0 rfl) ?_
  refine g_get (C := RX8) (T := TX8) (N := 9) (v := .ref (c 1)) S 0 6 0 in_X8_personAt_X8 hK hP rfl rfl (by decide) w_X8_personAt_0 rfl dX8_personAt_6 ?_
  refine g_alen S 1 2 hK hP rfl rfl dX8_personAt_9 ?_
  refine n_clt S (tgt := 17) (by omega) dX8_personAt_10 (by decide) (fun c10 => ?_) (fun c10 => ?_)
  rotate_left
  · exact absurd c10 (by omega)
  refine lv_aload_n S.1 S.2.1 dX8_personAt_17 rfl (lv_at hl 0 rfl) ?_
  refine g_get (C := RX8) (T := TX8) (N := 9) (v := .ref (c 1)) S 0 6 0 in_X8_personAt_X8 hK hP rfl rfl (by decide) w_X8_personAt_0 rfl dX8_personAt_18 ?_
  refine lv_iload_n S.1 S.2.1 dX8_personAt_21 rfl (lv_at hl 1 rfl) ?_
  refine g_aald S 1 hK hP rfl (by omega) dX8_personAt_22 ?_
  refine n_topv (show va_rf ((tm n pa) i) = .ref (pa i) from by rw [tm_in hi]; rfl) ?_
  exact rd_aret S hr (Or.inl ⟨_, rfl⟩) hlocks (rfl) dX8_personAt_23

set_option maxHeartbeats 4000000 in
set_option maxRecDepth 100000 in
theorem r_X8_personAt_x (l : Launch) (D : va_G) (cT : ClassId × ClassId × ClassId) (c pa : Nat → Nat) (bd a6 a7 n ro cl fb rn : Nat) (nd sk mo wk fx wi la da we : Nat → Nat) (V V2 PR : Nat → Int64) (x : Int32) (hwf : wfC n bd fb rn nd sk mo wk fx wi la da we) (hx : PX x n) : Met l yX8_personAt wsX8_personAt ({ frames := 0, cells := 0, slots := 0, locals := 0 }) (va_Pc [.ref (c 0), .int x] (sx_R D (TY cT) (cX cT c a6 a7 n ro cl fb rn nd V V2 PR pa ++ pool n pa (per sk mo wk fx wi la da we)))) (va_Sq (fun r_ => r_ = none)) 0 0 (fun _ => False) := by
  refine rd_start (cc := cX8_personAt) (maxL := 2) (ret := (some (.object "CoverSheet$Person"))) RX8 ⟨by decide +kernel, rfl⟩ rfl (Nat.le_of_ble_eq_true rfl) ?_
  intro p0 e0 s0 m0 a0 b0 t0 c0 S hr hlocks hP hK ls hl
  have hl : lv_has ls 2 [(0, .ref (c 0)), (1, .int x)] := hl
  obtain ⟨hn, hcl, hfb, hrn, hnd, hper⟩ := id hwf
  refine lv_iload_n S.1 S.2.1 dX8_personAt_0 rfl (lv_at hl 1 rfl) ?_
  refine lv_if_lt (tgt := 13) S.1 S.2.1 dX8_personAt_1 (by decide) (fun c1 => ?_) (fun c1 => ?_)
  · refine lv_null S.1 S.2.1 dX8_personAt_13 ?_
    refine lv_goto (tgt := 23) S.1 S.2.1 dX8_personAt_14 (by decide) ?_
    exact rd_aret S hr (Or.inl ⟨_, rfl⟩) hlocks (rfl) dX8_personAt_23
  · refine lv_iload_n S.1 S.2.1 dX8_personAt_4 rfl (lv_at hl 1 rfl) ?_
    refine lv_aload_n S.1 S.2.1 dX8_personAt_5 rfl (lv_at hl 0 rfl) ?_
    refine g_get (C := RX8) (T := TX8) (N := 9) (v := .ref (c 1)) S 0 6 0 in_X8_personAt_X8 hK hP rfl rfl (by decide) w_X8_personAt_0 rfl dX8_personAt_6 ?_
    refine g_alen S 1 2 hK hP rfl rfl dX8_personAt_9 ?_
    refine lv_icmp_lt (tgt := 17) S.1 S.2.1 dX8_personAt_10 (by decide) (fun c10 => ?_) (fun c10 => ?_)
    · refine lv_aload_n S.1 S.2.1 dX8_personAt_17 rfl (lv_at hl 0 rfl) ?_
      refine g_get (C := RX8) (T := TX8) (N := 9) (v := .ref (c 1)) S 0 6 0 in_X8_personAt_X8 hK hP rfl rfl (by decide) w_X8_personAt_0 rfl dX8_personAt_18 ?_
      refine lv_iload_n S.1 S.2.1 dX8_personAt_21 rfl (lv_at hl 1 rfl) ?_
      obtain ⟨i, ⟨hi1, hi2⟩, ex⟩ := px_no (m := 8) hx c1 (Int32.not_le.mpr c10) (by decide) (by omega)
      refine n_top (show x = nI i from ex) ?_
      refine g_aald S 1 hK hP rfl (by omega) dX8_personAt_22 ?_
      refine n_topv (show va_rf ((tm n pa) i) = .null from by rw [tm_out hi2]; rfl) ?_
      exact rd_aret S hr (Or.inl ⟨_, rfl⟩) hlocks (rfl) dX8_personAt_23
    · refine lv_null S.1 S.2.1 dX8_personAt_13 ?_
      refine lv_goto (tgt := 23) S.1 S.2.1 dX8_personAt_14 (by decide) ?_
      exact rd_aret S hr (Or.inl ⟨_, rfl⟩) hlocks (rfl) dX8_personAt_23

theorem pd_X8_gapWithout : yX8_gapWithout.cls = RX8 ∧ yX8_gapWithout.cls ≠ "java/lang/invoke/MethodHandle" ∧ yX8_gapWithout.cls ≠ "java/lang/invoke/VarHandle" ∧ (parseMethodDescriptor yX8_gapWithout.desc).map (fun d => d.parameters.length) = some 3 := by decide +kernel
theorem w_X8_gapWithout_0 : Cond.fieldLink RX8 18 "CoverSheet" "needs" "LCoverSheet$Needs;" ∈ wsX8_gapWithout := by decide +kernel
theorem w_X8_gapWithout_1 : Cond.fieldLink RX8 11 "CoverSheet" "team" "[LCoverSheet$Person;" ∈ wsX8_gapWithout := by decide +kernel
theorem w_X8_gapWithout_2 : Cond.methodLink RX8 196 Lib.Math.max.name ∈ wsX8_gapWithout := by decide +kernel
theorem w_X8_gapWithout_3 : Cond.static Lib.Math.max.name ∈ wsX8_gapWithout := by decide +kernel
theorem w_X8_gapWithout_4 : Cond.initialized "java/lang/Math" ∈ wsX8_gapWithout := by decide +kernel
theorem w_X8_gapWithout_5 : Cond.code Lib.Math.max.name Lib.Math.max.code 2 (some .int) ∈ wsX8_gapWithout := by decide +kernel
theorem in_X8_gapWithout_X4 : ∀ w ∈ u_ws RX4 TX4 8, w ∈ wsX8_gapWithout := by decide +kernel
theorem in_X8_gapWithout_X8 : ∀ w ∈ u_ws RX8 TX8 9, w ∈ wsX8_gapWithout := by decide +kernel
set_option maxHeartbeats 4000000 in
set_option maxRecDepth 100000 in
theorem r_X8_gapWithout (l : Launch) (D : va_G) (cT : ClassId × ClassId × ClassId) (c pa : Nat → Nat) (bd a6 a7 n ro cl fb rn : Nat) (nd sk mo wk fx wi la da we : Nat → Nat) (V V2 PR : Nat → Int64) (d e : Nat) (hwf : wfC n bd fb rn nd sk mo wk fx wi la da we) (hd : d < 7) (he : 1 ≤ e ∧ e < 4) : Met l yX8_gapWithout wsX8_gapWithout ({ frames := 2, cells := 0, slots := 0, locals := 41 }) (va_Pc [.ref (c 0), .null, .int (nI d), .int (nI e)] (sx_R D (TY cT) (cX cT c a6 a7 n ro cl fb rn nd V V2 PR pa ++ pool n pa (per sk mo wk fx wi la da we)))) (vp_Si (fun r_ => r_ = (nI (gpw n nd wk 99 d e)))) 0 0 (fun _ => False) := by
  refine rd_start (cc := cX8_gapWithout) (maxL := 9) (ret := (some .int)) RX8 ⟨by decide +kernel, rfl⟩ rfl (Nat.le_of_ble_eq_true rfl) ?_
  intro p0 e0 s0 m0 a0 b0 t0 c0 S hr hlocks hP hK ls hl
  have hl : lv_has ls 9 [(0, .ref (c 0)), (1, .null), (2, .int (nI d)), (3, .int (nI e))] := hl
  obtain ⟨hn, hcl, hfb, hrn, hnd, hper⟩ := id hwf
  refine lv_aload_n S.1 S.2.1 dX8_gapWithout_0 rfl (lv_at hl 0 rfl) ?_
  refine g_get (C := RX8) (T := TX8) (N := 9) (v := .ref (c 2)) S 0 6 1 in_X8_gapWithout_X8 hK hP rfl rfl (by decide) w_X8_gapWithout_0 rfl dX8_gapWithout_1 ?_
  refine lv_iload_n S.1 S.2.1 dX8_gapWithout_4 rfl (lv_at hl 2 rfl) ?_
  refine lv_iload_n S.1 S.2.1 dX8_gapWithout_5 rfl (lv_at hl 3 rfl) ?_
  refine rd_callV (rest := []) S (r_X3_of l D cT (c 2) (c 3) nd d e (by omega) (by omega)) gX8_gapWithout_X3_of rfl pd_X3_of ⟨rfl, rfl, Nat.le_of_ble_eq_true rfl, Nat.le_of_ble_eq_true rfl⟩ (sx_P2 (hP.sub (ws' := [(c 2, .inr (2, [.ref (c 3)]))]) [2] rfl) (hP.sub (ws' := [(c 3, .inl (cT.1, 28, .inl (fun k => nI (nd k))))]) [3] rfl)) hK (va_recv hK.1 hP (ci := 2) (q0 := 2) rfl rfl) hl rfl rfl (Nat.le_of_ble_eq_true rfl) ⟨Nat.zero_le _, Nat.zero_le _⟩ dX8_gapWithout_6 ?_
  refine n_top (show (nI (nd (d * 4 + e))) = (nI (nd (d * 4 + e)) - nI 0) from (Int32.sub_zero _).symm) ?_
  refine lv_istore (lv' := [(4, .int (nI (nd (d * 4 + e)) - nI 0)), (0, .ref (c 0)), (1, .null), (2, .int (nI d)), (3, .int (nI e))]) S.1 S.2.1 dX8_gapWithout_9 hl (by decide) rfl (fun ls hl => ?_)
  refine lv_aload_n S.1 S.2.1 dX8_gapWithout_11 rfl (lv_at hl 1 rfl) ?_
  refine g_get (C := RX8) (T := TX8) (N := 9) (v := .ref (c 1)) S 0 6 0 in_X8_gapWithout_X8 hK hP rfl rfl (by decide) w_X8_gapWithout_1 rfl dX8_gapWithout_12 ?_
  refine lv_astore (lv' := [(5, .ref (c 1)), (4, .int (nI (nd (d * 4 + e)) - nI 0)), (0, .ref (c 0)), (1, .null), (2, .int (nI d)), (3, .int (nI e))]) S.1 S.2.1 dX8_gapWithout_15 hl (by decide) rfl (fun ls hl => ?_)
  refine lv_aload S.1 S.2.1 dX8_gapWithout_17 (lv_at hl 0 rfl) ?_
  refine g_alen S 1 2 hK hP rfl rfl dX8_gapWithout_19 ?_
  refine lv_istore (lv' := [(6, .int (nI 8)), (5, .ref (c 1)), (4, .int (nI (nd (d * 4 + e)) - nI 0)), (0, .ref (c 0)), (1, .null), (2, .int (nI d)), (3, .int (nI e))]) S.1 S.2.1 dX8_gapWithout_20 hl (by decide) rfl (fun ls hl => ?_)
  refine lv_iconst (v := (nI 0)) S.1 S.2.1 dX8_gapWithout_22 (by decide) ?_
  refine lv_istore (lv' := [(7, .int (nI 0)), (6, .int (nI 8)), (5, .ref (c 1)), (4, .int (nI (nd (d * 4 + e)) - nI 0)), (0, .ref (c 0)), (1, .null), (2, .int (nI d)), (3, .int (nI e))]) S.1 S.2.1 dX8_gapWithout_23 hl (by decide) rfl (fun ls hl => ?_)
  have lp25 : ∀ (fu : Nat) (k : Nat) (i : Nat), (i ≤ 8) → (k = cg n wk 99 d e i) → (8 - i) < fu → ∀ ls : Array Slot, lv_has ls 9 [(0, .ref (c 0)), (1, .null), (2, .int (nI d)), (3, .int (nI e)), (4, .int (nI (nd (d * 4 + e)) - nI k)), (5, .ref (c 1)), (6, .int (nI 8)), (7, .int (nI i))] → W p0 l e0 ({ frames := 2, cells := 0, slots := 0, locals := 41 } : Room) s0 m0 a0 b0 t0 c0 s0.heap [] 0 0 (MQ b0 (vp_Si (fun r_ => r_ = (nI (gpw n nd wk 99 d e)))) a0 s0 0 0 (fun _ => False)) (F0 m0 25 ls []) := by
    intro fu
    induction fu with
    | zero =>
      intro k i h2 hk hm
      exact absurd hm (Nat.not_lt_zero _)
    | succ fu ih25 =>
      intro k i h2 hk hm ls hl
      refine lv_iload S.1 S.2.1 dX8_gapWithout_25 (lv_at hl 7 rfl) ?_
      refine lv_iload S.1 S.2.1 dX8_gapWithout_27 (lv_at hl 6 rfl) ?_
      refine n_cge S (tgt := 72) (by omega) dX8_gapWithout_29 (by decide) (fun c29 => ?_) (fun c29 => ?_)
      · refine lv_iconst (v := (nI 0)) S.1 S.2.1 dX8_gapWithout_72 (by decide) ?_
        refine lv_iload S.1 S.2.1 dX8_gapWithout_73 (lv_at hl 4 rfl) ?_
        refine va_mmax S.1 S.2.1 (S.2.2.1.trans hl.1.symm) S.2.2.2.1 (S.2.2.2.2 _ w_X8_gapWithout_2) (S.2.2.2.2 _ w_X8_gapWithout_3) (S.2.2.2.2 _ w_X8_gapWithout_4) (S.2.2.2.2 _ w_X8_gapWithout_5) (Nat.le_of_ble_eq_true rfl) (Nat.le_of_ble_eq_true rfl) (Nat.zero_le _) (Nat.zero_le _) dX8_gapWithout_75 ?_
        refine n_top (show (if (nI 0) < (nI (nd (d * 4 + e)) - nI k) then (nI (nd (d * 4 + e)) - nI k) else (nI 0)) = (nI (gpw n nd wk 99 d e)) from by rw [hk, show i = 8 by omega, dif_max ⟨by decide, by have := hnd (d * 4 + e); omega, by have := cg_le n wk 99 d e 8; omega⟩, Nat.zero_max]; rfl) ?_
        exact rd_iret S hr rfl hlocks (rfl) dX8_gapWithout_78
      · refine lv_aload S.1 S.2.1 dX8_gapWithout_32 (lv_at hl 5 rfl) ?_
        refine lv_iload S.1 S.2.1 dX8_gapWithout_34 (lv_at hl 7 rfl) ?_
        refine g_aald S 1 hK hP rfl (by omega) dX8_gapWithout_36 ?_
        by_cases hb : i < n
        · refine n_topv (show va_rf (tm n pa i) = .ref (pa i) by rw [tm_in hb]; rfl) ?_
          have hpi := hper i
          refine lv_astore (lv' := [(8, .ref (pa i)), (0, .ref (c 0)), (1, .null), (2, .int (nI d)), (3, .int (nI e)), (4, .int (nI (nd (d * 4 + e)) - nI k)), (5, .ref (c 1)), (6, .int (nI 8)), (7, .int (nI i))]) S.1 S.2.1 dX8_gapWithout_37 hl (by decide) rfl (fun ls hl => ?_)
          refine lv_aload S.1 S.2.1 dX8_gapWithout_39 (lv_at hl 0 rfl) ?_
          refine lv_ifnull S.1 S.2.1 dX8_gapWithout_41 ?_
          refine lv_aload S.1 S.2.1 dX8_gapWithout_44 (lv_at hl 0 rfl) ?_
          refine lv_aload_nN S.1 S.2.1 dX8_gapWithout_46 rfl (lv_at hl 2 rfl) ?_
          refine lv_acmp_eq (rx := some (pa i)) (ry := none) (tgt := 66) S.1 S.2.1 dX8_gapWithout_47 (by decide) (fun c47 => ?_) (fun c47 => ?_)
          · exact absurd c47 (by simp)
          refine lv_aload S.1 S.2.1 dX8_gapWithout_50 (lv_at hl 0 rfl) ?_
          refine g_getN (C := RX4) (T := TX4) (N := 8) (v := .int (nI (wk i))) S _ 3 2 in_X8_gapWithout_X4 hK hP (pool_at (by omega)) rfl (by decide) (List.mem_of_getElem? (i := 11) rfl) rfl dX8_gapWithout_52 ?_
          refine lv_iload_n S.1 S.2.1 dX8_gapWithout_55 rfl (lv_at hl 3 rfl) ?_
          refine rd_callS (rest := []) S (r_X7_at l D cT (wk i) d (by omega) (by omega)) gX8_gapWithout_X7_at rfl pd_X7_at ⟨rfl, rfl, Nat.le_of_ble_eq_true rfl, Nat.le_of_ble_eq_true rfl⟩ (sx_P0 D _) hK hl rfl rfl (Nat.le_of_ble_eq_true rfl) ⟨Nat.zero_le _, Nat.zero_le _⟩ dX8_gapWithout_56 ?_
          refine lv_iload_n S.1 S.2.1 dX8_gapWithout_59 rfl (lv_at hl 4 rfl) ?_
          refine n_cne S (tgt := 66) (⟨Nat.lt_trans (ent_lt _ _) (by decide), by omega⟩) dX8_gapWithout_60 (by decide) (fun c60 => ?_) (fun c60 => ?_)
          · refine lv_iinc (v := (nI (i + 1))) (lv' := [(7, .int (nI (i + 1))), (8, .ref (pa i)), (0, .ref (c 0)), (1, .null), (2, .int (nI d)), (3, .int (nI e)), (4, .int (nI (nd (d * 4 + e)) - nI k)), (5, .ref (c 1)), (6, .int (nI 8))]) S.1 S.2.1 dX8_gapWithout_66 hl (k := 8) rfl (nI_1 _) (by decide) rfl (fun ls hl => ?_)
            refine lv_goto (tgt := 25) S.1 S.2.1 dX8_gapWithout_69 (by decide) ?_
            exact ih25 k (i + 1) (by omega) (by first | (rw [hk]; exact (cg_1 ⟨hb, by omega, c60⟩).symm) | (rw [hk]; exact (cg_0 (fun q => c60 q.2.2)).symm) | (rw [hk]; exact (cg_0 (fun q => hb q.1)).symm)) (by omega) ls (lv_sub hl [2, 3, 4, 5, 6, 7, 8, 0] rfl)
          · refine lv_iinc (v := (nI (nd (d * 4 + e)) - nI (k + 1))) (lv' := [(4, .int (nI (nd (d * 4 + e)) - nI (k + 1))), (8, .ref (pa i)), (0, .ref (c 0)), (1, .null), (2, .int (nI d)), (3, .int (nI e)), (5, .ref (c 1)), (6, .int (nI 8)), (7, .int (nI i))]) S.1 S.2.1 dX8_gapWithout_63 hl (k := 5) rfl (dif_dec _ _) (by decide) rfl (fun ls hl => ?_)
            refine lv_iinc (v := (nI (i + 1))) (lv' := [(7, .int (nI (i + 1))), (4, .int (nI (nd (d * 4 + e)) - nI (k + 1))), (8, .ref (pa i)), (0, .ref (c 0)), (1, .null), (2, .int (nI d)), (3, .int (nI e)), (5, .ref (c 1)), (6, .int (nI 8))]) S.1 S.2.1 dX8_gapWithout_66 hl (k := 8) rfl (nI_1 _) (by decide) rfl (fun ls hl => ?_)
            refine lv_goto (tgt := 25) S.1 S.2.1 dX8_gapWithout_69 (by decide) ?_
            exact ih25 (k + 1) (i + 1) (by omega) (by first | (rw [hk]; exact (cg_1 ⟨hb, by omega, c60⟩).symm) | (rw [hk]; exact (cg_0 (fun q => c60 q.2.2)).symm) | (rw [hk]; exact (cg_0 (fun q => hb q.1)).symm)) (by omega) ls (lv_sub hl [3, 4, 5, 6, 1, 7, 8, 0] rfl)
        · refine n_topv (show va_rf (tm n pa i) = .null by rw [tm_out (Nat.le_of_not_lt hb)]; rfl) ?_
          refine lv_astoreN (lv' := [(8, .null), (0, .ref (c 0)), (1, .null), (2, .int (nI d)), (3, .int (nI e)), (4, .int (nI (nd (d * 4 + e)) - nI k)), (5, .ref (c 1)), (6, .int (nI 8)), (7, .int (nI i))]) S.1 S.2.1 dX8_gapWithout_37 hl (by decide) rfl (fun ls hl => ?_)
          refine lv_aloadN S.1 S.2.1 dX8_gapWithout_39 (lv_at hl 0 rfl) ?_
          refine lv_ifnullN (tgt := 66) S.1 S.2.1 dX8_gapWithout_41 (by decide) ?_
          refine lv_iinc (v := (nI (i + 1))) (lv' := [(7, .int (nI (i + 1))), (8, .null), (0, .ref (c 0)), (1, .null), (2, .int (nI d)), (3, .int (nI e)), (4, .int (nI (nd (d * 4 + e)) - nI k)), (5, .ref (c 1)), (6, .int (nI 8))]) S.1 S.2.1 dX8_gapWithout_66 hl (k := 8) rfl (nI_1 _) (by decide) rfl (fun ls hl => ?_)
          refine lv_goto (tgt := 25) S.1 S.2.1 dX8_gapWithout_69 (by decide) ?_
          exact ih25 k (i + 1) (by omega) (by first | (rw [hk]; exact (cg_1 ⟨hb, by omega, c60⟩).symm) | (rw [hk]; exact (cg_0 (fun q => c60 q.2.2)).symm) | (rw [hk]; exact (cg_0 (fun q => hb q.1)).symm)) (by omega) ls (lv_sub hl [2, 3, 4, 5, 6, 7, 8, 0] rfl)
  exact lp25 _ 0 0 (Nat.zero_le _) (rfl) (Nat.lt_succ_self _) ls (lv_sub hl [4, 5, 6, 7, 3, 2, 1, 0] rfl)

set_option maxHeartbeats 4000000 in
set_option maxRecDepth 100000 in
theorem r_X8_gapWithout_w (l : Launch) (D : va_G) (cT : ClassId × ClassId × ClassId) (c pa : Nat → Nat) (bd a6 a7 n ro cl fb rn : Nat) (nd sk mo wk fx wi la da we : Nat → Nat) (V V2 PR : Nat → Int64) (w d e : Nat) (hwf : wfC n bd fb rn nd sk mo wk fx wi la da we) (hd : d < 7) (he : 1 ≤ e ∧ e < 4) (hw : w < n) (hinj : inj n pa) : Met l yX8_gapWithout wsX8_gapWithout ({ frames := 2, cells := 0, slots := 0, locals := 41 }) (va_Pc [.ref (c 0), .ref (pa w), .int (nI d), .int (nI e)] (sx_R D (TY cT) (cX cT c a6 a7 n ro cl fb rn nd V V2 PR pa ++ pool n pa (per sk mo wk fx wi la da we)))) (vp_Si (fun r_ => r_ = (nI (gpw n nd wk w d e)))) 0 0 (fun _ => False) := by
  refine rd_start (cc := cX8_gapWithout) (maxL := 9) (ret := (some .int)) RX8 ⟨by decide +kernel, rfl⟩ rfl (Nat.le_of_ble_eq_true rfl) ?_
  intro p0 e0 s0 m0 a0 b0 t0 c0 S hr hlocks hP hK ls hl
  have hl : lv_has ls 9 [(0, .ref (c 0)), (1, .ref (pa w)), (2, .int (nI d)), (3, .int (nI e))] := hl
  obtain ⟨hn, hcl, hfb, hrn, hnd, hper⟩ := id hwf
  refine lv_aload_n S.1 S.2.1 dX8_gapWithout_0 rfl (lv_at hl 0 rfl) ?_
  refine g_get (C := RX8) (T := TX8) (N := 9) (v := .ref (c 2)) S 0 6 1 in_X8_gapWithout_X8 hK hP rfl rfl (by decide) w_X8_gapWithout_0 rfl dX8_gapWithout_1 ?_
  refine lv_iload_n S.1 S.2.1 dX8_gapWithout_4 rfl (lv_at hl 2 rfl) ?_
  refine lv_iload_n S.1 S.2.1 dX8_gapWithout_5 rfl (lv_at hl 3 rfl) ?_
  refine rd_callV (rest := []) S (r_X3_of l D cT (c 2) (c 3) nd d e (by omega) (by omega)) gX8_gapWithout_X3_of rfl pd_X3_of ⟨rfl, rfl, Nat.le_of_ble_eq_true rfl, Nat.le_of_ble_eq_true rfl⟩ (sx_P2 (hP.sub (ws' := [(c 2, .inr (2, [.ref (c 3)]))]) [2] rfl) (hP.sub (ws' := [(c 3, .inl (cT.1, 28, .inl (fun k => nI (nd k))))]) [3] rfl)) hK (va_recv hK.1 hP (ci := 2) (q0 := 2) rfl rfl) hl rfl rfl (Nat.le_of_ble_eq_true rfl) ⟨Nat.zero_le _, Nat.zero_le _⟩ dX8_gapWithout_6 ?_
  refine n_top (show (nI (nd (d * 4 + e))) = (nI (nd (d * 4 + e)) - nI 0) from (Int32.sub_zero _).symm) ?_
  refine lv_istore (lv' := [(4, .int (nI (nd (d * 4 + e)) - nI 0)), (0, .ref (c 0)), (1, .ref (pa w)), (2, .int (nI d)), (3, .int (nI e))]) S.1 S.2.1 dX8_gapWithout_9 hl (by decide) rfl (fun ls hl => ?_)
  refine lv_aload_n S.1 S.2.1 dX8_gapWithout_11 rfl (lv_at hl 1 rfl) ?_
  refine g_get (C := RX8) (T := TX8) (N := 9) (v := .ref (c 1)) S 0 6 0 in_X8_gapWithout_X8 hK hP rfl rfl (by decide) w_X8_gapWithout_1 rfl dX8_gapWithout_12 ?_
  refine lv_astore (lv' := [(5, .ref (c 1)), (4, .int (nI (nd (d * 4 + e)) - nI 0)), (0, .ref (c 0)), (1, .ref (pa w)), (2, .int (nI d)), (3, .int (nI e))]) S.1 S.2.1 dX8_gapWithout_15 hl (by decide) rfl (fun ls hl => ?_)
  refine lv_aload S.1 S.2.1 dX8_gapWithout_17 (lv_at hl 0 rfl) ?_
  refine g_alen S 1 2 hK hP rfl rfl dX8_gapWithout_19 ?_
  refine lv_istore (lv' := [(6, .int (nI 8)), (5, .ref (c 1)), (4, .int (nI (nd (d * 4 + e)) - nI 0)), (0, .ref (c 0)), (1, .ref (pa w)), (2, .int (nI d)), (3, .int (nI e))]) S.1 S.2.1 dX8_gapWithout_20 hl (by decide) rfl (fun ls hl => ?_)
  refine lv_iconst (v := (nI 0)) S.1 S.2.1 dX8_gapWithout_22 (by decide) ?_
  refine lv_istore (lv' := [(7, .int (nI 0)), (6, .int (nI 8)), (5, .ref (c 1)), (4, .int (nI (nd (d * 4 + e)) - nI 0)), (0, .ref (c 0)), (1, .ref (pa w)), (2, .int (nI d)), (3, .int (nI e))]) S.1 S.2.1 dX8_gapWithout_23 hl (by decide) rfl (fun ls hl => ?_)
  have lp25 : ∀ (fu : Nat) (k : Nat) (i : Nat), (i ≤ 8) → (k = cg n wk w d e i) → (8 - i) < fu → ∀ ls : Array Slot, lv_has ls 9 [(0, .ref (c 0)), (1, .ref (pa w)), (2, .int (nI d)), (3, .int (nI e)), (4, .int (nI (nd (d * 4 + e)) - nI k)), (5, .ref (c 1)), (6, .int (nI 8)), (7, .int (nI i))] → W p0 l e0 ({ frames := 2, cells := 0, slots := 0, locals := 41 } : Room) s0 m0 a0 b0 t0 c0 s0.heap [] 0 0 (MQ b0 (vp_Si (fun r_ => r_ = (nI (gpw n nd wk w d e)))) a0 s0 0 0 (fun _ => False)) (F0 m0 25 ls []) := by
    intro fu
    induction fu with
    | zero =>
      intro k i h2 hk hm
      exact absurd hm (Nat.not_lt_zero _)
    | succ fu ih25 =>
      intro k i h2 hk hm ls hl
      refine lv_iload S.1 S.2.1 dX8_gapWithout_25 (lv_at hl 7 rfl) ?_
      refine lv_iload S.1 S.2.1 dX8_gapWithout_27 (lv_at hl 6 rfl) ?_
      refine n_cge S (tgt := 72) (by omega) dX8_gapWithout_29 (by decide) (fun c29 => ?_) (fun c29 => ?_)
      · refine lv_iconst (v := (nI 0)) S.1 S.2.1 dX8_gapWithout_72 (by decide) ?_
        refine lv_iload S.1 S.2.1 dX8_gapWithout_73 (lv_at hl 4 rfl) ?_
        refine va_mmax S.1 S.2.1 (S.2.2.1.trans hl.1.symm) S.2.2.2.1 (S.2.2.2.2 _ w_X8_gapWithout_2) (S.2.2.2.2 _ w_X8_gapWithout_3) (S.2.2.2.2 _ w_X8_gapWithout_4) (S.2.2.2.2 _ w_X8_gapWithout_5) (Nat.le_of_ble_eq_true rfl) (Nat.le_of_ble_eq_true rfl) (Nat.zero_le _) (Nat.zero_le _) dX8_gapWithout_75 ?_
        refine n_top (show (if (nI 0) < (nI (nd (d * 4 + e)) - nI k) then (nI (nd (d * 4 + e)) - nI k) else (nI 0)) = (nI (gpw n nd wk w d e)) from by rw [hk, show i = 8 by omega, dif_max ⟨by decide, by have := hnd (d * 4 + e); omega, by have := cg_le n wk w d e 8; omega⟩, Nat.zero_max]; rfl) ?_
        exact rd_iret S hr rfl hlocks (rfl) dX8_gapWithout_78
      · refine lv_aload S.1 S.2.1 dX8_gapWithout_32 (lv_at hl 5 rfl) ?_
        refine lv_iload S.1 S.2.1 dX8_gapWithout_34 (lv_at hl 7 rfl) ?_
        refine g_aald S 1 hK hP rfl (by omega) dX8_gapWithout_36 ?_
        by_cases hb : i < n
        · refine n_topv (show va_rf (tm n pa i) = .ref (pa i) by rw [tm_in hb]; rfl) ?_
          have hpi := hper i
          refine lv_astore (lv' := [(8, .ref (pa i)), (0, .ref (c 0)), (1, .ref (pa w)), (2, .int (nI d)), (3, .int (nI e)), (4, .int (nI (nd (d * 4 + e)) - nI k)), (5, .ref (c 1)), (6, .int (nI 8)), (7, .int (nI i))]) S.1 S.2.1 dX8_gapWithout_37 hl (by decide) rfl (fun ls hl => ?_)
          refine lv_aload S.1 S.2.1 dX8_gapWithout_39 (lv_at hl 0 rfl) ?_
          refine lv_ifnull S.1 S.2.1 dX8_gapWithout_41 ?_
          refine lv_aload S.1 S.2.1 dX8_gapWithout_44 (lv_at hl 0 rfl) ?_
          refine lv_aload_n S.1 S.2.1 dX8_gapWithout_46 rfl (lv_at hl 2 rfl) ?_
          refine lv_acmp_eq (rx := some (pa i)) (ry := some (pa w)) (tgt := 66) S.1 S.2.1 dX8_gapWithout_47 (by decide) (fun c47 => ?_) (fun c47 => ?_)
          · refine lv_iinc (v := (nI (i + 1))) (lv' := [(7, .int (nI (i + 1))), (8, .ref (pa i)), (0, .ref (c 0)), (1, .ref (pa w)), (2, .int (nI d)), (3, .int (nI e)), (4, .int (nI (nd (d * 4 + e)) - nI k)), (5, .ref (c 1)), (6, .int (nI 8))]) S.1 S.2.1 dX8_gapWithout_66 hl (k := 8) rfl (nI_1 _) (by decide) rfl (fun ls hl => ?_)
            refine lv_goto (tgt := 25) S.1 S.2.1 dX8_gapWithout_69 (by decide) ?_
            exact ih25 k (i + 1) (by omega) (by first | (rw [hk]; exact (cg_1 ⟨hb, fun q => c47 (congrArg (fun z => some (pa z)) q), c60⟩).symm) | (rw [hk]; exact (cg_0 (fun q => c60 q.2.2)).symm) | (rw [hk]; exact (cg_0 (fun q => hb q.1)).symm) | (rw [hk]; exact (cg_0 (fun q => q.2.1 (hinj _ _ hb hw (Option.some.inj c47)))).symm)) (by omega) ls (lv_sub hl [2, 3, 4, 5, 6, 7, 8, 0] rfl)
          · refine lv_aload S.1 S.2.1 dX8_gapWithout_50 (lv_at hl 0 rfl) ?_
            refine g_getN (C := RX4) (T := TX4) (N := 8) (v := .int (nI (wk i))) S _ 3 2 in_X8_gapWithout_X4 hK hP (pool_at (by omega)) rfl (by decide) (List.mem_of_getElem? (i := 11) rfl) rfl dX8_gapWithout_52 ?_
            refine lv_iload_n S.1 S.2.1 dX8_gapWithout_55 rfl (lv_at hl 3 rfl) ?_
            refine rd_callS (rest := []) S (r_X7_at l D cT (wk i) d (by omega) (by omega)) gX8_gapWithout_X7_at rfl pd_X7_at ⟨rfl, rfl, Nat.le_of_ble_eq_true rfl, Nat.le_of_ble_eq_true rfl⟩ (sx_P0 D _) hK hl rfl rfl (Nat.le_of_ble_eq_true rfl) ⟨Nat.zero_le _, Nat.zero_le _⟩ dX8_gapWithout_56 ?_
            refine lv_iload_n S.1 S.2.1 dX8_gapWithout_59 rfl (lv_at hl 4 rfl) ?_
            refine n_cne S (tgt := 66) (⟨Nat.lt_trans (ent_lt _ _) (by decide), by omega⟩) dX8_gapWithout_60 (by decide) (fun c60 => ?_) (fun c60 => ?_)
            · refine lv_iinc (v := (nI (i + 1))) (lv' := [(7, .int (nI (i + 1))), (8, .ref (pa i)), (0, .ref (c 0)), (1, .ref (pa w)), (2, .int (nI d)), (3, .int (nI e)), (4, .int (nI (nd (d * 4 + e)) - nI k)), (5, .ref (c 1)), (6, .int (nI 8))]) S.1 S.2.1 dX8_gapWithout_66 hl (k := 8) rfl (nI_1 _) (by decide) rfl (fun ls hl => ?_)
              refine lv_goto (tgt := 25) S.1 S.2.1 dX8_gapWithout_69 (by decide) ?_
              exact ih25 k (i + 1) (by omega) (by first | (rw [hk]; exact (cg_1 ⟨hb, fun q => c47 (congrArg (fun z => some (pa z)) q), c60⟩).symm) | (rw [hk]; exact (cg_0 (fun q => c60 q.2.2)).symm) | (rw [hk]; exact (cg_0 (fun q => hb q.1)).symm) | (rw [hk]; exact (cg_0 (fun q => q.2.1 (hinj _ _ hb hw (Option.some.inj c47)))).symm)) (by omega) ls (lv_sub hl [2, 3, 4, 5, 6, 7, 8, 0] rfl)
            · refine lv_iinc (v := (nI (nd (d * 4 + e)) - nI (k + 1))) (lv' := [(4, .int (nI (nd (d * 4 + e)) - nI (k + 1))), (8, .ref (pa i)), (0, .ref (c 0)), (1, .ref (pa w)), (2, .int (nI d)), (3, .int (nI e)), (5, .ref (c 1)), (6, .int (nI 8)), (7, .int (nI i))]) S.1 S.2.1 dX8_gapWithout_63 hl (k := 5) rfl (dif_dec _ _) (by decide) rfl (fun ls hl => ?_)
              refine lv_iinc (v := (nI (i + 1))) (lv' := [(7, .int (nI (i + 1))), (4, .int (nI (nd (d * 4 + e)) - nI (k + 1))), (8, .ref (pa i)), (0, .ref (c 0)), (1, .ref (pa w)), (2, .int (nI d)), (3, .int (nI e)), (5, .ref (c 1)), (6, .int (nI 8))]) S.1 S.2.1 dX8_gapWithout_66 hl (k := 8) rfl (nI_1 _) (by decide) rfl (fun ls hl => ?_)
              refine lv_goto (tgt := 25) S.1 S.2.1 dX8_gapWithout_69 (by decide) ?_
              exact ih25 (k + 1) (i + 1) (by omega) (by first | (rw [hk]; exact (cg_1 ⟨hb, fun q => c47 (congrArg (fun z => some (pa z)) q), c60⟩).symm) | (rw [hk]; exact (cg_0 (fun q => c60 q.2.2)).symm) | (rw [hk]; exact (cg_0 (fun q => hb q.1)).symm) | (rw [hk]; exact (cg_0 (fun q => q.2.1 (hinj _ _ hb hw (Option.some.inj c47)))).symm)) (by omega) ls (lv_sub hl [3, 4, 5, 6, 1, 7, 8, 0] rfl)
        · refine n_topv (show va_rf (tm n pa i) = .null by rw [tm_out (Nat.le_of_not_lt hb)]; rfl) ?_
          refine lv_astoreN (lv' := [(8, .null), (0, .ref (c 0)), (1, .ref (pa w)), (2, .int (nI d)), (3, .int (nI e)), (4, .int (nI (nd (d * 4 + e)) - nI k)), (5, .ref (c 1)), (6, .int (nI 8)), (7, .int (nI i))]) S.1 S.2.1 dX8_gapWithout_37 hl (by decide) rfl (fun ls hl => ?_)
          refine lv_aloadN S.1 S.2.1 dX8_gapWithout_39 (lv_at hl 0 rfl) ?_
          refine lv_ifnullN (tgt := 66) S.1 S.2.1 dX8_gapWithout_41 (by decide) ?_
          refine lv_iinc (v := (nI (i + 1))) (lv' := [(7, .int (nI (i + 1))), (8, .null), (0, .ref (c 0)), (1, .ref (pa w)), (2, .int (nI d)), (3, .int (nI e)), (4, .int (nI (nd (d * 4 + e)) - nI k)), (5, .ref (c 1)), (6, .int (nI 8))]) S.1 S.2.1 dX8_gapWithout_66 hl (k := 8) rfl (nI_1 _) (by decide) rfl (fun ls hl => ?_)
          refine lv_goto (tgt := 25) S.1 S.2.1 dX8_gapWithout_69 (by decide) ?_
          exact ih25 k (i + 1) (by omega) (by first | (rw [hk]; exact (cg_1 ⟨hb, fun q => c47 (congrArg (fun z => some (pa z)) q), c60⟩).symm) | (rw [hk]; exact (cg_0 (fun q => c60 q.2.2)).symm) | (rw [hk]; exact (cg_0 (fun q => hb q.1)).symm) | (rw [hk]; exact (cg_0 (fun q => q.2.1 (hinj _ _ hb hw (Option.some.inj c47)))).symm)) (by omega) ls (lv_sub hl [2, 3, 4, 5, 6, 7, 8, 0] rfl)
  exact lp25 _ 0 0 (Nat.zero_le _) (rfl) (Nat.lt_succ_self _) ls (lv_sub hl [4, 5, 6, 7, 3, 2, 1, 0] rfl)

