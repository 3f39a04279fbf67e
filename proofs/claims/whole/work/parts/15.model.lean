theorem pd_X9_entryOf : yX9_entryOf.cls ≠ "java/lang/invoke/MethodHandle" ∧ yX9_entryOf.cls ≠ "java/lang/invoke/VarHandle" ∧ (parseMethodDescriptor yX9_entryOf.desc).map (fun d => d.parameters.length) = some 2 := by decide +kernel
set_option maxHeartbeats 4000000 in
set_option maxRecDepth 100000 in
theorem r_X9_entryOf (l : Launch) (D : va_G) (cT : ClassId × ClassId × ClassId) (w d : Nat) (hw : w < 16384) (hd : d < 7) : Met l yX9_entryOf wsX9_entryOf ({ frames := 0, cells := 0, slots := 0, locals := 0 }) (va_Pc [.int (nI w), .int (nI d)] (sx_R D (TY cT) ([]))) (vp_Si (fun r_ => r_ = (nI (ent w d)))) 0 0 (fun _ => False) := by
  refine rd_start (cc := cX9_entryOf) (maxL := 2) (ret := (some .int)) RX9 ⟨by decide +kernel, rfl⟩ rfl (Nat.le_of_ble_eq_true rfl) ?_
  intro p0 e0 s0 m0 a0 b0 t0 c0 S hr hlocks hP hK ls hl
  have hl : lv_has ls 2 [(0, .int (nI w)), (1, .int (nI d))] := hl
  refine lv_iload_n S.1 S.2.1 dX9_entryOf_0 rfl (lv_at hl 0 rfl) ?_
  refine lv_bipush (v := (nI 12)) S.1 S.2.1 dX9_entryOf_1 (by decide) ?_
  refine lv_iconst (v := (nI 2)) S.1 S.2.1 dX9_entryOf_3 (by decide) ?_
  refine lv_iload_n S.1 S.2.1 dX9_entryOf_4 rfl (lv_at hl 1 rfl) ?_
  refine n_mul S dX9_entryOf_5 ?_
  refine n_sub S (by omega) dX9_entryOf_6 ?_
  refine n_shr S (by omega) dX9_entryOf_7 ?_
  refine lv_iconst (v := (nI 3)) S.1 S.2.1 dX9_entryOf_8 (by decide) ?_
  refine n_and S dX9_entryOf_9 ?_
  refine n_top (show (nI ((w / 2 ^ (12 - (2 * d))) &&& 3)) = (nI (ent w d)) from congrArg nI (ent_12 hd)) ?_
  exact rd_iret S hr rfl hlocks (rfl) dX9_entryOf_10

theorem pd_X9_with : yX9_with.cls ≠ "java/lang/invoke/MethodHandle" ∧ yX9_with.cls ≠ "java/lang/invoke/VarHandle" ∧ (parseMethodDescriptor yX9_with.desc).map (fun d => d.parameters.length) = some 3 := by decide +kernel
set_option maxHeartbeats 4000000 in
set_option maxRecDepth 100000 in
theorem r_X9_with (l : Launch) (D : va_G) (cT : ClassId × ClassId × ClassId) (w d e : Nat) (hw : w < 16384) (hd : d < 7) (he : e < 4) : Met l yX9_with wsX9_with ({ frames := 1, cells := 0, slots := 0, locals := 21 }) (va_Pc [.int (nI w), .int (nI d), .int (nI e)] (sx_R D (TY cT) ([]))) (vp_Si (fun r_ => r_ = (nI (wset w d e)))) 0 0 (fun _ => False) := by
  refine rd_start (cc := cX9_with) (maxL := 3) (ret := (some .int)) RX9 ⟨by decide +kernel, rfl⟩ rfl (Nat.le_of_ble_eq_true rfl) ?_
  intro p0 e0 s0 m0 a0 b0 t0 c0 S hr hlocks hP hK ls hl
  have hl : lv_has ls 3 [(0, .int (nI w)), (1, .int (nI d)), (2, .int (nI e))] := hl
  refine lv_iload_n S.1 S.2.1 dX9_with_0 rfl (lv_at hl 0 rfl) ?_
  refine lv_iload_n S.1 S.2.1 dX9_with_1 rfl (lv_at hl 0 rfl) ?_
  refine lv_iload_n S.1 S.2.1 dX9_with_2 rfl (lv_at hl 1 rfl) ?_
  refine rd_callS (rest := [.int (nI w)]) S (r_X9_entryOf l D cT w d (by omega) (by omega)) gX9_with_X9_entryOf rfl pd_X9_entryOf ⟨rfl, rfl, Nat.le_of_ble_eq_true rfl, Nat.le_of_ble_eq_true rfl⟩ (sx_P0 D _) hK hl rfl rfl (Nat.le_of_ble_eq_true rfl) ⟨Nat.zero_le _, Nat.zero_le _⟩ dX9_with_3 ?_
  refine lv_bipush (v := (nI 12)) S.1 S.2.1 dX9_with_6 (by decide) ?_
  refine lv_iconst (v := (nI 2)) S.1 S.2.1 dX9_with_8 (by decide) ?_
  refine lv_iload_n S.1 S.2.1 dX9_with_9 rfl (lv_at hl 1 rfl) ?_
  refine n_mul S dX9_with_10 ?_
  refine n_sub S (by omega) dX9_with_11 ?_
  refine n_shl S (by omega) dX9_with_12 ?_
  refine n_top (show (nI ((ent w d) * 2 ^ (12 - (2 * d)))) = (nI (ent w d * 2 ^ (2 * (6 - d)))) from by rw [show 12 - 2 * d = 2 * (6 - d) by omega]) ?_
  refine n_sub S (show ent w d * 2 ^ (2 * (6 - d)) ≤ w from (by have h := w_cut w (2 * (6 - d)); rw [Nat.mul_add, Nat.mul_comm _ (w / 2 ^ (2 * (6 - d)) % 4)] at h; show w / 2 ^ (2 * (6 - d)) % 4 * 2 ^ (2 * (6 - d)) ≤ w; omega)) dX9_with_13 ?_
  refine lv_iload_n S.1 S.2.1 dX9_with_14 rfl (lv_at hl 2 rfl) ?_
  refine lv_bipush (v := (nI 12)) S.1 S.2.1 dX9_with_15 (by decide) ?_
  refine lv_iconst (v := (nI 2)) S.1 S.2.1 dX9_with_17 (by decide) ?_
  refine lv_iload_n S.1 S.2.1 dX9_with_18 rfl (lv_at hl 1 rfl) ?_
  refine n_mul S dX9_with_19 ?_
  refine n_sub S (by omega) dX9_with_20 ?_
  refine n_shl S (by omega) dX9_with_21 ?_
  refine n_add S dX9_with_22 ?_
  refine n_top (show (nI ((w - (ent w d * 2 ^ (2 * (6 - d)))) + (e * 2 ^ (12 - (2 * d))))) = (nI (wset w d e)) from by rw [show 12 - 2 * d = 2 * (6 - d) by omega]; rfl) ?_
  exact rd_iret S hr rfl hlocks (rfl) dX9_with_23

theorem pd_X9_countShifts : yX9_countShifts.cls ≠ "java/lang/invoke/MethodHandle" ∧ yX9_countShifts.cls ≠ "java/lang/invoke/VarHandle" ∧ (parseMethodDescriptor yX9_countShifts.desc).map (fun d => d.parameters.length) = some 1 := by decide +kernel
set_option maxHeartbeats 4000000 in
set_option maxRecDepth 100000 in
theorem r_X9_countShifts (l : Launch) (D : va_G) (cT : ClassId × ClassId × ClassId) (w : Nat) (hw : w < 16384) : Met l yX9_countShifts wsX9_countShifts ({ frames := 1, cells := 0, slots := 0, locals := 21 }) (va_Pc [.int (nI w)] (sx_R D (TY cT) ([]))) (vp_Si (fun r_ => r_ = (nI (shc w 0 7)))) 0 0 (fun _ => False) := by
  refine rd_start (cc := cX9_countShifts) (maxL := 3) (ret := (some .int)) RX9 ⟨by decide +kernel, rfl⟩ rfl (Nat.le_of_ble_eq_true rfl) ?_
  intro p0 e0 s0 m0 a0 b0 t0 c0 S hr hlocks hP hK ls hl
  have hl : lv_has ls 3 [(0, .int (nI w))] := hl
  refine lv_iconst (v := (nI 0)) S.1 S.2.1 dX9_countShifts_0 (by decide) ?_
  refine lv_istore_n (lv' := [(1, .int (nI 0)), (0, .int (nI w))]) S.1 S.2.1 dX9_countShifts_1 rfl hl (by decide) rfl (fun ls hl => ?_)
  refine lv_iconst (v := (nI 0)) S.1 S.2.1 dX9_countShifts_2 (by decide) ?_
  refine lv_istore_n (lv' := [(2, .int (nI 0)), (1, .int (nI 0)), (0, .int (nI w))]) S.1 S.2.1 dX9_countShifts_3 rfl hl (by decide) rfl (fun ls hl => ?_)
  have lp4 : ∀ (fu : Nat) (f : Nat) (d : Nat), (d ≤ 7) → (f = shc w 0 d) → (7 - d) < fu → ∀ ls : Array Slot, lv_has ls 3 [(0, .int (nI w)), (1, .int (nI f)), (2, .int (nI d))] → W p0 l e0 ({ frames := 1, cells := 0, slots := 0, locals := 21 } : Room) s0 m0 a0 b0 t0 c0 s0.heap [] 0 0 (MQ b0 (vp_Si (fun r_ => r_ = (nI (shc w 0 7)))) a0 s0 0 0 (fun _ => False)) (F0 m0 4 ls []) := by
    intro fu
    induction fu with
    | zero =>
      intro f d h2 hf hm
      exact absurd hm (Nat.not_lt_zero _)
    | succ fu ih4 =>
      intro f d h2 hf hm ls hl
      refine lv_iload_n S.1 S.2.1 dX9_countShifts_4 rfl (lv_at hl 2 rfl) ?_
      refine lv_bipush (v := (nI 7)) S.1 S.2.1 dX9_countShifts_5 (by decide) ?_
      refine n_cge S (tgt := 32) (by omega) dX9_countShifts_7 (by decide) (fun c7 => ?_) (fun c7 => ?_)
      · refine lv_iload_n S.1 S.2.1 dX9_countShifts_32 rfl (lv_at hl 1 rfl) ?_
        exact rd_iret S hr rfl hlocks (by rw [hf, show d = 7 by omega]) dX9_countShifts_33
      · refine lv_iload_n S.1 S.2.1 dX9_countShifts_10 rfl (lv_at hl 1 rfl) ?_
        refine lv_iload_n S.1 S.2.1 dX9_countShifts_11 rfl (lv_at hl 0 rfl) ?_
        refine lv_iload_n S.1 S.2.1 dX9_countShifts_12 rfl (lv_at hl 2 rfl) ?_
        refine rd_callS (rest := [.int (nI f)]) S (r_X9_entryOf l D cT w d (by omega) (by omega)) gX9_countShifts_X9_entryOf rfl pd_X9_entryOf ⟨rfl, rfl, Nat.le_of_ble_eq_true rfl, Nat.le_of_ble_eq_true rfl⟩ (sx_P0 D _) hK hl rfl rfl (Nat.le_of_ble_eq_true rfl) ⟨Nat.zero_le _, Nat.zero_le _⟩ dX9_countShifts_13 ?_
        refine n_zle S (tgt := 23) (Nat.lt_trans (ent_lt _ _) (by decide)) dX9_countShifts_16 (by decide) (fun c16 => ?_) (fun c16 => ?_)
        · refine lv_iconst (v := (nI 0)) S.1 S.2.1 dX9_countShifts_23 (by decide) ?_
          refine n_add S dX9_countShifts_24 ?_
          refine lv_istore_n (lv' := [(1, .int (nI (f + 0))), (0, .int (nI w)), (2, .int (nI d))]) S.1 S.2.1 dX9_countShifts_25 rfl hl (by decide) rfl (fun ls hl => ?_)
          refine lv_iinc (v := (nI (d + 1))) (lv' := [(2, .int (nI (d + 1))), (1, .int (nI (f + 0))), (0, .int (nI w))]) S.1 S.2.1 dX9_countShifts_26 hl (k := 2) rfl (nI_1 _) (by decide) rfl (fun ls hl => ?_)
          refine lv_goto (tgt := 4) S.1 S.2.1 dX9_countShifts_29 (by decide) ?_
          exact ih4 (f + 0) (d + 1) (by omega) (by first | (rw [hf]; exact (shc_1 c16).symm) | (rw [hf]; exact (shc_0 c16).symm)) (by omega) ls (lv_sub hl [2, 1, 0] rfl)
        · refine lv_iconst (v := (nI 1)) S.1 S.2.1 dX9_countShifts_19 (by decide) ?_
          refine lv_goto (tgt := 24) S.1 S.2.1 dX9_countShifts_20 (by decide) ?_
          refine n_add S dX9_countShifts_24 ?_
          refine lv_istore_n (lv' := [(1, .int (nI (f + 1))), (0, .int (nI w)), (2, .int (nI d))]) S.1 S.2.1 dX9_countShifts_25 rfl hl (by decide) rfl (fun ls hl => ?_)
          refine lv_iinc (v := (nI (d + 1))) (lv' := [(2, .int (nI (d + 1))), (1, .int (nI (f + 1))), (0, .int (nI w))]) S.1 S.2.1 dX9_countShifts_26 hl (k := 2) rfl (nI_1 _) (by decide) rfl (fun ls hl => ?_)
          refine lv_goto (tgt := 4) S.1 S.2.1 dX9_countShifts_29 (by decide) ?_
          exact ih4 (f + 1) (d + 1) (by omega) (by first | (rw [hf]; exact (shc_1 c16).symm) | (rw [hf]; exact (shc_0 c16).symm)) (by omega) ls (lv_sub hl [2, 1, 0] rfl)
  exact lp4 _ 0 0 (Nat.zero_le _) (rfl) (Nat.lt_succ_self _) ls (lv_sub hl [2, 1, 0] rfl)

theorem pd_X9_weekOf : yX9_weekOf.cls = RX9 ∧ yX9_weekOf.cls ≠ "java/lang/invoke/MethodHandle" ∧ yX9_weekOf.cls ≠ "java/lang/invoke/VarHandle" ∧ (parseMethodDescriptor yX9_weekOf.desc).map (fun d => d.parameters.length) = some 1 := by decide +kernel
theorem w_X9_weekOf_0 : Cond.fieldLink RX9 26 "CoverSheetModel" "entries" "[I" ∈ wsX9_weekOf := by decide +kernel
theorem in_X9_weekOf_X9 : ∀ w ∈ u_ws RX9 TX9 15, w ∈ wsX9_weekOf := by decide +kernel
set_option maxHeartbeats 4000000 in
set_option maxRecDepth 100000 in
theorem r_X9_weekOf (l : Launch) (D : va_G) (cT : ClassId × ClassId × ClassId) (q : Nat → Nat) (bd th n ro cl fb rn : Nat) (nd sk mo wk fx wi la da we : Nat → Nat) (i : Nat) (hwf : wfC n bd fb rn nd sk mo wk fx wi la da we) (hz : ∀ b, b < 4 → bit fb (4 * b) = 0) (hi : i < 8) : Met l yX9_weekOf wsX9_weekOf ({ frames := 0, cells := 0, slots := 0, locals := 0 }) (va_Pc [.ref (q 0), .int (nI i)] (sx_R D (TY cT) (mX cT q th n ro cl fb rn nd sk mo wk fx wi la da we))) (vp_Si (fun r_ => r_ = (nI (wk i)))) 0 0 (fun _ => False) := by
  refine rd_start (cc := cX9_weekOf) (maxL := 4) (ret := (some .int)) RX9 ⟨by decide +kernel, rfl⟩ rfl (Nat.le_of_ble_eq_true rfl) ?_
  intro p0 e0 s0 m0 a0 b0 t0 c0 S hr hlocks hP hK ls hl
  have hl : lv_has ls 4 [(0, .ref (q 0)), (1, .int (nI i))] := hl
  obtain ⟨hn, hcl, hfb, hrn, hnd, hper⟩ := id hwf
  refine lv_iconst (v := (nI 0)) S.1 S.2.1 dX9_weekOf_0 (by decide) ?_
  refine lv_istore_n (lv' := [(2, .int (nI 0)), (0, .ref (q 0)), (1, .int (nI i))]) S.1 S.2.1 dX9_weekOf_1 rfl hl (by decide) rfl (fun ls hl => ?_)
  refine lv_iconst (v := (nI 0)) S.1 S.2.1 dX9_weekOf_2 (by decide) ?_
  refine lv_istore_n (lv' := [(3, .int (nI 0)), (2, .int (nI 0)), (0, .ref (q 0)), (1, .int (nI i))]) S.1 S.2.1 dX9_weekOf_3 rfl hl (by decide) rfl (fun ls hl => ?_)
  have lp4 : ∀ (fu : Nat) (w : Nat) (d : Nat), (d ≤ 7) → (w = pre (wk i) d) → (7 - d) < fu → ∀ ls : Array Slot, lv_has ls 4 [(0, .ref (q 0)), (1, .int (nI i)), (2, .int (nI w)), (3, .int (nI d))] → W p0 l e0 ({ frames := 0, cells := 0, slots := 0, locals := 0 } : Room) s0 m0 a0 b0 t0 c0 s0.heap [] 0 0 (MQ b0 (vp_Si (fun r_ => r_ = (nI (wk i)))) a0 s0 0 0 (fun _ => False)) (F0 m0 4 ls []) := by
    intro fu
    induction fu with
    | zero =>
      intro w d h2 hw hm
      exact absurd hm (Nat.not_lt_zero _)
    | succ fu ih4 =>
      intro w d h2 hw hm ls hl
      refine lv_iload_n S.1 S.2.1 dX9_weekOf_4 rfl (lv_at hl 3 rfl) ?_
      refine lv_bipush (v := (nI 7)) S.1 S.2.1 dX9_weekOf_5 (by decide) ?_
      refine n_cge S (tgt := 32) (by omega) dX9_weekOf_7 (by decide) (fun c7 => ?_) (fun c7 => ?_)
      · refine lv_iload_n S.1 S.2.1 dX9_weekOf_32 rfl (lv_at hl 2 rfl) ?_
        exact rd_iret S hr rfl hlocks (by rw [hw, show d = 7 by omega, pre_7]) dX9_weekOf_33
      · refine lv_iconst (v := (nI 4)) S.1 S.2.1 dX9_weekOf_10 (by decide) ?_
        refine lv_iload_n S.1 S.2.1 dX9_weekOf_11 rfl (lv_at hl 2 rfl) ?_
        refine n_mul S dX9_weekOf_12 ?_
        refine lv_aload_n S.1 S.2.1 dX9_weekOf_13 rfl (lv_at hl 0 rfl) ?_
        refine g_get (C := RX9) (T := TX9) (N := 15) (v := .ref (q 5)) S 0 7 9 in_X9_weekOf_X9 hK hP rfl rfl (by decide) w_X9_weekOf_0 rfl dX9_weekOf_14 ?_
        refine lv_bipush (v := (nI 7)) S.1 S.2.1 dX9_weekOf_17 (by decide) ?_
        refine lv_iload_n S.1 S.2.1 dX9_weekOf_19 rfl (lv_at hl 1 rfl) ?_
        refine n_mul S dX9_weekOf_20 ?_
        refine lv_iload_n S.1 S.2.1 dX9_weekOf_21 rfl (lv_at hl 3 rfl) ?_
        refine n_add S dX9_weekOf_22 ?_
        refine g_iald S 5 hK hP rfl (by omega) dX9_weekOf_23 ?_
        refine n_top (show (nI (enf wk ((7 * i) + d))) = (nI (ent (wk i) d)) from congrArg nI (en_at (by omega))) ?_
        refine n_add S dX9_weekOf_24 ?_
        refine lv_istore_n (lv' := [(2, .int (nI ((4 * w) + (ent (wk i) d)))), (0, .ref (q 0)), (1, .int (nI i)), (3, .int (nI d))]) S.1 S.2.1 dX9_weekOf_25 rfl hl (by decide) rfl (fun ls hl => ?_)
        refine lv_iinc (v := (nI (d + 1))) (lv' := [(3, .int (nI (d + 1))), (2, .int (nI ((4 * w) + (ent (wk i) d)))), (0, .ref (q 0)), (1, .int (nI i))]) S.1 S.2.1 dX9_weekOf_26 hl (k := 3) rfl (nI_1 _) (by decide) rfl (fun ls hl => ?_)
        refine lv_goto (tgt := 4) S.1 S.2.1 dX9_weekOf_29 (by decide) ?_
        exact ih4 ((4 * w) + (ent (wk i) d)) (d + 1) (by omega) (by rw [hw]; exact (pre_s (by omega)).symm) (by omega) ls (lv_sub hl [2, 3, 1, 0] rfl)
  exact lp4 _ 0 0 (Nat.zero_le _) ((pre_0 (hper i).2.2.1).symm) (Nat.lt_succ_self _) ls (lv_sub hl [2, 3, 1, 0] rfl)

theorem pd_X9_weekendOf : yX9_weekendOf.cls ≠ "java/lang/invoke/MethodHandle" ∧ yX9_weekendOf.cls ≠ "java/lang/invoke/VarHandle" ∧ (parseMethodDescriptor yX9_weekendOf.desc).map (fun d => d.parameters.length) = some 1 := by decide +kernel
set_option maxHeartbeats 4000000 in
set_option maxRecDepth 100000 in
theorem r_X9_weekendOf (l : Launch) (D : va_G) (cT : ClassId × ClassId × ClassId) (w : Nat) (hw : w < 16384) : Met l yX9_weekendOf wsX9_weekendOf ({ frames := 1, cells := 0, slots := 0, locals := 21 }) (va_Pc [.int (nI w)] (sx_R D (TY cT) ([]))) (vp_Si (fun r_ => r_ = (nI (shc w 5 2)))) 0 0 (fun _ => False) := by
  refine rd_start (cc := cX9_weekendOf) (maxL := 1) (ret := (some .int)) RX9 ⟨by decide +kernel, rfl⟩ rfl (Nat.le_of_ble_eq_true rfl) ?_
  intro p0 e0 s0 m0 a0 b0 t0 c0 S hr hlocks hP hK ls hl
  have hl : lv_has ls 1 [(0, .int (nI w))] := hl
  refine lv_iload_n S.1 S.2.1 dX9_weekendOf_0 rfl (lv_at hl 0 rfl) ?_
  refine lv_iconst (v := (nI 5)) S.1 S.2.1 dX9_weekendOf_1 (by decide) ?_
  refine rd_callS (rest := []) S (r_X9_entryOf l D cT w 5 (by omega) (by omega)) gX9_weekendOf_X9_entryOf rfl pd_X9_entryOf ⟨rfl, rfl, Nat.le_of_ble_eq_true rfl, Nat.le_of_ble_eq_true rfl⟩ (sx_P0 D _) hK hl rfl rfl (Nat.le_of_ble_eq_true rfl) ⟨Nat.zero_le _, Nat.zero_le _⟩ dX9_weekendOf_2 ?_
  refine n_zle S (tgt := 12) (Nat.lt_trans (ent_lt _ _) (by decide)) dX9_weekendOf_5 (by decide) (fun c5 => ?_) (fun c5 => ?_)
  · refine lv_iconst (v := (nI 0)) S.1 S.2.1 dX9_weekendOf_12 (by decide) ?_
    refine lv_iload_n S.1 S.2.1 dX9_weekendOf_13 rfl (lv_at hl 0 rfl) ?_
    refine lv_bipush (v := (nI 6)) S.1 S.2.1 dX9_weekendOf_14 (by decide) ?_
    refine rd_callS (rest := [.int (nI 0)]) S (r_X9_entryOf l D cT w 6 (by omega) (by omega)) gX9_weekendOf_X9_entryOf rfl pd_X9_entryOf ⟨rfl, rfl, Nat.le_of_ble_eq_true rfl, Nat.le_of_ble_eq_true rfl⟩ (sx_P0 D _) hK hl rfl rfl (Nat.le_of_ble_eq_true rfl) ⟨Nat.zero_le _, Nat.zero_le _⟩ dX9_weekendOf_16 ?_
    refine n_zle S (tgt := 26) (Nat.lt_trans (ent_lt _ _) (by decide)) dX9_weekendOf_19 (by decide) (fun c19 => ?_) (fun c19 => ?_)
    · refine lv_iconst (v := (nI 0)) S.1 S.2.1 dX9_weekendOf_26 (by decide) ?_
      refine n_add S dX9_weekendOf_27 ?_
      exact rd_iret S hr rfl hlocks (by rw [wke]; (first | rw [if_pos c5] | rw [if_neg (Nat.ne_of_gt c5)]) <;> (first | rw [if_pos c19] | rw [if_neg (Nat.ne_of_gt c19)])) dX9_weekendOf_28
    · refine lv_iconst (v := (nI 1)) S.1 S.2.1 dX9_weekendOf_22 (by decide) ?_
      refine lv_goto (tgt := 27) S.1 S.2.1 dX9_weekendOf_23 (by decide) ?_
      refine n_add S dX9_weekendOf_27 ?_
      exact rd_iret S hr rfl hlocks (by rw [wke]; (first | rw [if_pos c5] | rw [if_neg (Nat.ne_of_gt c5)]) <;> (first | rw [if_pos c19] | rw [if_neg (Nat.ne_of_gt c19)])) dX9_weekendOf_28
  · refine lv_iconst (v := (nI 1)) S.1 S.2.1 dX9_weekendOf_8 (by decide) ?_
    refine lv_goto (tgt := 13) S.1 S.2.1 dX9_weekendOf_9 (by decide) ?_
    refine lv_iload_n S.1 S.2.1 dX9_weekendOf_13 rfl (lv_at hl 0 rfl) ?_
    refine lv_bipush (v := (nI 6)) S.1 S.2.1 dX9_weekendOf_14 (by decide) ?_
    refine rd_callS (rest := [.int (nI 1)]) S (r_X9_entryOf l D cT w 6 (by omega) (by omega)) gX9_weekendOf_X9_entryOf rfl pd_X9_entryOf ⟨rfl, rfl, Nat.le_of_ble_eq_true rfl, Nat.le_of_ble_eq_true rfl⟩ (sx_P0 D _) hK hl rfl rfl (Nat.le_of_ble_eq_true rfl) ⟨Nat.zero_le _, Nat.zero_le _⟩ dX9_weekendOf_16 ?_
    refine n_zle S (tgt := 26) (Nat.lt_trans (ent_lt _ _) (by decide)) dX9_weekendOf_19 (by decide) (fun c19 => ?_) (fun c19 => ?_)
    · refine lv_iconst (v := (nI 0)) S.1 S.2.1 dX9_weekendOf_26 (by decide) ?_
      refine n_add S dX9_weekendOf_27 ?_
      exact rd_iret S hr rfl hlocks (by rw [wke]; (first | rw [if_pos c5] | rw [if_neg (Nat.ne_of_gt c5)]) <;> (first | rw [if_pos c19] | rw [if_neg (Nat.ne_of_gt c19)])) dX9_weekendOf_28
    · refine lv_iconst (v := (nI 1)) S.1 S.2.1 dX9_weekendOf_22 (by decide) ?_
      refine lv_goto (tgt := 27) S.1 S.2.1 dX9_weekendOf_23 (by decide) ?_
      refine n_add S dX9_weekendOf_27 ?_
      exact rd_iret S hr rfl hlocks (by rw [wke]; (first | rw [if_pos c5] | rw [if_neg (Nat.ne_of_gt c5)]) <;> (first | rw [if_pos c19] | rw [if_neg (Nat.ne_of_gt c19)])) dX9_weekendOf_28

theorem pd_X9_brokenBy : yX9_brokenBy.cls = RX9 ∧ yX9_brokenBy.cls ≠ "java/lang/invoke/MethodHandle" ∧ yX9_brokenBy.cls ≠ "java/lang/invoke/VarHandle" ∧ (parseMethodDescriptor yX9_brokenBy.desc).map (fun d => d.parameters.length) = some 2 := by decide +kernel
theorem w_X9_brokenBy_0 : Cond.fieldLink RX9 32 "CoverSheetModel" "wished" "[I" ∈ wsX9_brokenBy := by decide +kernel
theorem in_X9_brokenBy_X9 : ∀ w ∈ u_ws RX9 TX9 15, w ∈ wsX9_brokenBy := by decide +kernel
set_option maxHeartbeats 4000000 in
set_option maxRecDepth 100000 in
theorem r_X9_brokenBy (l : Launch) (D : va_G) (cT : ClassId × ClassId × ClassId) (q : Nat → Nat) (bd th n ro cl fb rn : Nat) (nd sk mo wk fx wi la da we : Nat → Nat) (i w : Nat) (hwf : wfC n bd fb rn nd sk mo wk fx wi la da we) (hz : ∀ b, b < 4 → bit fb (4 * b) = 0) (hi : i < 8) (hw : w < 16384) : Met l yX9_brokenBy wsX9_brokenBy ({ frames := 1, cells := 0, slots := 0, locals := 21 }) (va_Pc [.ref (q 0), .int (nI i), .int (nI w)] (sx_R D (TY cT) (mX cT q th n ro cl fb rn nd sk mo wk fx wi la da we))) (vp_Si (fun r_ => r_ = (nI (brc (wi i) w 7)))) 0 0 (fun _ => False) := by
  refine rd_start (cc := cX9_brokenBy) (maxL := 5) (ret := (some .int)) RX9 ⟨by decide +kernel, rfl⟩ rfl (Nat.le_of_ble_eq_true rfl) ?_
  intro p0 e0 s0 m0 a0 b0 t0 c0 S hr hlocks hP hK ls hl
  have hl : lv_has ls 5 [(0, .ref (q 0)), (1, .int (nI i)), (2, .int (nI w))] := hl
  obtain ⟨hn, hcl, hfb, hrn, hnd, hper⟩ := id hwf
  have hpi := hper i
  refine lv_iconst (v := (nI 0)) S.1 S.2.1 dX9_brokenBy_0 (by decide) ?_
  refine lv_istore_n (lv' := [(3, .int (nI 0)), (0, .ref (q 0)), (1, .int (nI i)), (2, .int (nI w))]) S.1 S.2.1 dX9_brokenBy_1 rfl hl (by decide) rfl (fun ls hl => ?_)
  refine lv_iconst (v := (nI 0)) S.1 S.2.1 dX9_brokenBy_2 (by decide) ?_
  refine lv_istore (lv' := [(4, .int (nI 0)), (3, .int (nI 0)), (0, .ref (q 0)), (1, .int (nI i)), (2, .int (nI w))]) S.1 S.2.1 dX9_brokenBy_3 hl (by decide) rfl (fun ls hl => ?_)
  have lp5 : ∀ (fu : Nat) (f : Nat) (d : Nat), (d ≤ 7) → (f = brc (wi i) w d) → (7 - d) < fu → ∀ ls : Array Slot, lv_has ls 5 [(0, .ref (q 0)), (1, .int (nI i)), (2, .int (nI w)), (3, .int (nI f)), (4, .int (nI d))] → W p0 l e0 ({ frames := 1, cells := 0, slots := 0, locals := 21 } : Room) s0 m0 a0 b0 t0 c0 s0.heap [] 0 0 (MQ b0 (vp_Si (fun r_ => r_ = (nI (brc (wi i) w 7)))) a0 s0 0 0 (fun _ => False)) (F0 m0 5 ls []) := by
    intro fu
    induction fu with
    | zero =>
      intro f d h2 hf hm
      exact absurd hm (Nat.not_lt_zero _)
    | succ fu ih5 =>
      intro f d h2 hf hm ls hl
      refine lv_iload S.1 S.2.1 dX9_brokenBy_5 (lv_at hl 4 rfl) ?_
      refine lv_bipush (v := (nI 7)) S.1 S.2.1 dX9_brokenBy_7 (by decide) ?_
      refine n_cge S (tgt := 50) (by omega) dX9_brokenBy_9 (by decide) (fun c9 => ?_) (fun c9 => ?_)
      · refine lv_iload_n S.1 S.2.1 dX9_brokenBy_50 rfl (lv_at hl 3 rfl) ?_
        exact rd_iret S hr rfl hlocks (by rw [hf, show d = 7 by omega]) dX9_brokenBy_51
      · refine lv_iload_n S.1 S.2.1 dX9_brokenBy_12 rfl (lv_at hl 3 rfl) ?_
        refine lv_iload_n S.1 S.2.1 dX9_brokenBy_13 rfl (lv_at hl 2 rfl) ?_
        refine lv_iload S.1 S.2.1 dX9_brokenBy_14 (lv_at hl 4 rfl) ?_
        refine rd_callS (rest := [.int (nI f)]) S (r_X9_entryOf l D cT w d (by omega) (by omega)) gX9_brokenBy_X9_entryOf rfl pd_X9_entryOf ⟨rfl, rfl, Nat.le_of_ble_eq_true rfl, Nat.le_of_ble_eq_true rfl⟩ (sx_P0 D _) hK hl rfl rfl (Nat.le_of_ble_eq_true rfl) ⟨Nat.zero_le _, Nat.zero_le _⟩ dX9_brokenBy_16 ?_
        refine n_zle S (tgt := 41) (Nat.lt_trans (ent_lt _ _) (by decide)) dX9_brokenBy_19 (by decide) (fun c19 => ?_) (fun c19 => ?_)
        · refine lv_iconst (v := (nI 0)) S.1 S.2.1 dX9_brokenBy_41 (by decide) ?_
          refine n_add S dX9_brokenBy_42 ?_
          refine lv_istore_n (lv' := [(3, .int (nI (f + 0))), (0, .ref (q 0)), (1, .int (nI i)), (2, .int (nI w)), (4, .int (nI d))]) S.1 S.2.1 dX9_brokenBy_43 rfl hl (by decide) rfl (fun ls hl => ?_)
          refine lv_iinc (v := (nI (d + 1))) (lv' := [(4, .int (nI (d + 1))), (3, .int (nI (f + 0))), (0, .ref (q 0)), (1, .int (nI i)), (2, .int (nI w))]) S.1 S.2.1 dX9_brokenBy_44 hl (k := 4) rfl (nI_1 _) (by decide) rfl (fun ls hl => ?_)
          refine lv_goto (tgt := 5) S.1 S.2.1 dX9_brokenBy_47 (by decide) ?_
          exact ih5 (f + 0) (d + 1) (by omega) (by first | (rw [hf]; exact (brk_1 c19 c34).symm) | (rw [hf]; exact (brk_0 (Or.inl c19)).symm) | (rw [hf]; exact (brk_0 (Or.inr c34)).symm)) (by omega) ls (lv_sub hl [2, 3, 4, 1, 0] rfl)
        · refine lv_aload_n S.1 S.2.1 dX9_brokenBy_22 rfl (lv_at hl 0 rfl) ?_
          refine g_get (C := RX9) (T := TX9) (N := 15) (v := .ref (q 7)) S 0 7 11 in_X9_brokenBy_X9 hK hP rfl rfl (by decide) w_X9_brokenBy_0 rfl dX9_brokenBy_23 ?_
          refine lv_iload_n S.1 S.2.1 dX9_brokenBy_26 rfl (lv_at hl 1 rfl) ?_
          refine g_iald S 7 hK hP rfl (by omega) dX9_brokenBy_27 ?_
          refine lv_iload S.1 S.2.1 dX9_brokenBy_28 (lv_at hl 4 rfl) ?_
          refine n_shr S (by omega) dX9_brokenBy_30 ?_
          refine lv_iconst (v := (nI 1)) S.1 S.2.1 dX9_brokenBy_31 (by decide) ?_
          refine n_and S dX9_brokenBy_32 ?_
          refine n_top (show (nI (((wi i) / 2 ^ d) &&& 1)) = (nI (bit (wi i) d)) from congrArg nI (Nat.and_one_is_mod _)) ?_
          refine lv_iconst (v := (nI 1)) S.1 S.2.1 dX9_brokenBy_33 (by decide) ?_
          refine n_cne S (tgt := 41) (⟨Nat.lt_trans (bit_lt _ _) (by decide), by decide⟩) dX9_brokenBy_34 (by decide) (fun c34 => ?_) (fun c34 => ?_)
          · refine lv_iconst (v := (nI 0)) S.1 S.2.1 dX9_brokenBy_41 (by decide) ?_
            refine n_add S dX9_brokenBy_42 ?_
            refine lv_istore_n (lv' := [(3, .int (nI (f + 0))), (0, .ref (q 0)), (1, .int (nI i)), (2, .int (nI w)), (4, .int (nI d))]) S.1 S.2.1 dX9_brokenBy_43 rfl hl (by decide) rfl (fun ls hl => ?_)
            refine lv_iinc (v := (nI (d + 1))) (lv' := [(4, .int (nI (d + 1))), (3, .int (nI (f + 0))), (0, .ref (q 0)), (1, .int (nI i)), (2, .int (nI w))]) S.1 S.2.1 dX9_brokenBy_44 hl (k := 4) rfl (nI_1 _) (by decide) rfl (fun ls hl => ?_)
            refine lv_goto (tgt := 5) S.1 S.2.1 dX9_brokenBy_47 (by decide) ?_
            exact ih5 (f + 0) (d + 1) (by omega) (by first | (rw [hf]; exact (brk_1 c19 c34).symm) | (rw [hf]; exact (brk_0 (Or.inl c19)).symm) | (rw [hf]; exact (brk_0 (Or.inr c34)).symm)) (by omega) ls (lv_sub hl [2, 3, 4, 1, 0] rfl)
          · refine lv_iconst (v := (nI 1)) S.1 S.2.1 dX9_brokenBy_37 (by decide) ?_
            refine lv_goto (tgt := 42) S.1 S.2.1 dX9_brokenBy_38 (by decide) ?_
            refine n_add S dX9_brokenBy_42 ?_
            refine lv_istore_n (lv' := [(3, .int (nI (f + 1))), (0, .ref (q 0)), (1, .int (nI i)), (2, .int (nI w)), (4, .int (nI d))]) S.1 S.2.1 dX9_brokenBy_43 rfl hl (by decide) rfl (fun ls hl => ?_)
            refine lv_iinc (v := (nI (d + 1))) (lv' := [(4, .int (nI (d + 1))), (3, .int (nI (f + 1))), (0, .ref (q 0)), (1, .int (nI i)), (2, .int (nI w))]) S.1 S.2.1 dX9_brokenBy_44 hl (k := 4) rfl (nI_1 _) (by decide) rfl (fun ls hl => ?_)
            refine lv_goto (tgt := 5) S.1 S.2.1 dX9_brokenBy_47 (by decide) ?_
            exact ih5 (f + 1) (d + 1) (by omega) (by first | (rw [hf]; exact (brk_1 c19 c34).symm) | (rw [hf]; exact (brk_0 (Or.inl c19)).symm) | (rw [hf]; exact (brk_0 (Or.inr c34)).symm)) (by omega) ls (lv_sub hl [2, 3, 4, 1, 0] rfl)
  exact lp5 _ 0 0 (Nat.zero_le _) (rfl) (Nat.lt_succ_self _) ls (lv_sub hl [2, 3, 4, 1, 0] rfl)

theorem pd_X9_isPossible : yX9_isPossible.cls = RX9 ∧ yX9_isPossible.cls ≠ "java/lang/invoke/MethodHandle" ∧ yX9_isPossible.cls ≠ "java/lang/invoke/VarHandle" ∧ (parseMethodDescriptor yX9_isPossible.desc).map (fun d => d.parameters.length) = some 2 := by decide +kernel
theorem w_X9_isPossible_0 : Cond.fieldLink RX9 35 "CoverSheetModel" "last" "[I" ∈ wsX9_isPossible := by decide +kernel
theorem w_X9_isPossible_1 : Cond.fieldLink RX9 38 "CoverSheetModel" "before" "[I" ∈ wsX9_isPossible := by decide +kernel
theorem w_X9_isPossible_2 : Cond.fieldLink RX9 29 "CoverSheetModel" "fixed" "[I" ∈ wsX9_isPossible := by decide +kernel
theorem w_X9_isPossible_3 : Cond.fieldLink RX9 23 "CoverSheetModel" "barred" "[I" ∈ wsX9_isPossible := by decide +kernel
theorem w_X9_isPossible_4 : Cond.fieldLink RX9 7 "CoverSheetModel" "run" "I" ∈ wsX9_isPossible := by decide +kernel
theorem w_X9_isPossible_5 : Cond.fieldLink RX9 13 "CoverSheetModel" "skills" "[I" ∈ wsX9_isPossible := by decide +kernel
theorem w_X9_isPossible_6 : Cond.fieldLink RX9 17 "CoverSheetModel" "most" "[I" ∈ wsX9_isPossible := by decide +kernel
theorem in_X9_isPossible_X9 : ∀ w ∈ u_ws RX9 TX9 15, w ∈ wsX9_isPossible := by decide +kernel
set_option maxHeartbeats 4000000 in
set_option maxRecDepth 100000 in
theorem r_X9_isPossible (l : Launch) (D : va_G) (cT : ClassId × ClassId × ClassId) (q : Nat → Nat) (bd th n ro cl fb rn : Nat) (nd sk mo wk fx wi la da we : Nat → Nat) (i w : Nat) (hwf : wfC n bd fb rn nd sk mo wk fx wi la da we) (hz : ∀ b, b < 4 → bit fb (4 * b) = 0) (hi : i < 8) (hw : w < 16384) : Met l yX9_isPossible wsX9_isPossible ({ frames := 2, cells := 0, slots := 0, locals := 43 }) (va_Pc [.ref (q 0), .int (nI i), .int (nI w)] (sx_R D (TY cT) (mX cT q th n ro cl fb rn nd sk mo wk fx wi la da we))) (vp_Si (fun r_ => r_ = (nI (fe sk mo fx la da fb rn i w).toNat))) 0 0 (fun _ => False) := by
  refine rd_start (cc := cX9_isPossible) (maxL := 9) (ret := (some .boolean)) RX9 ⟨by decide +kernel, rfl⟩ rfl (Nat.le_of_ble_eq_true rfl) ?_
  intro p0 e0 s0 m0 a0 b0 t0 c0 S hr hlocks hP hK ls hl
  have hl : lv_has ls 9 [(0, .ref (q 0)), (1, .int (nI i)), (2, .int (nI w))] := hl
  obtain ⟨hn, hcl, hfb, hrn, hnd, hper⟩ := id hwf
  have hpi := hper i
  have hsl := shc_le w 0 7
  have jn18 : ∀ (b : Bool) , (b = decide (shc w 0 7 ≤ mo i)) → ∀ ls : Array Slot, lv_has ls 9 [(0, .ref (q 0)), (1, .int (nI i)), (2, .int (nI w))] → W p0 l e0 ({ frames := 2, cells := 0, slots := 0, locals := 43 } : Room) s0 m0 a0 b0 t0 c0 s0.heap [] 0 0 (MQ b0 (vp_Si (fun r_ => r_ = (nI (fe sk mo fx la da fb rn i w).toNat))) a0 s0 0 0 (fun _ => False)) (F0 m0 18 ls [.int (nI b.toNat)]) := by
    intro b hb0 ls hl
    refine lv_istore_n (lv' := [(3, .int (nI b.toNat)), (0, .ref (q 0)), (1, .int (nI i)), (2, .int (nI w))]) S.1 S.2.1 dX9_isPossible_18 rfl hl (by decide) rfl (fun ls hl => ?_)
    refine lv_aload_n S.1 S.2.1 dX9_isPossible_19 rfl (lv_at hl 1 rfl) ?_
    refine g_get (C := RX9) (T := TX9) (N := 15) (v := .ref (q 8)) S 0 7 12 in_X9_isPossible_X9 hK hP rfl rfl (by decide) w_X9_isPossible_0 rfl dX9_isPossible_20 ?_
    refine lv_iload_n S.1 S.2.1 dX9_isPossible_23 rfl (lv_at hl 2 rfl) ?_
    refine g_iald S 8 hK hP rfl (by omega) dX9_isPossible_24 ?_
    refine lv_istore (lv' := [(4, .int (nI (la i))), (3, .int (nI b.toNat)), (0, .ref (q 0)), (1, .int (nI i)), (2, .int (nI w))]) S.1 S.2.1 dX9_isPossible_25 hl (by decide) rfl (fun ls hl => ?_)
    refine lv_aload_n S.1 S.2.1 dX9_isPossible_27 rfl (lv_at hl 2 rfl) ?_
    refine g_get (C := RX9) (T := TX9) (N := 15) (v := .ref (q 9)) S 0 7 13 in_X9_isPossible_X9 hK hP rfl rfl (by decide) w_X9_isPossible_1 rfl dX9_isPossible_28 ?_
    refine lv_iload_n S.1 S.2.1 dX9_isPossible_31 rfl (lv_at hl 3 rfl) ?_
    refine g_iald S 9 hK hP rfl (by omega) dX9_isPossible_32 ?_
    refine lv_istore (lv' := [(5, .int (nI (da i))), (4, .int (nI (la i))), (3, .int (nI b.toNat)), (0, .ref (q 0)), (1, .int (nI i)), (2, .int (nI w))]) S.1 S.2.1 dX9_isPossible_33 hl (by decide) rfl (fun ls hl => ?_)
    refine lv_iconst (v := (nI 0)) S.1 S.2.1 dX9_isPossible_35 (by decide) ?_
    refine lv_istore (lv' := [(6, .int (nI 0)), (5, .int (nI (da i))), (4, .int (nI (la i))), (3, .int (nI b.toNat)), (0, .ref (q 0)), (1, .int (nI i)), (2, .int (nI w))]) S.1 S.2.1 dX9_isPossible_36 hl (by decide) rfl (fun ls hl => ?_)
    have lp38 : ∀ (fu : Nat) (b : Bool) (y : Nat) (r : Nat) (d : Nat), (d ≤ 7) → (y = bef w (la i) d) → (r = rnb w (da i) d) → (b = (decide (shc w 0 7 ≤ mo i) && okn (sk i) (nib (fx i)) (bit fb) (la i) (da i) rn w d)) → (7 - d) < fu → ∀ ls : Array Slot, lv_has ls 9 [(0, .ref (q 0)), (1, .int (nI i)), (2, .int (nI w)), (3, .int (nI b.toNat)), (4, .int (nI y)), (5, .int (nI r)), (6, .int (nI d))] → W p0 l e0 ({ frames := 2, cells := 0, slots := 0, locals := 43 } : Room) s0 m0 a0 b0 t0 c0 s0.heap [] 0 0 (MQ b0 (vp_Si (fun r_ => r_ = (nI (fe sk mo fx la da fb rn i w).toNat))) a0 s0 0 0 (fun _ => False)) (F0 m0 38 ls []) := by
      intro fu
      induction fu with
      | zero =>
        intro b y r d h2 hy0 hr0 hb hm
        exact absurd hm (Nat.not_lt_zero _)
      | succ fu ih38 =>
        intro b y r d h2 hy0 hr0 hb hm ls hl
        have hyl : y < 4 := by rw [hy0]; exact bef_lt hpi.2.2.2.2.2.1 d
        have hrl := rnb_le w (da i) d
        have hrl2 := rnb_le w (da i) (d + 1)
        refine lv_iload S.1 S.2.1 dX9_isPossible_38 (lv_at hl 6 rfl) ?_
        refine lv_bipush (v := (nI 7)) S.1 S.2.1 dX9_isPossible_40 (by decide) ?_
        refine n_cge S (tgt := 159) (by omega) dX9_isPossible_42 (by decide) (fun c42 => ?_) (fun c42 => ?_)
        · refine lv_iload_n S.1 S.2.1 dX9_isPossible_159 rfl (lv_at hl 3 rfl) ?_
          exact rd_iret S hr (sx_bt _) hlocks (by rw [hb, show d = 7 by omega, Bool.and_comm]; rfl) dX9_isPossible_160
        · refine lv_iload_n S.1 S.2.1 dX9_isPossible_45 rfl (lv_at hl 3 rfl) ?_
          refine n_beq S (tgt := 159) dX9_isPossible_46 (by decide) (fun c46 => ?_) (fun c46 => ?_)
          · refine lv_iload_n S.1 S.2.1 dX9_isPossible_159 rfl (lv_at hl 3 rfl) ?_
            exact rd_iret S hr (sx_bt _) hlocks (by rw [c46] at hb; exact congrArg (fun z : Bool => nI z.toNat) (c46.trans (feas_m hb.symm h2).symm)) dX9_isPossible_160
          · refine lv_iload_n S.1 S.2.1 dX9_isPossible_49 rfl (lv_at hl 2 rfl) ?_
            refine lv_iload S.1 S.2.1 dX9_isPossible_50 (lv_at hl 6 rfl) ?_
            refine rd_callS (rest := []) S (r_X9_entryOf l D cT w d (by omega) (by omega)) gX9_isPossible_X9_entryOf rfl pd_X9_entryOf ⟨rfl, rfl, Nat.le_of_ble_eq_true rfl, Nat.le_of_ble_eq_true rfl⟩ (sx_P0 D _) hK hl rfl rfl (Nat.le_of_ble_eq_true rfl) ⟨Nat.zero_le _, Nat.zero_le _⟩ dX9_isPossible_52 ?_
            refine lv_istore (lv' := [(7, .int (nI (ent w d))), (0, .ref (q 0)), (1, .int (nI i)), (2, .int (nI w)), (3, .int (nI b.toNat)), (4, .int (nI y)), (5, .int (nI r)), (6, .int (nI d))]) S.1 S.2.1 dX9_isPossible_55 hl (by decide) rfl (fun ls hl => ?_)
            refine lv_aload_n S.1 S.2.1 dX9_isPossible_57 rfl (lv_at hl 1 rfl) ?_
            refine g_get (C := RX9) (T := TX9) (N := 15) (v := .ref (q 6)) S 0 7 10 in_X9_isPossible_X9 hK hP rfl rfl (by decide) w_X9_isPossible_2 rfl dX9_isPossible_58 ?_
            refine lv_bipush (v := (nI 7)) S.1 S.2.1 dX9_isPossible_61 (by decide) ?_
            refine lv_iload_n S.1 S.2.1 dX9_isPossible_63 rfl (lv_at hl 2 rfl) ?_
            refine n_mul S dX9_isPossible_64 ?_
            refine lv_iload S.1 S.2.1 dX9_isPossible_65 (lv_at hl 7 rfl) ?_
            refine n_add S dX9_isPossible_67 ?_
            refine g_ialdR S 6 hK hP rfl (by omega) dX9_isPossible_68 ?_
            refine n_top (show ((fun k => nI (fxf fx k) - nI 1) ((7 * i) + d)) = (nI (nib (fx i) d) - nI 1) from by show nI (fxf fx (7 * i + d)) - nI 1 = _; rw [fx_at (by omega)]) ?_
            refine lv_istore (lv' := [(8, .int (nI (nib (fx i) d) - nI 1)), (7, .int (nI (ent w d))), (0, .ref (q 0)), (1, .int (nI i)), (2, .int (nI w)), (3, .int (nI b.toNat)), (4, .int (nI y)), (5, .int (nI r)), (6, .int (nI d))]) S.1 S.2.1 dX9_isPossible_69 hl (by decide) rfl (fun ls hl => ?_)
            have jn84 : ∀ (r1 : Nat) , (r1 = rnb w (da i) (d + 1)) → ∀ ls : Array Slot, lv_has ls 9 [(0, .ref (q 0)), (1, .int (nI i)), (2, .int (nI w)), (3, .int (nI b.toNat)), (4, .int (nI y)), (5, .int (nI r)), (6, .int (nI d)), (7, .int (nI (ent w d))), (8, .int (nI (nib (fx i) d) - nI 1))] → W p0 l e0 ({ frames := 2, cells := 0, slots := 0, locals := 43 } : Room) s0 m0 a0 b0 t0 c0 s0.heap [] 0 0 (MQ b0 (vp_Si (fun r_ => r_ = (nI (fe sk mo fx la da fb rn i w).toNat))) a0 s0 0 0 (fun _ => False)) (F0 m0 84 ls [.int (nI r1)]) := by
              intro r1 hr1 ls hl
              refine lv_istore (lv' := [(5, .int (nI r1)), (0, .ref (q 0)), (1, .int (nI i)), (2, .int (nI w)), (3, .int (nI b.toNat)), (4, .int (nI y)), (6, .int (nI d)), (7, .int (nI (ent w d))), (8, .int (nI (nib (fx i) d) - nI 1))]) S.1 S.2.1 dX9_isPossible_84 hl (by decide) rfl (fun ls hl => ?_)
              have jn148 : ∀ (b1 : Bool) , (b1 = okd (sk i) (nib (fx i)) (bit fb) (la i) (da i) rn w d) → ∀ ls : Array Slot, lv_has ls 9 [(0, .ref (q 0)), (1, .int (nI i)), (2, .int (nI w)), (4, .int (nI y)), (5, .int (nI r1)), (6, .int (nI d)), (7, .int (nI (ent w d)))] → W p0 l e0 ({ frames := 2, cells := 0, slots := 0, locals := 43 } : Room) s0 m0 a0 b0 t0 c0 s0.heap [] 0 0 (MQ b0 (vp_Si (fun r_ => r_ = (nI (fe sk mo fx la da fb rn i w).toNat))) a0 s0 0 0 (fun _ => False)) (F0 m0 148 ls [.int (nI b1.toNat)]) := by
                intro b1 hb1 ls hl
                refine lv_istore_n (lv' := [(3, .int (nI b1.toNat)), (0, .ref (q 0)), (1, .int (nI i)), (2, .int (nI w)), (4, .int (nI y)), (5, .int (nI r1)), (6, .int (nI d)), (7, .int (nI (ent w d)))]) S.1 S.2.1 dX9_isPossible_148 rfl hl (by decide) rfl (fun ls hl => ?_)
                refine lv_iload S.1 S.2.1 dX9_isPossible_149 (lv_at hl 7 rfl) ?_
                refine lv_istore (lv' := [(4, .int (nI (ent w d))), (3, .int (nI b1.toNat)), (0, .ref (q 0)), (1, .int (nI i)), (2, .int (nI w)), (5, .int (nI r1)), (6, .int (nI d)), (7, .int (nI (ent w d)))]) S.1 S.2.1 dX9_isPossible_151 hl (by decide) rfl (fun ls hl => ?_)
                refine lv_iinc (v := (nI (d + 1))) (lv' := [(6, .int (nI (d + 1))), (4, .int (nI (ent w d))), (3, .int (nI b1.toNat)), (0, .ref (q 0)), (1, .int (nI i)), (2, .int (nI w)), (5, .int (nI r1)), (7, .int (nI (ent w d)))]) S.1 S.2.1 dX9_isPossible_153 hl (k := 6) rfl (nI_1 _) (by decide) rfl (fun ls hl => ?_)
                refine lv_goto (tgt := 38) S.1 S.2.1 dX9_isPossible_156 (by decide) ?_
                exact ih38 b1 (ent w d) r1 (d + 1) (by omega) (rfl) (hr1) (by rw [c46] at hb; rw [hb1]; show _ = (_ && (okn (sk i) (nib (fx i)) (bit fb) (la i) (da i) rn w d && _)); rw [← Bool.and_assoc, ← hb, Bool.true_and]) (by omega) ls (lv_sub hl [3, 4, 5, 2, 1, 6, 0] rfl)
              refine lv_iload S.1 S.2.1 dX9_isPossible_86 (lv_at hl 7 rfl) ?_
              refine n_zeq S (tgt := 106) (Nat.lt_trans (ent_lt _ _) (by decide)) dX9_isPossible_88 (by decide) (fun c88 => ?_) (fun c88 => ?_)
              · refine lv_iload S.1 S.2.1 dX9_isPossible_106 (lv_at hl 8 rfl) ?_
                refine lv_iconst (v := (-1)) S.1 S.2.1 dX9_isPossible_108 (by decide) ?_
                refine lv_icmp_eq (tgt := 119) S.1 S.2.1 dX9_isPossible_109 (by decide) (fun c109 => ?_) (fun c109 => ?_)
                · refine lv_aload_n S.1 S.2.1 dX9_isPossible_119 rfl (lv_at hl 1 rfl) ?_
                  refine g_get (C := RX9) (T := TX9) (N := 15) (v := .ref (q 4)) S 0 7 8 in_X9_isPossible_X9 hK hP rfl rfl (by decide) w_X9_isPossible_3 rfl dX9_isPossible_120 ?_
                  refine lv_iconst (v := (nI 4)) S.1 S.2.1 dX9_isPossible_123 (by decide) ?_
                  refine lv_iload S.1 S.2.1 dX9_isPossible_124 (lv_at hl 5 rfl) ?_
                  refine n_mul S dX9_isPossible_126 ?_
                  refine lv_iload S.1 S.2.1 dX9_isPossible_127 (lv_at hl 7 rfl) ?_
                  refine n_add S dX9_isPossible_129 ?_
                  refine g_iald S 4 hK hP rfl (⟨by have := ent_lt w d; omega, by decide⟩) dX9_isPossible_130 ?_
                  refine n_zne S (tgt := 147) (Nat.lt_trans (bit_lt _ _) (by decide)) dX9_isPossible_131 (by decide) (fun c131 => ?_) (fun c131 => ?_)
                  · refine lv_iconst (v := (nI 0)) S.1 S.2.1 dX9_isPossible_147 (by decide) ?_
                    exact jn148 false (mo_148 hz hr1 hyl hy0 hr0 (by have hnl := nib_lt (fx i) d; have hel := ent_lt w d; (try rw [fx_m1 hnl] at c109); (try rw [fx_ev hnl hel] at c116); exact Or.inr ⟨rfl, by omega⟩)) ls (lv_sub hl [1, 2, 3, 5, 0, 6, 7] rfl)
                  · refine lv_iload S.1 S.2.1 dX9_isPossible_134 (lv_at hl 0 rfl) ?_
                    refine lv_aload_n S.1 S.2.1 dX9_isPossible_136 rfl (lv_at hl 1 rfl) ?_
                    refine g_get (C := RX9) (T := TX9) (N := 15) (v := .int (nI rn)) S 0 7 4 in_X9_isPossible_X9 hK hP rfl rfl (by decide) w_X9_isPossible_4 rfl dX9_isPossible_137 ?_
                    refine n_cgt S (tgt := 147) (by omega) dX9_isPossible_140 (by decide) (fun c140 => ?_) (fun c140 => ?_)
                    · refine lv_iconst (v := (nI 0)) S.1 S.2.1 dX9_isPossible_147 (by decide) ?_
                      exact jn148 false (mo_148 hz hr1 hyl hy0 hr0 (by have hnl := nib_lt (fx i) d; have hel := ent_lt w d; (try rw [fx_m1 hnl] at c109); (try rw [fx_ev hnl hel] at c116); exact Or.inr ⟨rfl, by omega⟩)) ls (lv_sub hl [1, 2, 3, 5, 0, 6, 7] rfl)
                    · refine lv_iconst (v := (nI 1)) S.1 S.2.1 dX9_isPossible_143 (by decide) ?_
                      refine lv_goto (tgt := 148) S.1 S.2.1 dX9_isPossible_144 (by decide) ?_
                      exact jn148 true (mo_148 hz hr1 hyl hy0 hr0 (by have hnl := nib_lt (fx i) d; have hel := ent_lt w d; (try rw [fx_m1 hnl] at c109); (try rw [fx_ev hnl hel] at c116); exact Or.inl ⟨rfl, by omega, by omega, c131, c140⟩)) ls (lv_sub hl [1, 2, 3, 5, 0, 6, 7] rfl)
                · refine lv_iload S.1 S.2.1 dX9_isPossible_112 (lv_at hl 8 rfl) ?_
                  refine lv_iload S.1 S.2.1 dX9_isPossible_114 (lv_at hl 7 rfl) ?_
                  refine lv_icmp_ne (tgt := 147) S.1 S.2.1 dX9_isPossible_116 (by decide) (fun c116 => ?_) (fun c116 => ?_)
                  · refine lv_iconst (v := (nI 0)) S.1 S.2.1 dX9_isPossible_147 (by decide) ?_
                    exact jn148 false (mo_148 hz hr1 hyl hy0 hr0 (by have hnl := nib_lt (fx i) d; have hel := ent_lt w d; (try rw [fx_m1 hnl] at c109); (try rw [fx_ev hnl hel] at c116); exact Or.inr ⟨rfl, by omega⟩)) ls (lv_sub hl [1, 2, 3, 5, 0, 6, 7] rfl)
                  · refine lv_aload_n S.1 S.2.1 dX9_isPossible_119 rfl (lv_at hl 1 rfl) ?_
                    refine g_get (C := RX9) (T := TX9) (N := 15) (v := .ref (q 4)) S 0 7 8 in_X9_isPossible_X9 hK hP rfl rfl (by decide) w_X9_isPossible_3 rfl dX9_isPossible_120 ?_
                    refine lv_iconst (v := (nI 4)) S.1 S.2.1 dX9_isPossible_123 (by decide) ?_
                    refine lv_iload S.1 S.2.1 dX9_isPossible_124 (lv_at hl 5 rfl) ?_
                    refine n_mul S dX9_isPossible_126 ?_
                    refine lv_iload S.1 S.2.1 dX9_isPossible_127 (lv_at hl 7 rfl) ?_
                    refine n_add S dX9_isPossible_129 ?_
                    refine g_iald S 4 hK hP rfl (⟨by have := ent_lt w d; omega, by decide⟩) dX9_isPossible_130 ?_
                    refine n_zne S (tgt := 147) (Nat.lt_trans (bit_lt _ _) (by decide)) dX9_isPossible_131 (by decide) (fun c131 => ?_) (fun c131 => ?_)
                    · refine lv_iconst (v := (nI 0)) S.1 S.2.1 dX9_isPossible_147 (by decide) ?_
                      exact jn148 false (mo_148 hz hr1 hyl hy0 hr0 (by have hnl := nib_lt (fx i) d; have hel := ent_lt w d; (try rw [fx_m1 hnl] at c109); (try rw [fx_ev hnl hel] at c116); exact Or.inr ⟨rfl, by omega⟩)) ls (lv_sub hl [1, 2, 3, 5, 0, 6, 7] rfl)
                    · refine lv_iload S.1 S.2.1 dX9_isPossible_134 (lv_at hl 0 rfl) ?_
                      refine lv_aload_n S.1 S.2.1 dX9_isPossible_136 rfl (lv_at hl 1 rfl) ?_
                      refine g_get (C := RX9) (T := TX9) (N := 15) (v := .int (nI rn)) S 0 7 4 in_X9_isPossible_X9 hK hP rfl rfl (by decide) w_X9_isPossible_4 rfl dX9_isPossible_137 ?_
                      refine n_cgt S (tgt := 147) (by omega) dX9_isPossible_140 (by decide) (fun c140 => ?_) (fun c140 => ?_)
                      · refine lv_iconst (v := (nI 0)) S.1 S.2.1 dX9_isPossible_147 (by decide) ?_
                        exact jn148 false (mo_148 hz hr1 hyl hy0 hr0 (by have hnl := nib_lt (fx i) d; have hel := ent_lt w d; (try rw [fx_m1 hnl] at c109); (try rw [fx_ev hnl hel] at c116); exact Or.inr ⟨rfl, by omega⟩)) ls (lv_sub hl [1, 2, 3, 5, 0, 6, 7] rfl)
                      · refine lv_iconst (v := (nI 1)) S.1 S.2.1 dX9_isPossible_143 (by decide) ?_
                        refine lv_goto (tgt := 148) S.1 S.2.1 dX9_isPossible_144 (by decide) ?_
                        exact jn148 true (mo_148 hz hr1 hyl hy0 hr0 (by have hnl := nib_lt (fx i) d; have hel := ent_lt w d; (try rw [fx_m1 hnl] at c109); (try rw [fx_ev hnl hel] at c116); exact Or.inl ⟨rfl, by omega, by omega, c131, c140⟩)) ls (lv_sub hl [1, 2, 3, 5, 0, 6, 7] rfl)
              · refine lv_aload_n S.1 S.2.1 dX9_isPossible_91 rfl (lv_at hl 1 rfl) ?_
                refine g_get (C := RX9) (T := TX9) (N := 15) (v := .ref (q 1)) S 0 7 5 in_X9_isPossible_X9 hK hP rfl rfl (by decide) w_X9_isPossible_5 rfl dX9_isPossible_92 ?_
                refine lv_iload_n S.1 S.2.1 dX9_isPossible_95 rfl (lv_at hl 2 rfl) ?_
                refine g_iald S 1 hK hP rfl (by omega) dX9_isPossible_96 ?_
                refine lv_iload S.1 S.2.1 dX9_isPossible_97 (lv_at hl 7 rfl) ?_
                refine n_shr S (⟨Nat.lt_trans (ent_lt _ _) (by decide), by omega⟩) dX9_isPossible_99 ?_
                refine lv_iconst (v := (nI 1)) S.1 S.2.1 dX9_isPossible_100 (by decide) ?_
                refine n_and S dX9_isPossible_101 ?_
                refine n_top (show (nI (((sk i) / 2 ^ (ent w d)) &&& 1)) = (nI (bit (sk i) (ent w d))) from congrArg nI (Nat.and_one_is_mod _)) ?_
                refine lv_iconst (v := (nI 1)) S.1 S.2.1 dX9_isPossible_102 (by decide) ?_
                refine n_cne S (tgt := 147) (⟨Nat.lt_trans (bit_lt _ _) (by decide), by decide⟩) dX9_isPossible_103 (by decide) (fun c103 => ?_) (fun c103 => ?_)
                · refine lv_iconst (v := (nI 0)) S.1 S.2.1 dX9_isPossible_147 (by decide) ?_
                  exact jn148 false (mo_148 hz hr1 hyl hy0 hr0 (by have hnl := nib_lt (fx i) d; have hel := ent_lt w d; (try rw [fx_m1 hnl] at c109); (try rw [fx_ev hnl hel] at c116); exact Or.inr ⟨rfl, by omega⟩)) ls (lv_sub hl [1, 2, 3, 5, 0, 6, 7] rfl)
                · refine lv_iload S.1 S.2.1 dX9_isPossible_106 (lv_at hl 8 rfl) ?_
                  refine lv_iconst (v := (-1)) S.1 S.2.1 dX9_isPossible_108 (by decide) ?_
                  refine lv_icmp_eq (tgt := 119) S.1 S.2.1 dX9_isPossible_109 (by decide) (fun c109 => ?_) (fun c109 => ?_)
                  · refine lv_aload_n S.1 S.2.1 dX9_isPossible_119 rfl (lv_at hl 1 rfl) ?_
                    refine g_get (C := RX9) (T := TX9) (N := 15) (v := .ref (q 4)) S 0 7 8 in_X9_isPossible_X9 hK hP rfl rfl (by decide) w_X9_isPossible_3 rfl dX9_isPossible_120 ?_
                    refine lv_iconst (v := (nI 4)) S.1 S.2.1 dX9_isPossible_123 (by decide) ?_
                    refine lv_iload S.1 S.2.1 dX9_isPossible_124 (lv_at hl 5 rfl) ?_
                    refine n_mul S dX9_isPossible_126 ?_
                    refine lv_iload S.1 S.2.1 dX9_isPossible_127 (lv_at hl 7 rfl) ?_
                    refine n_add S dX9_isPossible_129 ?_
                    refine g_iald S 4 hK hP rfl (⟨by have := ent_lt w d; omega, by decide⟩) dX9_isPossible_130 ?_
                    refine n_zne S (tgt := 147) (Nat.lt_trans (bit_lt _ _) (by decide)) dX9_isPossible_131 (by decide) (fun c131 => ?_) (fun c131 => ?_)
                    · refine lv_iconst (v := (nI 0)) S.1 S.2.1 dX9_isPossible_147 (by decide) ?_
                      exact jn148 false (mo_148 hz hr1 hyl hy0 hr0 (by have hnl := nib_lt (fx i) d; have hel := ent_lt w d; (try rw [fx_m1 hnl] at c109); (try rw [fx_ev hnl hel] at c116); exact Or.inr ⟨rfl, by omega⟩)) ls (lv_sub hl [1, 2, 3, 5, 0, 6, 7] rfl)
                    · refine lv_iload S.1 S.2.1 dX9_isPossible_134 (lv_at hl 0 rfl) ?_
                      refine lv_aload_n S.1 S.2.1 dX9_isPossible_136 rfl (lv_at hl 1 rfl) ?_
                      refine g_get (C := RX9) (T := TX9) (N := 15) (v := .int (nI rn)) S 0 7 4 in_X9_isPossible_X9 hK hP rfl rfl (by decide) w_X9_isPossible_4 rfl dX9_isPossible_137 ?_
                      refine n_cgt S (tgt := 147) (by omega) dX9_isPossible_140 (by decide) (fun c140 => ?_) (fun c140 => ?_)
                      · refine lv_iconst (v := (nI 0)) S.1 S.2.1 dX9_isPossible_147 (by decide) ?_
                        exact jn148 false (mo_148 hz hr1 hyl hy0 hr0 (by have hnl := nib_lt (fx i) d; have hel := ent_lt w d; (try rw [fx_m1 hnl] at c109); (try rw [fx_ev hnl hel] at c116); exact Or.inr ⟨rfl, by omega⟩)) ls (lv_sub hl [1, 2, 3, 5, 0, 6, 7] rfl)
                      · refine lv_iconst (v := (nI 1)) S.1 S.2.1 dX9_isPossible_143 (by decide) ?_
                        refine lv_goto (tgt := 148) S.1 S.2.1 dX9_isPossible_144 (by decide) ?_
                        exact jn148 true (mo_148 hz hr1 hyl hy0 hr0 (by have hnl := nib_lt (fx i) d; have hel := ent_lt w d; (try rw [fx_m1 hnl] at c109); (try rw [fx_ev hnl hel] at c116); exact Or.inl ⟨rfl, by omega, by omega, c131, c140⟩)) ls (lv_sub hl [1, 2, 3, 5, 0, 6, 7] rfl)
                  · refine lv_iload S.1 S.2.1 dX9_isPossible_112 (lv_at hl 8 rfl) ?_
                    refine lv_iload S.1 S.2.1 dX9_isPossible_114 (lv_at hl 7 rfl) ?_
                    refine lv_icmp_ne (tgt := 147) S.1 S.2.1 dX9_isPossible_116 (by decide) (fun c116 => ?_) (fun c116 => ?_)
                    · refine lv_iconst (v := (nI 0)) S.1 S.2.1 dX9_isPossible_147 (by decide) ?_
                      exact jn148 false (mo_148 hz hr1 hyl hy0 hr0 (by have hnl := nib_lt (fx i) d; have hel := ent_lt w d; (try rw [fx_m1 hnl] at c109); (try rw [fx_ev hnl hel] at c116); exact Or.inr ⟨rfl, by omega⟩)) ls (lv_sub hl [1, 2, 3, 5, 0, 6, 7] rfl)
                    · refine lv_aload_n S.1 S.2.1 dX9_isPossible_119 rfl (lv_at hl 1 rfl) ?_
                      refine g_get (C := RX9) (T := TX9) (N := 15) (v := .ref (q 4)) S 0 7 8 in_X9_isPossible_X9 hK hP rfl rfl (by decide) w_X9_isPossible_3 rfl dX9_isPossible_120 ?_
                      refine lv_iconst (v := (nI 4)) S.1 S.2.1 dX9_isPossible_123 (by decide) ?_
                      refine lv_iload S.1 S.2.1 dX9_isPossible_124 (lv_at hl 5 rfl) ?_
                      refine n_mul S dX9_isPossible_126 ?_
                      refine lv_iload S.1 S.2.1 dX9_isPossible_127 (lv_at hl 7 rfl) ?_
                      refine n_add S dX9_isPossible_129 ?_
                      refine g_iald S 4 hK hP rfl (⟨by have := ent_lt w d; omega, by decide⟩) dX9_isPossible_130 ?_
                      refine n_zne S (tgt := 147) (Nat.lt_trans (bit_lt _ _) (by decide)) dX9_isPossible_131 (by decide) (fun c131 => ?_) (fun c131 => ?_)
                      · refine lv_iconst (v := (nI 0)) S.1 S.2.1 dX9_isPossible_147 (by decide) ?_
                        exact jn148 false (mo_148 hz hr1 hyl hy0 hr0 (by have hnl := nib_lt (fx i) d; have hel := ent_lt w d; (try rw [fx_m1 hnl] at c109); (try rw [fx_ev hnl hel] at c116); exact Or.inr ⟨rfl, by omega⟩)) ls (lv_sub hl [1, 2, 3, 5, 0, 6, 7] rfl)
                      · refine lv_iload S.1 S.2.1 dX9_isPossible_134 (lv_at hl 0 rfl) ?_
                        refine lv_aload_n S.1 S.2.1 dX9_isPossible_136 rfl (lv_at hl 1 rfl) ?_
                        refine g_get (C := RX9) (T := TX9) (N := 15) (v := .int (nI rn)) S 0 7 4 in_X9_isPossible_X9 hK hP rfl rfl (by decide) w_X9_isPossible_4 rfl dX9_isPossible_137 ?_
                        refine n_cgt S (tgt := 147) (by omega) dX9_isPossible_140 (by decide) (fun c140 => ?_) (fun c140 => ?_)
                        · refine lv_iconst (v := (nI 0)) S.1 S.2.1 dX9_isPossible_147 (by decide) ?_
                          exact jn148 false (mo_148 hz hr1 hyl hy0 hr0 (by have hnl := nib_lt (fx i) d; have hel := ent_lt w d; (try rw [fx_m1 hnl] at c109); (try rw [fx_ev hnl hel] at c116); exact Or.inr ⟨rfl, by omega⟩)) ls (lv_sub hl [1, 2, 3, 5, 0, 6, 7] rfl)
                        · refine lv_iconst (v := (nI 1)) S.1 S.2.1 dX9_isPossible_143 (by decide) ?_
                          refine lv_goto (tgt := 148) S.1 S.2.1 dX9_isPossible_144 (by decide) ?_
                          exact jn148 true (mo_148 hz hr1 hyl hy0 hr0 (by have hnl := nib_lt (fx i) d; have hel := ent_lt w d; (try rw [fx_m1 hnl] at c109); (try rw [fx_ev hnl hel] at c116); exact Or.inl ⟨rfl, by omega, by omega, c131, c140⟩)) ls (lv_sub hl [1, 2, 3, 5, 0, 6, 7] rfl)
            refine lv_iload S.1 S.2.1 dX9_isPossible_71 (lv_at hl 1 rfl) ?_
            refine n_zle S (tgt := 83) (Nat.lt_trans (ent_lt _ _) (by decide)) dX9_isPossible_73 (by decide) (fun c73 => ?_) (fun c73 => ?_)
            · refine lv_iconst (v := (nI 0)) S.1 S.2.1 dX9_isPossible_83 (by decide) ?_
              exact jn84 0 (by first | (rw [hr0]; exact (if_neg (Nat.ne_of_gt c73)).symm) | exact (if_pos c73).symm) ls (lv_sub hl [2, 3, 4, 5, 6, 7, 8, 1, 0] rfl)
            · refine lv_iload S.1 S.2.1 dX9_isPossible_76 (lv_at hl 7 rfl) ?_
              refine lv_iconst (v := (nI 1)) S.1 S.2.1 dX9_isPossible_78 (by decide) ?_
              refine n_add S dX9_isPossible_79 ?_
              refine lv_goto (tgt := 84) S.1 S.2.1 dX9_isPossible_80 (by decide) ?_
              exact jn84 (r + 1) (by first | (rw [hr0]; exact (if_neg (Nat.ne_of_gt c73)).symm) | exact (if_pos c73).symm) ls (lv_sub hl [2, 3, 4, 5, 6, 7, 8, 1, 0] rfl)
    exact lp38 _ b (la i) (da i) 0 (Nat.zero_le _) (rfl) (rfl) (by rw [hb0]; exact (Bool.and_true _).symm) (Nat.lt_succ_self _) ls (lv_sub hl [4, 5, 6, 3, 2, 1, 0] rfl)
  refine lv_iload_n S.1 S.2.1 dX9_isPossible_0 rfl (lv_at hl 2 rfl) ?_
  refine rd_callS (rest := []) S (r_X9_countShifts l D cT w (by omega)) gX9_isPossible_X9_countShifts rfl pd_X9_countShifts ⟨rfl, rfl, Nat.le_of_ble_eq_true rfl, Nat.le_of_ble_eq_true rfl⟩ (sx_P0 D _) hK hl rfl rfl (Nat.le_of_ble_eq_true rfl) ⟨Nat.zero_le _, Nat.zero_le _⟩ dX9_isPossible_1 ?_
  refine lv_aload_n S.1 S.2.1 dX9_isPossible_4 rfl (lv_at hl 0 rfl) ?_
  refine g_get (C := RX9) (T := TX9) (N := 15) (v := .ref (q 2)) S 0 7 6 in_X9_isPossible_X9 hK hP rfl rfl (by decide) w_X9_isPossible_6 rfl dX9_isPossible_5 ?_
  refine lv_iload_n S.1 S.2.1 dX9_isPossible_8 rfl (lv_at hl 1 rfl) ?_
  refine g_iald S 2 hK hP rfl (by omega) dX9_isPossible_9 ?_
  refine n_cgt S (tgt := 17) (by omega) dX9_isPossible_10 (by decide) (fun c10 => ?_) (fun c10 => ?_)
  · refine lv_iconst (v := (nI 0)) S.1 S.2.1 dX9_isPossible_17 (by decide) ?_
    exact jn18 false (by first | exact (decide_eq_true c10).symm | exact (decide_eq_false (Nat.not_le.mpr c10)).symm) ls (lv_sub hl [0, 1, 2] rfl)
  · refine lv_iconst (v := (nI 1)) S.1 S.2.1 dX9_isPossible_13 (by decide) ?_
    refine lv_goto (tgt := 18) S.1 S.2.1 dX9_isPossible_14 (by decide) ?_
    exact jn18 true (by first | exact (decide_eq_true c10).symm | exact (decide_eq_false (Nat.not_le.mpr c10)).symm) ls (lv_sub hl [0, 1, 2] rfl)

