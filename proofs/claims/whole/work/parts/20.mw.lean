theorem pd_X9_fails : yX9_fails.cls = RX9 ∧ yX9_fails.cls ≠ "java/lang/invoke/MethodHandle" ∧ yX9_fails.cls ≠ "java/lang/invoke/VarHandle" ∧ (parseMethodDescriptor yX9_fails.desc).map (fun d => d.parameters.length) = some 1 := by decide +kernel
theorem w_X9_fails_0 : Cond.fieldLink RX9 44 "CoverSheetModel" "thrown" "I" ∈ wsX9_fails := by decide +kernel
theorem in_X9_fails_X9 : ∀ w ∈ u_ws RX9 TX9 15, w ∈ wsX9_fails := by decide +kernel
set_option maxHeartbeats 4000000 in
set_option maxRecDepth 100000 in
theorem w_X9_fails (l : Launch) (D : va_G) (cT : ClassId × ClassId × ClassId) (sz : Nat) (q : Nat → Nat) (bd th n ro cl fb rn : Nat) (nd sk mo wk fx wi la da we : Nat → Nat) (k : Nat) (hwf : wfC n bd fb rn nd sk mo wk fx wi la da we) (hz : ∀ b, b < 4 → bit fb (4 * b) = 0) : Met l yX9_fails wsX9_fails ({ frames := 0, cells := 0, slots := 0, locals := 0 } : Room) (va_Pc [.ref (q 0), .int (nI k)] (wr_R D (TY cT) (mX cT q th n ro cl fb rn nd sk mo wk fx wi la da we) sz)) (wQi (fun (r_ : Int32) (_ : Unit) => r_ = (nI 0)) D (fun (_ : Unit) => mX cT q k n ro cl fb rn nd sk mo wk fx wi la da we) (va_A (mX cT q th n ro cl fb rn nd sk mo wk fx wi la da we) sz)) 0 0 (va_A (mX cT q th n ro cl fb rn nd sk mo wk fx wi la da we) sz) := by
  refine wr_start (cc := cX9_fails) (maxL := 2) (ret := (some .int)) RX9 ⟨by decide +kernel, rfl⟩ rfl (Nat.le_of_ble_eq_true rfl) ?_
  intro p0 e0 s0 m0 a0 b0 t0 c0 S hr hlocks hin hP hK hA hD hS ls hl
  generalize va_A (mX cT q th n ro cl fb rn nd sk mo wk fx wi la da we) sz = A at hA hD hS ⊢
  have hl : lv_has ls 2 [(0, .ref (q 0)), (1, .int (nI k))] := hl
  obtain ⟨hn, hcl, hfb, hrn, hnd, hper⟩ := id hwf
  refine lv_aload_n S.1 S.2.1 dX9_fails_0 rfl (lv_at hl 0 rfl) ?_
  refine lv_iload_n S.1 S.2.1 dX9_fails_1 rfl (lv_at hl 1 rfl) ?_
  refine w_put (C := RX9) (T := TX9) (N := 15) (v := .int (nI k)) (ty := .int) S 0 7 0 in_X9_fails_X9 tyX9 tyX9_ok nmX9 hK hP hD hS rfl rfl (by decide) w_X9_fails_0 rfl (by decide +kernel) rfl rfl (Nat.le_of_ble_eq_true rfl) dX9_fails_2 (fun H locs hP hD hS => ?_)
  have hP : va_P D vwCl (mX cT q k n ro cl fb rn nd sk mo wk fx wi la da we) H := hP
  have hD : va_D A (mX cT q k n ro cl fb rn nd sk mo wk fx wi la da we) := hD
  refine lv_iconst (v := (nI 0)) S.1 S.2.1 dX9_fails_5 (by decide) ?_
  exact wr_iret S (()) hr rfl hlocks (rfl) (hP) (hD) hS dX9_fails_6

theorem pd_X9_isAsked : yX9_isAsked.cls = RX9 ∧ yX9_isAsked.cls ≠ "java/lang/invoke/MethodHandle" ∧ yX9_isAsked.cls ≠ "java/lang/invoke/VarHandle" ∧ (parseMethodDescriptor yX9_isAsked.desc).map (fun d => d.parameters.length) = some 1 := by decide +kernel
theorem w_X9_isAsked_0 : Cond.fieldLink RX9 44 "CoverSheetModel" "thrown" "I" ∈ wsX9_isAsked := by decide +kernel
theorem in_X9_isAsked_X9 : ∀ w ∈ u_ws RX9 TX9 15, w ∈ wsX9_isAsked := by decide +kernel
set_option maxHeartbeats 4000000 in
set_option maxRecDepth 100000 in
theorem w_X9_isAsked (l : Launch) (D : va_G) (cT : ClassId × ClassId × ClassId) (sz : Nat) (q : Nat → Nat) (bd th n ro cl fb rn : Nat) (nd sk mo wk fx wi la da we : Nat → Nat) (i : Nat) (hwf : wfC n bd fb rn nd sk mo wk fx wi la da we) (hz : ∀ b, b < 4 → bit fb (4 * b) = 0) (hi : i < n) : Met l yX9_isAsked wsX9_isAsked ({ frames := 2, cells := 0, slots := 0, locals := 43 } : Room) (va_Pc [.ref (q 0), .int (nI i)] (wr_R D (TY cT) (mX cT q th n ro cl fb rn nd sk mo wk fx wi la da we) sz)) (wQi (fun (r_ : Int32) (_ : Unit) => r_ = (nI true.toNat)) D (fun (_ : Unit) => mX cT q 0 n ro cl fb rn nd sk mo wk fx wi la da we) (va_A (mX cT q th n ro cl fb rn nd sk mo wk fx wi la da we) sz)) 0 0 (va_A (mX cT q th n ro cl fb rn nd sk mo wk fx wi la da we) sz) := by
  refine wr_start (cc := cX9_isAsked) (maxL := 2) (ret := (some .boolean)) RX9 ⟨by decide +kernel, rfl⟩ rfl (Nat.le_of_ble_eq_true rfl) ?_
  intro p0 e0 s0 m0 a0 b0 t0 c0 S hr hlocks hin hP hK hA hD hS ls hl
  generalize va_A (mX cT q th n ro cl fb rn nd sk mo wk fx wi la da we) sz = A at hA hD hS ⊢
  have hl : lv_has ls 2 [(0, .ref (q 0)), (1, .int (nI i))] := hl
  obtain ⟨hn, hcl, hfb, hrn, hnd, hper⟩ := id hwf
  refine lv_aload_n S.1 S.2.1 dX9_isAsked_0 rfl (lv_at hl 0 rfl) ?_
  refine lv_aload_n S.1 S.2.1 dX9_isAsked_1 rfl (lv_at hl 0 rfl) ?_
  refine lv_iload_n S.1 S.2.1 dX9_isAsked_2 rfl (lv_at hl 1 rfl) ?_
  refine rd_callV (rest := [.ref (q 0)]) S (r_X9_isPerson l D cT q bd th n ro cl fb rn nd sk mo wk fx wi la da we i (hwf) (hz) (by omega)) gX9_isAsked_X9_isPerson rfl pd_X9_isPerson ⟨rfl, rfl, Nat.le_of_ble_eq_true rfl, Nat.le_of_ble_eq_true rfl⟩ hP hK (va_recv hK.1 hP (ci := 7) (q0 := 0) rfl rfl) hl rfl rfl (Nat.le_of_ble_eq_true rfl) ⟨Nat.zero_le _, Nat.zero_le _⟩ dX9_isAsked_3 ?_
  refine n_beq S (tgt := 13) dX9_isAsked_6 (by decide) (fun q => absurd q (by decide)) (fun _ => ?_)
  refine lv_iconst (v := (nI 0)) S.1 S.2.1 dX9_isAsked_9 (by decide) ?_
  refine lv_goto (tgt := 14) S.1 S.2.1 dX9_isAsked_10 (by decide) ?_
  refine w_put (C := RX9) (T := TX9) (N := 15) (v := .int (nI 0)) (ty := .int) S 0 7 0 in_X9_isAsked_X9 tyX9 tyX9_ok nmX9 hK hP hD hS rfl rfl (by decide) w_X9_isAsked_0 rfl (by decide +kernel) rfl rfl (Nat.le_of_ble_eq_true rfl) dX9_isAsked_14 (fun H locs hP hD hS => ?_)
  have hP : va_P D vwCl (mX cT q 0 n ro cl fb rn nd sk mo wk fx wi la da we) H := hP
  have hD : va_D A (mX cT q 0 n ro cl fb rn nd sk mo wk fx wi la da we) := hD
  refine lv_aload_n S.1 S.2.1 dX9_isAsked_17 rfl (lv_at hl 0 rfl) ?_
  refine g_get (C := RX9) (T := TX9) (N := 15) (v := .int (nI 0)) S 0 7 0 in_X9_isAsked_X9 hK hP rfl rfl (by decide) w_X9_isAsked_0 rfl dX9_isAsked_18 ?_
  refine n_zne S (tgt := 28) (by decide) dX9_isAsked_21 (by decide) (fun q => absurd q (by decide)) (fun _ => ?_)
  refine lv_iconst (v := (nI 1)) S.1 S.2.1 dX9_isAsked_24 (by decide) ?_
  refine lv_goto (tgt := 29) S.1 S.2.1 dX9_isAsked_25 (by decide) ?_
  exact wr_iret S (()) hr (by decide) hlocks (rfl) (hP) (hD) hS dX9_isAsked_29

set_option maxHeartbeats 4000000 in
set_option maxRecDepth 100000 in
theorem w_X9_isAsked_x (l : Launch) (D : va_G) (cT : ClassId × ClassId × ClassId) (sz : Nat) (q : Nat → Nat) (bd th n ro cl fb rn : Nat) (nd sk mo wk fx wi la da we : Nat → Nat) (x : Int32) (hwf : wfC n bd fb rn nd sk mo wk fx wi la da we) (hz : ∀ b, b < 4 → bit fb (4 * b) = 0) (hx : PX x n) : Met l yX9_isAsked wsX9_isAsked ({ frames := 2, cells := 0, slots := 0, locals := 43 } : Room) (va_Pc [.ref (q 0), .int x] (wr_R D (TY cT) (mX cT q th n ro cl fb rn nd sk mo wk fx wi la da we) sz)) (wQi (fun (r_ : Int32) (_ : Unit) => r_ = (nI false.toNat)) D (fun (_ : Unit) => mX cT q 1 n ro cl fb rn nd sk mo wk fx wi la da we) (va_A (mX cT q th n ro cl fb rn nd sk mo wk fx wi la da we) sz)) 0 0 (va_A (mX cT q th n ro cl fb rn nd sk mo wk fx wi la da we) sz) := by
  refine wr_start (cc := cX9_isAsked) (maxL := 2) (ret := (some .boolean)) RX9 ⟨by decide +kernel, rfl⟩ rfl (Nat.le_of_ble_eq_true rfl) ?_
  intro p0 e0 s0 m0 a0 b0 t0 c0 S hr hlocks hin hP hK hA hD hS ls hl
  generalize va_A (mX cT q th n ro cl fb rn nd sk mo wk fx wi la da we) sz = A at hA hD hS ⊢
  have hl : lv_has ls 2 [(0, .ref (q 0)), (1, .int x)] := hl
  obtain ⟨hn, hcl, hfb, hrn, hnd, hper⟩ := id hwf
  refine lv_aload_n S.1 S.2.1 dX9_isAsked_0 rfl (lv_at hl 0 rfl) ?_
  refine lv_aload_n S.1 S.2.1 dX9_isAsked_1 rfl (lv_at hl 0 rfl) ?_
  refine lv_iload_n S.1 S.2.1 dX9_isAsked_2 rfl (lv_at hl 1 rfl) ?_
  refine rd_callV (rest := [.ref (q 0)]) S (r_X9_isPerson_x l D cT q bd th n ro cl fb rn nd sk mo wk fx wi la da we x (hwf) (hz) (hx)) gX9_isAsked_X9_isPerson rfl pd_X9_isPerson ⟨rfl, rfl, Nat.le_of_ble_eq_true rfl, Nat.le_of_ble_eq_true rfl⟩ hP hK (va_recv hK.1 hP (ci := 7) (q0 := 0) rfl rfl) hl rfl rfl (Nat.le_of_ble_eq_true rfl) ⟨Nat.zero_le _, Nat.zero_le _⟩ dX9_isAsked_3 ?_
  refine n_beq S (tgt := 13) dX9_isAsked_6 (by decide) (fun _ => ?_) (fun q => absurd q (by decide))
  refine lv_iconst (v := (nI 1)) S.1 S.2.1 dX9_isAsked_13 (by decide) ?_
  refine w_put (C := RX9) (T := TX9) (N := 15) (v := .int (nI 1)) (ty := .int) S 0 7 0 in_X9_isAsked_X9 tyX9 tyX9_ok nmX9 hK hP hD hS rfl rfl (by decide) w_X9_isAsked_0 rfl (by decide +kernel) rfl rfl (Nat.le_of_ble_eq_true rfl) dX9_isAsked_14 (fun H locs hP hD hS => ?_)
  have hP : va_P D vwCl (mX cT q 1 n ro cl fb rn nd sk mo wk fx wi la da we) H := hP
  have hD : va_D A (mX cT q 1 n ro cl fb rn nd sk mo wk fx wi la da we) := hD
  refine lv_aload_n S.1 S.2.1 dX9_isAsked_17 rfl (lv_at hl 0 rfl) ?_
  refine g_get (C := RX9) (T := TX9) (N := 15) (v := .int (nI 1)) S 0 7 0 in_X9_isAsked_X9 hK hP rfl rfl (by decide) w_X9_isAsked_0 rfl dX9_isAsked_18 ?_
  refine n_zne S (tgt := 28) (by decide) dX9_isAsked_21 (by decide) (fun _ => ?_) (fun q => absurd q (by decide))
  refine lv_iconst (v := (nI 0)) S.1 S.2.1 dX9_isAsked_28 (by decide) ?_
  exact wr_iret S (()) hr (by decide) hlocks (rfl) (hP) (hD) hS dX9_isAsked_29

theorem pd_X9_setNeed : yX9_setNeed.cls = RX9 ∧ yX9_setNeed.cls ≠ "java/lang/invoke/MethodHandle" ∧ yX9_setNeed.cls ≠ "java/lang/invoke/VarHandle" ∧ (parseMethodDescriptor yX9_setNeed.desc).map (fun d => d.parameters.length) = some 3 := by decide +kernel
theorem w_X9_setNeed_0 : Cond.fieldLink RX9 44 "CoverSheetModel" "thrown" "I" ∈ wsX9_setNeed := by decide +kernel
theorem in_X9_setNeed_X9 : ∀ w ∈ u_ws RX9 TX9 15, w ∈ wsX9_setNeed := by decide +kernel
set_option maxHeartbeats 4000000 in
set_option maxRecDepth 100000 in
theorem w_X9_setNeed_x0 (l : Launch) (D : va_G) (cT : ClassId × ClassId × ClassId) (sz : Nat) (q : Nat → Nat) (bd th n ro cl fb rn : Nat) (nd sk mo wk fx wi la da we : Nat → Nat) (x : Int32) (ze : Int32) (zv : Int32) (hwf : wfC n bd fb rn nd sk mo wk fx wi la da we) (hz : ∀ b, b < 4 → bit fb (4 * b) = 0) (hx : PX x 7) : Met l yX9_setNeed wsX9_setNeed ({ frames := 2, cells := 0, slots := 0, locals := 42 } : Room) (va_Pc [.ref (q 0), .int x, .int ze, .int zv] (wr_R D (TY cT) (mX cT q th n ro cl fb rn nd sk mo wk fx wi la da we) sz)) (wQi (fun (r_ : Int32) (_ : Unit) => r_ = (nI 0)) D (fun (_ : Unit) => mX cT q 1 n ro cl fb rn nd sk mo wk fx wi la da we) (va_A (mX cT q th n ro cl fb rn nd sk mo wk fx wi la da we) sz)) 0 0 (va_A (mX cT q th n ro cl fb rn nd sk mo wk fx wi la da we) sz) := by
  refine wr_start (cc := cX9_setNeed) (maxL := 5) (ret := (some .int)) RX9 ⟨by decide +kernel, rfl⟩ rfl (Nat.le_of_ble_eq_true rfl) ?_
  intro p0 e0 s0 m0 a0 b0 t0 c0 S hr hlocks hin hP hK hA hD hS ls hl
  generalize va_A (mX cT q th n ro cl fb rn nd sk mo wk fx wi la da we) sz = A at hA hD hS ⊢
  have hl : lv_has ls 5 [(0, .ref (q 0)), (1, .int x), (2, .int ze), (3, .int zv)] := hl
  obtain ⟨hn, hcl, hfb, hrn, hnd, hper⟩ := id hwf
  refine lv_aload_n S.1 S.2.1 dX9_setNeed_0 rfl (lv_at hl 0 rfl) ?_
  refine lv_iconst (v := (nI 0)) S.1 S.2.1 dX9_setNeed_1 (by decide) ?_
  refine w_put (C := RX9) (T := TX9) (N := 15) (v := .int (nI 0)) (ty := .int) S 0 7 0 in_X9_setNeed_X9 tyX9 tyX9_ok nmX9 hK hP hD hS rfl rfl (by decide) w_X9_setNeed_0 rfl (by decide +kernel) rfl rfl (Nat.le_of_ble_eq_true rfl) dX9_setNeed_2 (fun H locs hP hD hS => ?_)
  have hP : va_P D vwCl (mX cT q 0 n ro cl fb rn nd sk mo wk fx wi la da we) H := hP
  have hD : va_D A (mX cT q 0 n ro cl fb rn nd sk mo wk fx wi la da we) := hD
  refine lv_iload_n S.1 S.2.1 dX9_setNeed_5 rfl (lv_at hl 1 rfl) ?_
  refine rd_callS (rest := []) S (r_X9_isDay_x l D cT x (hx)) gX9_setNeed_X9_isDay rfl pd_X9_isDay ⟨rfl, rfl, Nat.le_of_ble_eq_true rfl, Nat.le_of_ble_eq_true rfl⟩ (sx_P0 D _) hK hl rfl rfl (Nat.le_of_ble_eq_true rfl) ⟨Nat.zero_le _, Nat.zero_le _⟩ dX9_setNeed_6 ?_
  refine n_beq S (tgt := 19) dX9_setNeed_9 (by decide) (fun _ => ?_) (fun q => absurd q (by decide))
  refine lv_aload_n S.1 S.2.1 dX9_setNeed_19 rfl (lv_at hl 0 rfl) ?_
  refine lv_iconst (v := (nI 1)) S.1 S.2.1 dX9_setNeed_20 (by decide) ?_
  refine wr_callVi (rest := []) S (w_X9_fails l D cT _ q bd 0 n ro cl fb rn nd sk mo wk fx wi la da we 1 (hwf) (hz)) gX9_setNeed_X9_fails rfl pd_X9_fails ⟨rfl, rfl, Nat.le_of_ble_eq_true rfl, Nat.le_of_ble_eq_true rfl⟩ hP hK hD hS hA (va_recv hK.1 hP (ci := 7) (q0 := 0) rfl rfl) hl rfl rfl (Nat.le_of_ble_eq_true rfl) ⟨Nat.zero_le _, Nat.zero_le _⟩ dX9_setNeed_21 (fun r_ u_ H locs hr_ hP hD hS => ?_)
  subst hr_
  have hP : va_P D vwCl (mX cT q 1 n ro cl fb rn nd sk mo wk fx wi la da we) H := hP
  have hD : va_D A (mX cT q 1 n ro cl fb rn nd sk mo wk fx wi la da we) := hD
  exact wr_iret S (()) hr rfl hlocks (rfl) (hP) (hD) hS dX9_setNeed_24

set_option maxHeartbeats 4000000 in
set_option maxRecDepth 100000 in
theorem w_X9_setNeed_x1 (l : Launch) (D : va_G) (cT : ClassId × ClassId × ClassId) (sz : Nat) (q : Nat → Nat) (bd th n ro cl fb rn : Nat) (nd sk mo wk fx wi la da we : Nat → Nat) (d : Nat) (x : Int32) (zv : Int32) (hwf : wfC n bd fb rn nd sk mo wk fx wi la da we) (hz : ∀ b, b < 4 → bit fb (4 * b) = 0) (hd : d < 7) (hx : x < nI 1 ∨ nI 3 < x) : Met l yX9_setNeed wsX9_setNeed ({ frames := 2, cells := 0, slots := 0, locals := 42 } : Room) (va_Pc [.ref (q 0), .int (nI d), .int x, .int zv] (wr_R D (TY cT) (mX cT q th n ro cl fb rn nd sk mo wk fx wi la da we) sz)) (wQi (fun (r_ : Int32) (_ : Unit) => r_ = (nI 0)) D (fun (_ : Unit) => mX cT q 1 n ro cl fb rn nd sk mo wk fx wi la da we) (va_A (mX cT q th n ro cl fb rn nd sk mo wk fx wi la da we) sz)) 0 0 (va_A (mX cT q th n ro cl fb rn nd sk mo wk fx wi la da we) sz) := by
  refine wr_start (cc := cX9_setNeed) (maxL := 5) (ret := (some .int)) RX9 ⟨by decide +kernel, rfl⟩ rfl (Nat.le_of_ble_eq_true rfl) ?_
  intro p0 e0 s0 m0 a0 b0 t0 c0 S hr hlocks hin hP hK hA hD hS ls hl
  generalize va_A (mX cT q th n ro cl fb rn nd sk mo wk fx wi la da we) sz = A at hA hD hS ⊢
  have hl : lv_has ls 5 [(0, .ref (q 0)), (1, .int (nI d)), (2, .int x), (3, .int zv)] := hl
  obtain ⟨hn, hcl, hfb, hrn, hnd, hper⟩ := id hwf
  refine lv_aload_n S.1 S.2.1 dX9_setNeed_0 rfl (lv_at hl 0 rfl) ?_
  refine lv_iconst (v := (nI 0)) S.1 S.2.1 dX9_setNeed_1 (by decide) ?_
  refine w_put (C := RX9) (T := TX9) (N := 15) (v := .int (nI 0)) (ty := .int) S 0 7 0 in_X9_setNeed_X9 tyX9 tyX9_ok nmX9 hK hP hD hS rfl rfl (by decide) w_X9_setNeed_0 rfl (by decide +kernel) rfl rfl (Nat.le_of_ble_eq_true rfl) dX9_setNeed_2 (fun H locs hP hD hS => ?_)
  have hP : va_P D vwCl (mX cT q 0 n ro cl fb rn nd sk mo wk fx wi la da we) H := hP
  have hD : va_D A (mX cT q 0 n ro cl fb rn nd sk mo wk fx wi la da we) := hD
  refine lv_iload_n S.1 S.2.1 dX9_setNeed_5 rfl (lv_at hl 1 rfl) ?_
  refine rd_callS (rest := []) S (r_X9_isDay l D cT d (by omega)) gX9_setNeed_X9_isDay rfl pd_X9_isDay ⟨rfl, rfl, Nat.le_of_ble_eq_true rfl, Nat.le_of_ble_eq_true rfl⟩ (sx_P0 D _) hK hl rfl rfl (Nat.le_of_ble_eq_true rfl) ⟨Nat.zero_le _, Nat.zero_le _⟩ dX9_setNeed_6 ?_
  refine n_beq S (tgt := 19) dX9_setNeed_9 (by decide) (fun q => absurd q (by decide)) (fun _ => ?_)
  refine lv_iload_n S.1 S.2.1 dX9_setNeed_12 rfl (lv_at hl 2 rfl) ?_
  refine rd_callS (rest := []) S (r_X9_isKind_x l D cT x (hx)) gX9_setNeed_X9_isKind rfl pd_X9_isKind ⟨rfl, rfl, Nat.le_of_ble_eq_true rfl, Nat.le_of_ble_eq_true rfl⟩ (sx_P0 D _) hK hl rfl rfl (Nat.le_of_ble_eq_true rfl) ⟨Nat.zero_le _, Nat.zero_le _⟩ dX9_setNeed_13 ?_
  refine n_bne S (tgt := 25) dX9_setNeed_16 (by decide) (fun q => absurd q (by decide)) (fun _ => ?_)
  refine lv_aload_n S.1 S.2.1 dX9_setNeed_19 rfl (lv_at hl 0 rfl) ?_
  refine lv_iconst (v := (nI 1)) S.1 S.2.1 dX9_setNeed_20 (by decide) ?_
  refine wr_callVi (rest := []) S (w_X9_fails l D cT _ q bd 0 n ro cl fb rn nd sk mo wk fx wi la da we 1 (hwf) (hz)) gX9_setNeed_X9_fails rfl pd_X9_fails ⟨rfl, rfl, Nat.le_of_ble_eq_true rfl, Nat.le_of_ble_eq_true rfl⟩ hP hK hD hS hA (va_recv hK.1 hP (ci := 7) (q0 := 0) rfl rfl) hl rfl rfl (Nat.le_of_ble_eq_true rfl) ⟨Nat.zero_le _, Nat.zero_le _⟩ dX9_setNeed_21 (fun r_ u_ H locs hr_ hP hD hS => ?_)
  subst hr_
  have hP : va_P D vwCl (mX cT q 1 n ro cl fb rn nd sk mo wk fx wi la da we) H := hP
  have hD : va_D A (mX cT q 1 n ro cl fb rn nd sk mo wk fx wi la da we) := hD
  exact wr_iret S (()) hr rfl hlocks (rfl) (hP) (hD) hS dX9_setNeed_24

set_option maxHeartbeats 4000000 in
set_option maxRecDepth 100000 in
theorem w_X9_setNeed_x2 (l : Launch) (D : va_G) (cT : ClassId × ClassId × ClassId) (sz : Nat) (q : Nat → Nat) (bd th n ro cl fb rn : Nat) (nd sk mo wk fx wi la da we : Nat → Nat) (d : Nat) (e : Nat) (x : Int32) (hwf : wfC n bd fb rn nd sk mo wk fx wi la da we) (hz : ∀ b, b < 4 → bit fb (4 * b) = 0) (hd : d < 7) (he : 1 ≤ e ∧ e < 4) (hx : x < nI 0 ∨ nI 5 < x) : Met l yX9_setNeed wsX9_setNeed ({ frames := 2, cells := 0, slots := 0, locals := 42 } : Room) (va_Pc [.ref (q 0), .int (nI d), .int (nI e), .int x] (wr_R D (TY cT) (mX cT q th n ro cl fb rn nd sk mo wk fx wi la da we) sz)) (wQi (fun (r_ : Int32) (_ : Unit) => r_ = (nI 0)) D (fun (_ : Unit) => mX cT q 2 n ro cl fb rn nd sk mo wk fx wi la da we) (va_A (mX cT q th n ro cl fb rn nd sk mo wk fx wi la da we) sz)) 0 0 (va_A (mX cT q th n ro cl fb rn nd sk mo wk fx wi la da we) sz) := by
  refine wr_start (cc := cX9_setNeed) (maxL := 5) (ret := (some .int)) RX9 ⟨by decide +kernel, rfl⟩ rfl (Nat.le_of_ble_eq_true rfl) ?_
  intro p0 e0 s0 m0 a0 b0 t0 c0 S hr hlocks hin hP hK hA hD hS ls hl
  generalize va_A (mX cT q th n ro cl fb rn nd sk mo wk fx wi la da we) sz = A at hA hD hS ⊢
  have hl : lv_has ls 5 [(0, .ref (q 0)), (1, .int (nI d)), (2, .int (nI e)), (3, .int x)] := hl
  obtain ⟨hn, hcl, hfb, hrn, hnd, hper⟩ := id hwf
  refine lv_aload_n S.1 S.2.1 dX9_setNeed_0 rfl (lv_at hl 0 rfl) ?_
  refine lv_iconst (v := (nI 0)) S.1 S.2.1 dX9_setNeed_1 (by decide) ?_
  refine w_put (C := RX9) (T := TX9) (N := 15) (v := .int (nI 0)) (ty := .int) S 0 7 0 in_X9_setNeed_X9 tyX9 tyX9_ok nmX9 hK hP hD hS rfl rfl (by decide) w_X9_setNeed_0 rfl (by decide +kernel) rfl rfl (Nat.le_of_ble_eq_true rfl) dX9_setNeed_2 (fun H locs hP hD hS => ?_)
  have hP : va_P D vwCl (mX cT q 0 n ro cl fb rn nd sk mo wk fx wi la da we) H := hP
  have hD : va_D A (mX cT q 0 n ro cl fb rn nd sk mo wk fx wi la da we) := hD
  refine lv_iload_n S.1 S.2.1 dX9_setNeed_5 rfl (lv_at hl 1 rfl) ?_
  refine rd_callS (rest := []) S (r_X9_isDay l D cT d (by omega)) gX9_setNeed_X9_isDay rfl pd_X9_isDay ⟨rfl, rfl, Nat.le_of_ble_eq_true rfl, Nat.le_of_ble_eq_true rfl⟩ (sx_P0 D _) hK hl rfl rfl (Nat.le_of_ble_eq_true rfl) ⟨Nat.zero_le _, Nat.zero_le _⟩ dX9_setNeed_6 ?_
  refine n_beq S (tgt := 19) dX9_setNeed_9 (by decide) (fun q => absurd q (by decide)) (fun _ => ?_)
  refine lv_iload_n S.1 S.2.1 dX9_setNeed_12 rfl (lv_at hl 2 rfl) ?_
  refine rd_callS (rest := []) S (r_X9_isKind l D cT e (by omega)) gX9_setNeed_X9_isKind rfl pd_X9_isKind ⟨rfl, rfl, Nat.le_of_ble_eq_true rfl, Nat.le_of_ble_eq_true rfl⟩ (sx_P0 D _) hK hl rfl rfl (Nat.le_of_ble_eq_true rfl) ⟨Nat.zero_le _, Nat.zero_le _⟩ dX9_setNeed_13 ?_
  refine n_bne S (tgt := 25) dX9_setNeed_16 (by decide) (fun _ => ?_) (fun q => absurd q (by decide))
  refine lv_iload_n S.1 S.2.1 dX9_setNeed_25 rfl (lv_at hl 3 rfl) ?_
  refine lv_iconst (v := (nI 0)) S.1 S.2.1 dX9_setNeed_26 (by decide) ?_
  refine lv_iconst (v := (nI 5)) S.1 S.2.1 dX9_setNeed_27 (by decide) ?_
  refine rd_callS (rest := []) S (r_X9_in l D cT x (nI 0) (nI 5) ) gX9_setNeed_X9_in rfl pd_X9_in ⟨rfl, rfl, Nat.le_of_ble_eq_true rfl, Nat.le_of_ble_eq_true rfl⟩ (sx_P0 D _) hK hl rfl rfl (Nat.le_of_ble_eq_true rfl) ⟨Nat.zero_le _, Nat.zero_le _⟩ dX9_setNeed_28 ?_
  refine n_top (show (nI (inb x (nI 0) (nI 5)).toNat) = (nI false.toNat) from by rw [inb_f hx]) ?_
  refine n_bne S (tgt := 40) dX9_setNeed_31 (by decide) (fun q => absurd q (by decide)) (fun _ => ?_)
  refine lv_aload_n S.1 S.2.1 dX9_setNeed_34 rfl (lv_at hl 0 rfl) ?_
  refine lv_iconst (v := (nI 2)) S.1 S.2.1 dX9_setNeed_35 (by decide) ?_
  refine wr_callVi (rest := []) S (w_X9_fails l D cT _ q bd 0 n ro cl fb rn nd sk mo wk fx wi la da we 2 (hwf) (hz)) gX9_setNeed_X9_fails rfl pd_X9_fails ⟨rfl, rfl, Nat.le_of_ble_eq_true rfl, Nat.le_of_ble_eq_true rfl⟩ hP hK hD hS hA (va_recv hK.1 hP (ci := 7) (q0 := 0) rfl rfl) hl rfl rfl (Nat.le_of_ble_eq_true rfl) ⟨Nat.zero_le _, Nat.zero_le _⟩ dX9_setNeed_36 (fun r_ u_ H locs hr_ hP hD hS => ?_)
  subst hr_
  have hP : va_P D vwCl (mX cT q 2 n ro cl fb rn nd sk mo wk fx wi la da we) H := hP
  have hD : va_D A (mX cT q 2 n ro cl fb rn nd sk mo wk fx wi la da we) := hD
  exact wr_iret S (()) hr rfl hlocks (rfl) (hP) (hD) hS dX9_setNeed_39

theorem w_X9_setNeed_1 : Cond.fieldLink RX9 20 "CoverSheetModel" "need" "[I" ∈ wsX9_setNeed := by decide +kernel
set_option maxHeartbeats 4000000 in
set_option maxRecDepth 100000 in
theorem w_X9_setNeed (l : Launch) (D : va_G) (cT : ClassId × ClassId × ClassId) (sz : Nat) (q : Nat → Nat) (bd th n ro cl fb rn : Nat) (nd sk mo wk fx wi la da we : Nat → Nat) (d : Nat) (e : Nat) (v : Nat) (hwf : wfC n bd fb rn nd sk mo wk fx wi la da we) (hz : ∀ b, b < 4 → bit fb (4 * b) = 0) (hd : d < 7) (he : 1 ≤ e ∧ e < 4) (hv : v < 6) : Met l yX9_setNeed wsX9_setNeed ({ frames := 2, cells := 0, slots := 0, locals := 42 } : Room) (va_Pc [.ref (q 0), .int (nI d), .int (nI e), .int (nI v)] (wr_R D (TY cT) (mX cT q th n ro cl fb rn nd sk mo wk fx wi la da we) sz)) (wQi (fun (r_ : Int32) (_ : Unit) => r_ = (nI (nd (4 * d + e)))) D (fun (_ : Unit) => mX cT q 0 n ro cl fb rn (va_up nd (4 * d + e) v) sk mo wk fx wi la da we) (va_A (mX cT q th n ro cl fb rn nd sk mo wk fx wi la da we) sz)) 0 0 (va_A (mX cT q th n ro cl fb rn nd sk mo wk fx wi la da we) sz) := by
  refine wr_start (cc := cX9_setNeed) (maxL := 5) (ret := (some .int)) RX9 ⟨by decide +kernel, rfl⟩ rfl (Nat.le_of_ble_eq_true rfl) ?_
  intro p0 e0 s0 m0 a0 b0 t0 c0 S hr hlocks hin hP hK hA hD hS ls hl
  generalize va_A (mX cT q th n ro cl fb rn nd sk mo wk fx wi la da we) sz = A at hA hD hS ⊢
  have hl : lv_has ls 5 [(0, .ref (q 0)), (1, .int (nI d)), (2, .int (nI e)), (3, .int (nI v))] := hl
  obtain ⟨hn, hcl, hfb, hrn, hnd, hper⟩ := id hwf
  refine lv_aload_n S.1 S.2.1 dX9_setNeed_0 rfl (lv_at hl 0 rfl) ?_
  refine lv_iconst (v := (nI 0)) S.1 S.2.1 dX9_setNeed_1 (by decide) ?_
  refine w_put (C := RX9) (T := TX9) (N := 15) (v := .int (nI 0)) (ty := .int) S 0 7 0 in_X9_setNeed_X9 tyX9 tyX9_ok nmX9 hK hP hD hS rfl rfl (by decide) w_X9_setNeed_0 rfl (by decide +kernel) rfl rfl (Nat.le_of_ble_eq_true rfl) dX9_setNeed_2 (fun H locs hP hD hS => ?_)
  have hP : va_P D vwCl (mX cT q 0 n ro cl fb rn nd sk mo wk fx wi la da we) H := hP
  have hD : va_D A (mX cT q 0 n ro cl fb rn nd sk mo wk fx wi la da we) := hD
  refine lv_iload_n S.1 S.2.1 dX9_setNeed_5 rfl (lv_at hl 1 rfl) ?_
  refine rd_callS (rest := []) S (r_X9_isDay l D cT d (by omega)) gX9_setNeed_X9_isDay rfl pd_X9_isDay ⟨rfl, rfl, Nat.le_of_ble_eq_true rfl, Nat.le_of_ble_eq_true rfl⟩ (sx_P0 D _) hK hl rfl rfl (Nat.le_of_ble_eq_true rfl) ⟨Nat.zero_le _, Nat.zero_le _⟩ dX9_setNeed_6 ?_
  refine n_beq S (tgt := 19) dX9_setNeed_9 (by decide) (fun q => absurd q (by decide)) (fun _ => ?_)
  refine lv_iload_n S.1 S.2.1 dX9_setNeed_12 rfl (lv_at hl 2 rfl) ?_
  refine rd_callS (rest := []) S (r_X9_isKind l D cT e (by omega)) gX9_setNeed_X9_isKind rfl pd_X9_isKind ⟨rfl, rfl, Nat.le_of_ble_eq_true rfl, Nat.le_of_ble_eq_true rfl⟩ (sx_P0 D _) hK hl rfl rfl (Nat.le_of_ble_eq_true rfl) ⟨Nat.zero_le _, Nat.zero_le _⟩ dX9_setNeed_13 ?_
  refine n_bne S (tgt := 25) dX9_setNeed_16 (by decide) (fun _ => ?_) (fun q => absurd q (by decide))
  refine lv_iload_n S.1 S.2.1 dX9_setNeed_25 rfl (lv_at hl 3 rfl) ?_
  refine lv_iconst (v := (nI 0)) S.1 S.2.1 dX9_setNeed_26 (by decide) ?_
  refine lv_iconst (v := (nI 5)) S.1 S.2.1 dX9_setNeed_27 (by decide) ?_
  refine rd_callS (rest := []) S (r_X9_in l D cT (nI v) (nI 0) (nI 5) ) gX9_setNeed_X9_in rfl pd_X9_in ⟨rfl, rfl, Nat.le_of_ble_eq_true rfl, Nat.le_of_ble_eq_true rfl⟩ (sx_P0 D _) hK hl rfl rfl (Nat.le_of_ble_eq_true rfl) ⟨Nat.zero_le _, Nat.zero_le _⟩ dX9_setNeed_28 ?_
  refine n_top (show (nI (inb (nI v) (nI 0) (nI 5)).toNat) = (nI true.toNat) from by rw [inb_t ⟨Nat.zero_le _, by omega, by decide⟩]) ?_
  refine n_bne S (tgt := 40) dX9_setNeed_31 (by decide) (fun _ => ?_) (fun q => absurd q (by decide))
  refine lv_aload_n S.1 S.2.1 dX9_setNeed_40 rfl (lv_at hl 0 rfl) ?_
  refine g_get (C := RX9) (T := TX9) (N := 15) (v := .ref (q 3)) S 0 7 7 in_X9_setNeed_X9 hK hP rfl rfl (by decide) w_X9_setNeed_1 rfl dX9_setNeed_41 ?_
  refine lv_iconst (v := (nI 4)) S.1 S.2.1 dX9_setNeed_44 (by decide) ?_
  refine lv_iload_n S.1 S.2.1 dX9_setNeed_45 rfl (lv_at hl 1 rfl) ?_
  refine n_mul S dX9_setNeed_46 ?_
  refine lv_iload_n S.1 S.2.1 dX9_setNeed_47 rfl (lv_at hl 2 rfl) ?_
  refine n_add S dX9_setNeed_48 ?_
  refine g_iald S 3 hK hP rfl (by omega) dX9_setNeed_49 ?_
  refine lv_istore (lv' := [(4, .int (nI (nd ((4 * d) + e)))), (0, .ref (q 0)), (1, .int (nI d)), (2, .int (nI e)), (3, .int (nI v))]) S.1 S.2.1 dX9_setNeed_50 hl (by decide) rfl (fun ls hl => ?_)
  refine lv_aload_n S.1 S.2.1 dX9_setNeed_52 rfl (lv_at hl 1 rfl) ?_
  refine g_get (C := RX9) (T := TX9) (N := 15) (v := .ref (q 3)) S 0 7 7 in_X9_setNeed_X9 hK hP rfl rfl (by decide) w_X9_setNeed_1 rfl dX9_setNeed_53 ?_
  refine lv_iconst (v := (nI 4)) S.1 S.2.1 dX9_setNeed_56 (by decide) ?_
  refine lv_iload_n S.1 S.2.1 dX9_setNeed_57 rfl (lv_at hl 2 rfl) ?_
  refine n_mul S dX9_setNeed_58 ?_
  refine lv_iload_n S.1 S.2.1 dX9_setNeed_59 rfl (lv_at hl 3 rfl) ?_
  refine n_add S dX9_setNeed_60 ?_
  refine lv_iload_n S.1 S.2.1 dX9_setNeed_61 rfl (lv_at hl 4 rfl) ?_
  refine w_iast S 3 hK hP hD hS rfl (by omega) dX9_setNeed_62 (fun H locs hP hD hS => ?_)
  have hP : va_P D vwCl (mX cT q 0 n ro cl fb rn (va_up nd ((4 * d) + e) v) sk mo wk fx wi la da we) H := hP
  have hD : va_D A (mX cT q 0 n ro cl fb rn (va_up nd ((4 * d) + e) v) sk mo wk fx wi la da we) := hD
  refine lv_iload S.1 S.2.1 dX9_setNeed_63 (lv_at hl 0 rfl) ?_
  exact wr_iret S (()) hr rfl hlocks (rfl) (hP) (hD) hS dX9_setNeed_65

theorem pd_X9_forbid : yX9_forbid.cls = RX9 ∧ yX9_forbid.cls ≠ "java/lang/invoke/MethodHandle" ∧ yX9_forbid.cls ≠ "java/lang/invoke/VarHandle" ∧ (parseMethodDescriptor yX9_forbid.desc).map (fun d => d.parameters.length) = some 3 := by decide +kernel
theorem w_X9_forbid_0 : Cond.fieldLink RX9 44 "CoverSheetModel" "thrown" "I" ∈ wsX9_forbid := by decide +kernel
theorem in_X9_forbid_X9 : ∀ w ∈ u_ws RX9 TX9 15, w ∈ wsX9_forbid := by decide +kernel
set_option maxHeartbeats 4000000 in
set_option maxRecDepth 100000 in
theorem w_X9_forbid_x0 (l : Launch) (D : va_G) (cT : ClassId × ClassId × ClassId) (sz : Nat) (q : Nat → Nat) (bd th n ro cl fb rn : Nat) (nd sk mo wk fx wi la da we : Nat → Nat) (x : Int32) (zf : Int32) (b : Bool) (hwf : wfC n bd fb rn nd sk mo wk fx wi la da we) (hz : ∀ b, b < 4 → bit fb (4 * b) = 0) (hx : x < nI 1 ∨ nI 3 < x) : Met l yX9_forbid wsX9_forbid ({ frames := 2, cells := 0, slots := 0, locals := 42 } : Room) (va_Pc [.ref (q 0), .int x, .int zf, .int (nI b.toNat)] (wr_R D (TY cT) (mX cT q th n ro cl fb rn nd sk mo wk fx wi la da we) sz)) (wQi (fun (r_ : Int32) (_ : Unit) => r_ = (nI false.toNat)) D (fun (_ : Unit) => mX cT q 1 n ro cl fb rn nd sk mo wk fx wi la da we) (va_A (mX cT q th n ro cl fb rn nd sk mo wk fx wi la da we) sz)) 0 0 (va_A (mX cT q th n ro cl fb rn nd sk mo wk fx wi la da we) sz) := by
  refine wr_start (cc := cX9_forbid) (maxL := 6) (ret := (some .boolean)) RX9 ⟨by decide +kernel, rfl⟩ rfl (Nat.le_of_ble_eq_true rfl) ?_
  intro p0 e0 s0 m0 a0 b0 t0 c0 S hr hlocks hin hP hK hA hD hS ls hl
  generalize va_A (mX cT q th n ro cl fb rn nd sk mo wk fx wi la da we) sz = A at hA hD hS ⊢
  have hl : lv_has ls 6 [(0, .ref (q 0)), (1, .int x), (2, .int zf), (3, .int (nI b.toNat))] := hl
  obtain ⟨hn, hcl, hfb, hrn, hnd, hper⟩ := id hwf
  refine lv_aload_n S.1 S.2.1 dX9_forbid_0 rfl (lv_at hl 0 rfl) ?_
  refine lv_iload_n S.1 S.2.1 dX9_forbid_1 rfl (lv_at hl 1 rfl) ?_
  refine rd_callS (rest := [.ref (q 0)]) S (r_X9_isKind_x l D cT x (hx)) gX9_forbid_X9_isKind rfl pd_X9_isKind ⟨rfl, rfl, Nat.le_of_ble_eq_true rfl, Nat.le_of_ble_eq_true rfl⟩ (sx_P0 D _) hK hl rfl rfl (Nat.le_of_ble_eq_true rfl) ⟨Nat.zero_le _, Nat.zero_le _⟩ dX9_forbid_2 ?_
  refine n_beq S (tgt := 19) dX9_forbid_5 (by decide) (fun _ => ?_) (fun q => absurd q (by decide))
  refine lv_iconst (v := (nI 1)) S.1 S.2.1 dX9_forbid_19 (by decide) ?_
  refine w_put (C := RX9) (T := TX9) (N := 15) (v := .int (nI 1)) (ty := .int) S 0 7 0 in_X9_forbid_X9 tyX9 tyX9_ok nmX9 hK hP hD hS rfl rfl (by decide) w_X9_forbid_0 rfl (by decide +kernel) rfl rfl (Nat.le_of_ble_eq_true rfl) dX9_forbid_20 (fun H locs hP hD hS => ?_)
  have hP : va_P D vwCl (mX cT q 1 n ro cl fb rn nd sk mo wk fx wi la da we) H := hP
  have hD : va_D A (mX cT q 1 n ro cl fb rn nd sk mo wk fx wi la da we) := hD
  refine lv_iload_n S.1 S.2.1 dX9_forbid_23 rfl (lv_at hl 3 rfl) ?_
  refine n_beq S (tgt := 31) dX9_forbid_24 (by decide) (fun c24 => ?_) (fun c24 => ?_)
  · refine lv_iconst (v := (nI 0)) S.1 S.2.1 dX9_forbid_31 (by decide) ?_
    refine lv_istore (lv' := [(4, .int (nI 0)), (0, .ref (q 0)), (1, .int x), (2, .int zf), (3, .int (nI b.toNat))]) S.1 S.2.1 dX9_forbid_32 hl (by decide) rfl (fun ls hl => ?_)
    refine lv_aload_n S.1 S.2.1 dX9_forbid_34 rfl (lv_at hl 1 rfl) ?_
    refine g_get (C := RX9) (T := TX9) (N := 15) (v := .int (nI 1)) S 0 7 0 in_X9_forbid_X9 hK hP rfl rfl (by decide) w_X9_forbid_0 rfl dX9_forbid_35 ?_
    refine n_zne S (tgt := 60) (by decide) dX9_forbid_38 (by decide) (fun _ => ?_) (fun q => absurd q (by decide))
    refine lv_iconst (v := (nI 0)) S.1 S.2.1 dX9_forbid_60 (by decide) ?_
    refine lv_istore (lv' := [(5, .int (nI 0)), (4, .int (nI 0)), (0, .ref (q 0)), (1, .int x), (2, .int zf), (3, .int (nI b.toNat))]) S.1 S.2.1 dX9_forbid_61 hl (by decide) rfl (fun ls hl => ?_)
    refine lv_iload S.1 S.2.1 dX9_forbid_63 (lv_at hl 0 rfl) ?_
    refine n_zeq S (tgt := 80) (by decide) dX9_forbid_65 (by decide) (fun _ => ?_) (fun q => absurd q (by decide))
    refine lv_iload S.1 S.2.1 dX9_forbid_80 (lv_at hl 0 rfl) ?_
    exact wr_iret S (()) hr (by decide) hlocks (rfl) (hP) (hD) hS dX9_forbid_82
  · refine lv_iconst (v := (nI 1)) S.1 S.2.1 dX9_forbid_27 (by decide) ?_
    refine lv_goto (tgt := 32) S.1 S.2.1 dX9_forbid_28 (by decide) ?_
    refine lv_istore (lv' := [(4, .int (nI 1)), (0, .ref (q 0)), (1, .int x), (2, .int zf), (3, .int (nI b.toNat))]) S.1 S.2.1 dX9_forbid_32 hl (by decide) rfl (fun ls hl => ?_)
    refine lv_aload_n S.1 S.2.1 dX9_forbid_34 rfl (lv_at hl 1 rfl) ?_
    refine g_get (C := RX9) (T := TX9) (N := 15) (v := .int (nI 1)) S 0 7 0 in_X9_forbid_X9 hK hP rfl rfl (by decide) w_X9_forbid_0 rfl dX9_forbid_35 ?_
    refine n_zne S (tgt := 60) (by decide) dX9_forbid_38 (by decide) (fun _ => ?_) (fun q => absurd q (by decide))
    refine lv_iconst (v := (nI 0)) S.1 S.2.1 dX9_forbid_60 (by decide) ?_
    refine lv_istore (lv' := [(5, .int (nI 0)), (4, .int (nI 1)), (0, .ref (q 0)), (1, .int x), (2, .int zf), (3, .int (nI b.toNat))]) S.1 S.2.1 dX9_forbid_61 hl (by decide) rfl (fun ls hl => ?_)
    refine lv_iload S.1 S.2.1 dX9_forbid_63 (lv_at hl 0 rfl) ?_
    refine n_zeq S (tgt := 80) (by decide) dX9_forbid_65 (by decide) (fun _ => ?_) (fun q => absurd q (by decide))
    refine lv_iload S.1 S.2.1 dX9_forbid_80 (lv_at hl 0 rfl) ?_
    exact wr_iret S (()) hr (by decide) hlocks (rfl) (hP) (hD) hS dX9_forbid_82

set_option maxHeartbeats 4000000 in
set_option maxRecDepth 100000 in
theorem w_X9_forbid_x1 (l : Launch) (D : va_G) (cT : ClassId × ClassId × ClassId) (sz : Nat) (q : Nat → Nat) (bd th n ro cl fb rn : Nat) (nd sk mo wk fx wi la da we : Nat → Nat) (e : Nat) (x : Int32) (b : Bool) (hwf : wfC n bd fb rn nd sk mo wk fx wi la da we) (hz : ∀ b, b < 4 → bit fb (4 * b) = 0) (he : 1 ≤ e ∧ e < 4) (hx : x < nI 1 ∨ nI 3 < x) : Met l yX9_forbid wsX9_forbid ({ frames := 2, cells := 0, slots := 0, locals := 42 } : Room) (va_Pc [.ref (q 0), .int (nI e), .int x, .int (nI b.toNat)] (wr_R D (TY cT) (mX cT q th n ro cl fb rn nd sk mo wk fx wi la da we) sz)) (wQi (fun (r_ : Int32) (_ : Unit) => r_ = (nI false.toNat)) D (fun (_ : Unit) => mX cT q 1 n ro cl fb rn nd sk mo wk fx wi la da we) (va_A (mX cT q th n ro cl fb rn nd sk mo wk fx wi la da we) sz)) 0 0 (va_A (mX cT q th n ro cl fb rn nd sk mo wk fx wi la da we) sz) := by
  refine wr_start (cc := cX9_forbid) (maxL := 6) (ret := (some .boolean)) RX9 ⟨by decide +kernel, rfl⟩ rfl (Nat.le_of_ble_eq_true rfl) ?_
  intro p0 e0 s0 m0 a0 b0 t0 c0 S hr hlocks hin hP hK hA hD hS ls hl
  generalize va_A (mX cT q th n ro cl fb rn nd sk mo wk fx wi la da we) sz = A at hA hD hS ⊢
  have hl : lv_has ls 6 [(0, .ref (q 0)), (1, .int (nI e)), (2, .int x), (3, .int (nI b.toNat))] := hl
  obtain ⟨hn, hcl, hfb, hrn, hnd, hper⟩ := id hwf
  refine lv_aload_n S.1 S.2.1 dX9_forbid_0 rfl (lv_at hl 0 rfl) ?_
  refine lv_iload_n S.1 S.2.1 dX9_forbid_1 rfl (lv_at hl 1 rfl) ?_
  refine rd_callS (rest := [.ref (q 0)]) S (r_X9_isKind l D cT e (by omega)) gX9_forbid_X9_isKind rfl pd_X9_isKind ⟨rfl, rfl, Nat.le_of_ble_eq_true rfl, Nat.le_of_ble_eq_true rfl⟩ (sx_P0 D _) hK hl rfl rfl (Nat.le_of_ble_eq_true rfl) ⟨Nat.zero_le _, Nat.zero_le _⟩ dX9_forbid_2 ?_
  refine n_beq S (tgt := 19) dX9_forbid_5 (by decide) (fun q => absurd q (by decide)) (fun _ => ?_)
  refine lv_iload_n S.1 S.2.1 dX9_forbid_8 rfl (lv_at hl 2 rfl) ?_
  refine rd_callS (rest := [.ref (q 0)]) S (r_X9_isKind_x l D cT x (hx)) gX9_forbid_X9_isKind rfl pd_X9_isKind ⟨rfl, rfl, Nat.le_of_ble_eq_true rfl, Nat.le_of_ble_eq_true rfl⟩ (sx_P0 D _) hK hl rfl rfl (Nat.le_of_ble_eq_true rfl) ⟨Nat.zero_le _, Nat.zero_le _⟩ dX9_forbid_9 ?_
  refine n_beq S (tgt := 19) dX9_forbid_12 (by decide) (fun _ => ?_) (fun q => absurd q (by decide))
  refine lv_iconst (v := (nI 1)) S.1 S.2.1 dX9_forbid_19 (by decide) ?_
  refine w_put (C := RX9) (T := TX9) (N := 15) (v := .int (nI 1)) (ty := .int) S 0 7 0 in_X9_forbid_X9 tyX9 tyX9_ok nmX9 hK hP hD hS rfl rfl (by decide) w_X9_forbid_0 rfl (by decide +kernel) rfl rfl (Nat.le_of_ble_eq_true rfl) dX9_forbid_20 (fun H locs hP hD hS => ?_)
  have hP : va_P D vwCl (mX cT q 1 n ro cl fb rn nd sk mo wk fx wi la da we) H := hP
  have hD : va_D A (mX cT q 1 n ro cl fb rn nd sk mo wk fx wi la da we) := hD
  refine lv_iload_n S.1 S.2.1 dX9_forbid_23 rfl (lv_at hl 3 rfl) ?_
  refine n_beq S (tgt := 31) dX9_forbid_24 (by decide) (fun c24 => ?_) (fun c24 => ?_)
  · refine lv_iconst (v := (nI 0)) S.1 S.2.1 dX9_forbid_31 (by decide) ?_
    refine lv_istore (lv' := [(4, .int (nI 0)), (0, .ref (q 0)), (1, .int (nI e)), (2, .int x), (3, .int (nI b.toNat))]) S.1 S.2.1 dX9_forbid_32 hl (by decide) rfl (fun ls hl => ?_)
    refine lv_aload_n S.1 S.2.1 dX9_forbid_34 rfl (lv_at hl 1 rfl) ?_
    refine g_get (C := RX9) (T := TX9) (N := 15) (v := .int (nI 1)) S 0 7 0 in_X9_forbid_X9 hK hP rfl rfl (by decide) w_X9_forbid_0 rfl dX9_forbid_35 ?_
    refine n_zne S (tgt := 60) (by decide) dX9_forbid_38 (by decide) (fun _ => ?_) (fun q => absurd q (by decide))
    refine lv_iconst (v := (nI 0)) S.1 S.2.1 dX9_forbid_60 (by decide) ?_
    refine lv_istore (lv' := [(5, .int (nI 0)), (4, .int (nI 0)), (0, .ref (q 0)), (1, .int (nI e)), (2, .int x), (3, .int (nI b.toNat))]) S.1 S.2.1 dX9_forbid_61 hl (by decide) rfl (fun ls hl => ?_)
    refine lv_iload S.1 S.2.1 dX9_forbid_63 (lv_at hl 0 rfl) ?_
    refine n_zeq S (tgt := 80) (by decide) dX9_forbid_65 (by decide) (fun _ => ?_) (fun q => absurd q (by decide))
    refine lv_iload S.1 S.2.1 dX9_forbid_80 (lv_at hl 0 rfl) ?_
    exact wr_iret S (()) hr (by decide) hlocks (rfl) (hP) (hD) hS dX9_forbid_82
  · refine lv_iconst (v := (nI 1)) S.1 S.2.1 dX9_forbid_27 (by decide) ?_
    refine lv_goto (tgt := 32) S.1 S.2.1 dX9_forbid_28 (by decide) ?_
    refine lv_istore (lv' := [(4, .int (nI 1)), (0, .ref (q 0)), (1, .int (nI e)), (2, .int x), (3, .int (nI b.toNat))]) S.1 S.2.1 dX9_forbid_32 hl (by decide) rfl (fun ls hl => ?_)
    refine lv_aload_n S.1 S.2.1 dX9_forbid_34 rfl (lv_at hl 1 rfl) ?_
    refine g_get (C := RX9) (T := TX9) (N := 15) (v := .int (nI 1)) S 0 7 0 in_X9_forbid_X9 hK hP rfl rfl (by decide) w_X9_forbid_0 rfl dX9_forbid_35 ?_
    refine n_zne S (tgt := 60) (by decide) dX9_forbid_38 (by decide) (fun _ => ?_) (fun q => absurd q (by decide))
    refine lv_iconst (v := (nI 0)) S.1 S.2.1 dX9_forbid_60 (by decide) ?_
    refine lv_istore (lv' := [(5, .int (nI 0)), (4, .int (nI 1)), (0, .ref (q 0)), (1, .int (nI e)), (2, .int x), (3, .int (nI b.toNat))]) S.1 S.2.1 dX9_forbid_61 hl (by decide) rfl (fun ls hl => ?_)
    refine lv_iload S.1 S.2.1 dX9_forbid_63 (lv_at hl 0 rfl) ?_
    refine n_zeq S (tgt := 80) (by decide) dX9_forbid_65 (by decide) (fun _ => ?_) (fun q => absurd q (by decide))
    refine lv_iload S.1 S.2.1 dX9_forbid_80 (lv_at hl 0 rfl) ?_
    exact wr_iret S (()) hr (by decide) hlocks (rfl) (hP) (hD) hS dX9_forbid_82

theorem w_X9_forbid_1 : Cond.fieldLink RX9 23 "CoverSheetModel" "barred" "[I" ∈ wsX9_forbid := by decide +kernel
set_option maxHeartbeats 4000000 in
set_option maxRecDepth 100000 in
theorem w_X9_forbid (l : Launch) (D : va_G) (cT : ClassId × ClassId × ClassId) (sz : Nat) (q : Nat → Nat) (bd th n ro cl fb rn : Nat) (nd sk mo wk fx wi la da we : Nat → Nat) (e : Nat) (f : Nat) (b : Bool) (hwf : wfC n bd fb rn nd sk mo wk fx wi la da we) (hz : ∀ b, b < 4 → bit fb (4 * b) = 0) (he : 1 ≤ e ∧ e < 4) (hf : 1 ≤ f ∧ f < 4) : Met l yX9_forbid wsX9_forbid ({ frames := 2, cells := 0, slots := 0, locals := 42 } : Room) (va_Pc [.ref (q 0), .int (nI e), .int (nI f), .int (nI b.toNat)] (wr_R D (TY cT) (mX cT q th n ro cl fb rn nd sk mo wk fx wi la da we) sz)) (wQi (fun (r_ : Int32) (_ : Unit) => r_ = (nI (bit fb (4 * e + f) != b.toNat).toNat)) D (fun (_ : Unit) => mX cT q 0 n ro cl (bset fb (4 * e + f) b.toNat) rn nd sk mo wk fx wi la da we) (va_A (mX cT q th n ro cl fb rn nd sk mo wk fx wi la da we) sz)) 0 0 (va_A (mX cT q th n ro cl fb rn nd sk mo wk fx wi la da we) sz) := by
  refine wr_start (cc := cX9_forbid) (maxL := 6) (ret := (some .boolean)) RX9 ⟨by decide +kernel, rfl⟩ rfl (Nat.le_of_ble_eq_true rfl) ?_
  intro p0 e0 s0 m0 a0 b0 t0 c0 S hr hlocks hin hP hK hA hD hS ls hl
  generalize va_A (mX cT q th n ro cl fb rn nd sk mo wk fx wi la da we) sz = A at hA hD hS ⊢
  have hl : lv_has ls 6 [(0, .ref (q 0)), (1, .int (nI e)), (2, .int (nI f)), (3, .int (nI b.toNat))] := hl
  obtain ⟨hn, hcl, hfb, hrn, hnd, hper⟩ := id hwf
  refine lv_aload_n S.1 S.2.1 dX9_forbid_0 rfl (lv_at hl 0 rfl) ?_
  refine lv_iload_n S.1 S.2.1 dX9_forbid_1 rfl (lv_at hl 1 rfl) ?_
  refine rd_callS (rest := [.ref (q 0)]) S (r_X9_isKind l D cT e (by omega)) gX9_forbid_X9_isKind rfl pd_X9_isKind ⟨rfl, rfl, Nat.le_of_ble_eq_true rfl, Nat.le_of_ble_eq_true rfl⟩ (sx_P0 D _) hK hl rfl rfl (Nat.le_of_ble_eq_true rfl) ⟨Nat.zero_le _, Nat.zero_le _⟩ dX9_forbid_2 ?_
  refine n_beq S (tgt := 19) dX9_forbid_5 (by decide) (fun q => absurd q (by decide)) (fun _ => ?_)
  refine lv_iload_n S.1 S.2.1 dX9_forbid_8 rfl (lv_at hl 2 rfl) ?_
  refine rd_callS (rest := [.ref (q 0)]) S (r_X9_isKind l D cT f (by omega)) gX9_forbid_X9_isKind rfl pd_X9_isKind ⟨rfl, rfl, Nat.le_of_ble_eq_true rfl, Nat.le_of_ble_eq_true rfl⟩ (sx_P0 D _) hK hl rfl rfl (Nat.le_of_ble_eq_true rfl) ⟨Nat.zero_le _, Nat.zero_le _⟩ dX9_forbid_9 ?_
  refine n_beq S (tgt := 19) dX9_forbid_12 (by decide) (fun q => absurd q (by decide)) (fun _ => ?_)
  refine lv_iconst (v := (nI 0)) S.1 S.2.1 dX9_forbid_15 (by decide) ?_
  refine lv_goto (tgt := 20) S.1 S.2.1 dX9_forbid_16 (by decide) ?_
  refine w_put (C := RX9) (T := TX9) (N := 15) (v := .int (nI 0)) (ty := .int) S 0 7 0 in_X9_forbid_X9 tyX9 tyX9_ok nmX9 hK hP hD hS rfl rfl (by decide) w_X9_forbid_0 rfl (by decide +kernel) rfl rfl (Nat.le_of_ble_eq_true rfl) dX9_forbid_20 (fun H locs hP hD hS => ?_)
  have hP : va_P D vwCl (mX cT q 0 n ro cl fb rn nd sk mo wk fx wi la da we) H := hP
  have hD : va_D A (mX cT q 0 n ro cl fb rn nd sk mo wk fx wi la da we) := hD
  refine lv_iload_n S.1 S.2.1 dX9_forbid_23 rfl (lv_at hl 3 rfl) ?_
  refine n_beq S (tgt := 31) dX9_forbid_24 (by decide) (fun c24 => ?_) (fun c24 => ?_)
  · refine lv_iconst (v := (nI 0)) S.1 S.2.1 dX9_forbid_31 (by decide) ?_
    refine lv_istore (lv' := [(4, .int (nI 0)), (0, .ref (q 0)), (1, .int (nI e)), (2, .int (nI f)), (3, .int (nI b.toNat))]) S.1 S.2.1 dX9_forbid_32 hl (by decide) rfl (fun ls hl => ?_)
    refine lv_aload_n S.1 S.2.1 dX9_forbid_34 rfl (lv_at hl 1 rfl) ?_
    refine g_get (C := RX9) (T := TX9) (N := 15) (v := .int (nI 0)) S 0 7 0 in_X9_forbid_X9 hK hP rfl rfl (by decide) w_X9_forbid_0 rfl dX9_forbid_35 ?_
    refine n_zne S (tgt := 60) (by decide) dX9_forbid_38 (by decide) (fun q => absurd q (by decide)) (fun _ => ?_)
    refine lv_aload_n S.1 S.2.1 dX9_forbid_41 rfl (lv_at hl 1 rfl) ?_
    refine g_get (C := RX9) (T := TX9) (N := 15) (v := .ref (q 4)) S 0 7 8 in_X9_forbid_X9 hK hP rfl rfl (by decide) w_X9_forbid_1 rfl dX9_forbid_42 ?_
    refine lv_iconst (v := (nI 4)) S.1 S.2.1 dX9_forbid_45 (by decide) ?_
    refine lv_iload_n S.1 S.2.1 dX9_forbid_46 rfl (lv_at hl 2 rfl) ?_
    refine n_mul S dX9_forbid_47 ?_
    refine lv_iload_n S.1 S.2.1 dX9_forbid_48 rfl (lv_at hl 3 rfl) ?_
    refine n_add S dX9_forbid_49 ?_
    refine g_iald S 4 hK hP rfl (by omega) dX9_forbid_50 ?_
    refine lv_iload S.1 S.2.1 dX9_forbid_51 (lv_at hl 0 rfl) ?_
    refine n_ceq S (tgt := 60) (⟨Nat.lt_trans (bit_lt _ _) (by decide), by decide⟩) dX9_forbid_53 (by decide) (fun c53 => ?_) (fun c53 => ?_)
    · refine lv_iconst (v := (nI 0)) S.1 S.2.1 dX9_forbid_60 (by decide) ?_
      refine lv_istore (lv' := [(5, .int (nI 0)), (4, .int (nI 0)), (0, .ref (q 0)), (1, .int (nI e)), (2, .int (nI f)), (3, .int (nI b.toNat))]) S.1 S.2.1 dX9_forbid_61 hl (by decide) rfl (fun ls hl => ?_)
      refine lv_iload S.1 S.2.1 dX9_forbid_63 (lv_at hl 0 rfl) ?_
      refine n_zeq S (tgt := 80) (by decide) dX9_forbid_65 (by decide) (fun _ => ?_) (fun q => absurd q (by decide))
      refine lv_iload S.1 S.2.1 dX9_forbid_80 (lv_at hl 0 rfl) ?_
      exact wr_iret S (()) hr (by decide) hlocks (r_f (fun h => by rw [c24] at h; exact (bne_iff_ne.mp h) c53)) (by rw [bs_same (x := fb) (k := 4 * e + f) (b := b.toNat) (by rw [c24]; exact c53)]; exact hP) (by rw [bs_same (x := fb) (k := 4 * e + f) (b := b.toNat) (by rw [c24]; exact c53)]; exact hD) hS dX9_forbid_82
    · refine lv_iconst (v := (nI 1)) S.1 S.2.1 dX9_forbid_56 (by decide) ?_
      refine lv_goto (tgt := 61) S.1 S.2.1 dX9_forbid_57 (by decide) ?_
      refine lv_istore (lv' := [(5, .int (nI 1)), (4, .int (nI 0)), (0, .ref (q 0)), (1, .int (nI e)), (2, .int (nI f)), (3, .int (nI b.toNat))]) S.1 S.2.1 dX9_forbid_61 hl (by decide) rfl (fun ls hl => ?_)
      refine lv_iload S.1 S.2.1 dX9_forbid_63 (lv_at hl 0 rfl) ?_
      refine n_zeq S (tgt := 80) (by decide) dX9_forbid_65 (by decide) (fun q => absurd q (by decide)) (fun _ => ?_)
      refine lv_aload_n S.1 S.2.1 dX9_forbid_68 rfl (lv_at hl 2 rfl) ?_
      refine g_get (C := RX9) (T := TX9) (N := 15) (v := .ref (q 4)) S 0 7 8 in_X9_forbid_X9 hK hP rfl rfl (by decide) w_X9_forbid_1 rfl dX9_forbid_69 ?_
      refine lv_iconst (v := (nI 4)) S.1 S.2.1 dX9_forbid_72 (by decide) ?_
      refine lv_iload_n S.1 S.2.1 dX9_forbid_73 rfl (lv_at hl 3 rfl) ?_
      refine n_mul S dX9_forbid_74 ?_
      refine lv_iload_n S.1 S.2.1 dX9_forbid_75 rfl (lv_at hl 4 rfl) ?_
      refine n_add S dX9_forbid_76 ?_
      refine lv_iload S.1 S.2.1 dX9_forbid_77 (lv_at hl 1 rfl) ?_
      refine w_iast S 4 hK hP hD hS rfl (by omega) dX9_forbid_79 (fun H locs hP hD hS => ?_)
      have hP : va_P D vwCl (mX cT q 0 n ro cl (bset fb ((4 * e) + f) 0) rn nd sk mo wk fx wi la da we) H := by rw [fb_up (fb := fb) (j := (4 * e) + f) (v := 0) (by omega)] at hP; exact hP
      have hD : va_D A (mX cT q 0 n ro cl (bset fb ((4 * e) + f) 0) rn nd sk mo wk fx wi la da we) := by rw [fb_up (fb := fb) (j := (4 * e) + f) (v := 0) (by omega)] at hD; exact hD
      refine lv_iload S.1 S.2.1 dX9_forbid_80 (lv_at hl 0 rfl) ?_
      exact wr_iret S (()) hr (by decide) hlocks (r_t (by rw [c24]; exact bne_iff_ne.mpr c53)) (by rw [c24]; exact hP) (by rw [c24]; exact hD) hS dX9_forbid_82
  · refine lv_iconst (v := (nI 1)) S.1 S.2.1 dX9_forbid_27 (by decide) ?_
    refine lv_goto (tgt := 32) S.1 S.2.1 dX9_forbid_28 (by decide) ?_
    refine lv_istore (lv' := [(4, .int (nI 1)), (0, .ref (q 0)), (1, .int (nI e)), (2, .int (nI f)), (3, .int (nI b.toNat))]) S.1 S.2.1 dX9_forbid_32 hl (by decide) rfl (fun ls hl => ?_)
    refine lv_aload_n S.1 S.2.1 dX9_forbid_34 rfl (lv_at hl 1 rfl) ?_
    refine g_get (C := RX9) (T := TX9) (N := 15) (v := .int (nI 0)) S 0 7 0 in_X9_forbid_X9 hK hP rfl rfl (by decide) w_X9_forbid_0 rfl dX9_forbid_35 ?_
    refine n_zne S (tgt := 60) (by decide) dX9_forbid_38 (by decide) (fun q => absurd q (by decide)) (fun _ => ?_)
    refine lv_aload_n S.1 S.2.1 dX9_forbid_41 rfl (lv_at hl 1 rfl) ?_
    refine g_get (C := RX9) (T := TX9) (N := 15) (v := .ref (q 4)) S 0 7 8 in_X9_forbid_X9 hK hP rfl rfl (by decide) w_X9_forbid_1 rfl dX9_forbid_42 ?_
    refine lv_iconst (v := (nI 4)) S.1 S.2.1 dX9_forbid_45 (by decide) ?_
    refine lv_iload_n S.1 S.2.1 dX9_forbid_46 rfl (lv_at hl 2 rfl) ?_
    refine n_mul S dX9_forbid_47 ?_
    refine lv_iload_n S.1 S.2.1 dX9_forbid_48 rfl (lv_at hl 3 rfl) ?_
    refine n_add S dX9_forbid_49 ?_
    refine g_iald S 4 hK hP rfl (by omega) dX9_forbid_50 ?_
    refine lv_iload S.1 S.2.1 dX9_forbid_51 (lv_at hl 0 rfl) ?_
    refine n_ceq S (tgt := 60) (⟨Nat.lt_trans (bit_lt _ _) (by decide), by decide⟩) dX9_forbid_53 (by decide) (fun c53 => ?_) (fun c53 => ?_)
    · refine lv_iconst (v := (nI 0)) S.1 S.2.1 dX9_forbid_60 (by decide) ?_
      refine lv_istore (lv' := [(5, .int (nI 0)), (4, .int (nI 1)), (0, .ref (q 0)), (1, .int (nI e)), (2, .int (nI f)), (3, .int (nI b.toNat))]) S.1 S.2.1 dX9_forbid_61 hl (by decide) rfl (fun ls hl => ?_)
      refine lv_iload S.1 S.2.1 dX9_forbid_63 (lv_at hl 0 rfl) ?_
      refine n_zeq S (tgt := 80) (by decide) dX9_forbid_65 (by decide) (fun _ => ?_) (fun q => absurd q (by decide))
      refine lv_iload S.1 S.2.1 dX9_forbid_80 (lv_at hl 0 rfl) ?_
      exact wr_iret S (()) hr (by decide) hlocks (r_f (fun h => by rw [c24] at h; exact (bne_iff_ne.mp h) c53)) (by rw [bs_same (x := fb) (k := 4 * e + f) (b := b.toNat) (by rw [c24]; exact c53)]; exact hP) (by rw [bs_same (x := fb) (k := 4 * e + f) (b := b.toNat) (by rw [c24]; exact c53)]; exact hD) hS dX9_forbid_82
    · refine lv_iconst (v := (nI 1)) S.1 S.2.1 dX9_forbid_56 (by decide) ?_
      refine lv_goto (tgt := 61) S.1 S.2.1 dX9_forbid_57 (by decide) ?_
      refine lv_istore (lv' := [(5, .int (nI 1)), (4, .int (nI 1)), (0, .ref (q 0)), (1, .int (nI e)), (2, .int (nI f)), (3, .int (nI b.toNat))]) S.1 S.2.1 dX9_forbid_61 hl (by decide) rfl (fun ls hl => ?_)
      refine lv_iload S.1 S.2.1 dX9_forbid_63 (lv_at hl 0 rfl) ?_
      refine n_zeq S (tgt := 80) (by decide) dX9_forbid_65 (by decide) (fun q => absurd q (by decide)) (fun _ => ?_)
      refine lv_aload_n S.1 S.2.1 dX9_forbid_68 rfl (lv_at hl 2 rfl) ?_
      refine g_get (C := RX9) (T := TX9) (N := 15) (v := .ref (q 4)) S 0 7 8 in_X9_forbid_X9 hK hP rfl rfl (by decide) w_X9_forbid_1 rfl dX9_forbid_69 ?_
      refine lv_iconst (v := (nI 4)) S.1 S.2.1 dX9_forbid_72 (by decide) ?_
      refine lv_iload_n S.1 S.2.1 dX9_forbid_73 rfl (lv_at hl 3 rfl) ?_
      refine n_mul S dX9_forbid_74 ?_
      refine lv_iload_n S.1 S.2.1 dX9_forbid_75 rfl (lv_at hl 4 rfl) ?_
      refine n_add S dX9_forbid_76 ?_
      refine lv_iload S.1 S.2.1 dX9_forbid_77 (lv_at hl 1 rfl) ?_
      refine w_iast S 4 hK hP hD hS rfl (by omega) dX9_forbid_79 (fun H locs hP hD hS => ?_)
      have hP : va_P D vwCl (mX cT q 0 n ro cl (bset fb ((4 * e) + f) 1) rn nd sk mo wk fx wi la da we) H := by rw [fb_up (fb := fb) (j := (4 * e) + f) (v := 1) (by omega)] at hP; exact hP
      have hD : va_D A (mX cT q 0 n ro cl (bset fb ((4 * e) + f) 1) rn nd sk mo wk fx wi la da we) := by rw [fb_up (fb := fb) (j := (4 * e) + f) (v := 1) (by omega)] at hD; exact hD
      refine lv_iload S.1 S.2.1 dX9_forbid_80 (lv_at hl 0 rfl) ?_
      exact wr_iret S (()) hr (by decide) hlocks (r_t (by rw [c24]; exact bne_iff_ne.mpr c53)) (by rw [c24]; exact hP) (by rw [c24]; exact hD) hS dX9_forbid_82

theorem pd_X9_setRun : yX9_setRun.cls = RX9 ∧ yX9_setRun.cls ≠ "java/lang/invoke/MethodHandle" ∧ yX9_setRun.cls ≠ "java/lang/invoke/VarHandle" ∧ (parseMethodDescriptor yX9_setRun.desc).map (fun d => d.parameters.length) = some 1 := by decide +kernel
theorem w_X9_setRun_0 : Cond.fieldLink RX9 44 "CoverSheetModel" "thrown" "I" ∈ wsX9_setRun := by decide +kernel
theorem in_X9_setRun_X9 : ∀ w ∈ u_ws RX9 TX9 15, w ∈ wsX9_setRun := by decide +kernel
set_option maxHeartbeats 4000000 in
set_option maxRecDepth 100000 in
theorem w_X9_setRun_x0 (l : Launch) (D : va_G) (cT : ClassId × ClassId × ClassId) (sz : Nat) (q : Nat → Nat) (bd th n ro cl fb rn : Nat) (nd sk mo wk fx wi la da we : Nat → Nat) (x : Int32) (hwf : wfC n bd fb rn nd sk mo wk fx wi la da we) (hz : ∀ b, b < 4 → bit fb (4 * b) = 0) (hx : x < nI 1 ∨ nI 14 < x) : Met l yX9_setRun wsX9_setRun ({ frames := 1, cells := 0, slots := 0, locals := 22 } : Room) (va_Pc [.ref (q 0), .int x] (wr_R D (TY cT) (mX cT q th n ro cl fb rn nd sk mo wk fx wi la da we) sz)) (wQi (fun (r_ : Int32) (_ : Unit) => r_ = (nI 0)) D (fun (_ : Unit) => mX cT q 1 n ro cl fb rn nd sk mo wk fx wi la da we) (va_A (mX cT q th n ro cl fb rn nd sk mo wk fx wi la da we) sz)) 0 0 (va_A (mX cT q th n ro cl fb rn nd sk mo wk fx wi la da we) sz) := by
  refine wr_start (cc := cX9_setRun) (maxL := 3) (ret := (some .int)) RX9 ⟨by decide +kernel, rfl⟩ rfl (Nat.le_of_ble_eq_true rfl) ?_
  intro p0 e0 s0 m0 a0 b0 t0 c0 S hr hlocks hin hP hK hA hD hS ls hl
  generalize va_A (mX cT q th n ro cl fb rn nd sk mo wk fx wi la da we) sz = A at hA hD hS ⊢
  have hl : lv_has ls 3 [(0, .ref (q 0)), (1, .int x)] := hl
  obtain ⟨hn, hcl, hfb, hrn, hnd, hper⟩ := id hwf
  refine lv_aload_n S.1 S.2.1 dX9_setRun_0 rfl (lv_at hl 0 rfl) ?_
  refine lv_iconst (v := (nI 0)) S.1 S.2.1 dX9_setRun_1 (by decide) ?_
  refine w_put (C := RX9) (T := TX9) (N := 15) (v := .int (nI 0)) (ty := .int) S 0 7 0 in_X9_setRun_X9 tyX9 tyX9_ok nmX9 hK hP hD hS rfl rfl (by decide) w_X9_setRun_0 rfl (by decide +kernel) rfl rfl (Nat.le_of_ble_eq_true rfl) dX9_setRun_2 (fun H locs hP hD hS => ?_)
  have hP : va_P D vwCl (mX cT q 0 n ro cl fb rn nd sk mo wk fx wi la da we) H := hP
  have hD : va_D A (mX cT q 0 n ro cl fb rn nd sk mo wk fx wi la da we) := hD
  refine lv_iload_n S.1 S.2.1 dX9_setRun_5 rfl (lv_at hl 1 rfl) ?_
  refine lv_iconst (v := (nI 1)) S.1 S.2.1 dX9_setRun_6 (by decide) ?_
  refine lv_bipush (v := (nI 14)) S.1 S.2.1 dX9_setRun_7 (by decide) ?_
  refine rd_callS (rest := []) S (r_X9_in l D cT x (nI 1) (nI 14) ) gX9_setRun_X9_in rfl pd_X9_in ⟨rfl, rfl, Nat.le_of_ble_eq_true rfl, Nat.le_of_ble_eq_true rfl⟩ (sx_P0 D _) hK hl rfl rfl (Nat.le_of_ble_eq_true rfl) ⟨Nat.zero_le _, Nat.zero_le _⟩ dX9_setRun_9 ?_
  refine n_top (show (nI (inb x (nI 1) (nI 14)).toNat) = (nI false.toNat) from by rw [inb_f hx]) ?_
  refine n_bne S (tgt := 21) dX9_setRun_12 (by decide) (fun q => absurd q (by decide)) (fun _ => ?_)
  refine lv_aload_n S.1 S.2.1 dX9_setRun_15 rfl (lv_at hl 0 rfl) ?_
  refine lv_iconst (v := (nI 1)) S.1 S.2.1 dX9_setRun_16 (by decide) ?_
  refine wr_callVi (rest := []) S (w_X9_fails l D cT _ q bd 0 n ro cl fb rn nd sk mo wk fx wi la da we 1 (hwf) (hz)) gX9_setRun_X9_fails rfl pd_X9_fails ⟨rfl, rfl, Nat.le_of_ble_eq_true rfl, Nat.le_of_ble_eq_true rfl⟩ hP hK hD hS hA (va_recv hK.1 hP (ci := 7) (q0 := 0) rfl rfl) hl rfl rfl (Nat.le_of_ble_eq_true rfl) ⟨Nat.zero_le _, Nat.zero_le _⟩ dX9_setRun_17 (fun r_ u_ H locs hr_ hP hD hS => ?_)
  subst hr_
  have hP : va_P D vwCl (mX cT q 1 n ro cl fb rn nd sk mo wk fx wi la da we) H := hP
  have hD : va_D A (mX cT q 1 n ro cl fb rn nd sk mo wk fx wi la da we) := hD
  exact wr_iret S (()) hr rfl hlocks (rfl) (hP) (hD) hS dX9_setRun_20

theorem w_X9_setRun_1 : Cond.fieldLink RX9 7 "CoverSheetModel" "run" "I" ∈ wsX9_setRun := by decide +kernel
set_option maxHeartbeats 4000000 in
set_option maxRecDepth 100000 in
theorem w_X9_setRun (l : Launch) (D : va_G) (cT : ClassId × ClassId × ClassId) (sz : Nat) (q : Nat → Nat) (bd th n ro cl fb rn : Nat) (nd sk mo wk fx wi la da we : Nat → Nat) (v : Nat) (hwf : wfC n bd fb rn nd sk mo wk fx wi la da we) (hz : ∀ b, b < 4 → bit fb (4 * b) = 0) (hv : 1 ≤ v ∧ v < 15) : Met l yX9_setRun wsX9_setRun ({ frames := 1, cells := 0, slots := 0, locals := 22 } : Room) (va_Pc [.ref (q 0), .int (nI v)] (wr_R D (TY cT) (mX cT q th n ro cl fb rn nd sk mo wk fx wi la da we) sz)) (wQi (fun (r_ : Int32) (_ : Unit) => r_ = (nI rn)) D (fun (_ : Unit) => mX cT q 0 n ro cl fb v nd sk mo wk fx wi la da we) (va_A (mX cT q th n ro cl fb rn nd sk mo wk fx wi la da we) sz)) 0 0 (va_A (mX cT q th n ro cl fb rn nd sk mo wk fx wi la da we) sz) := by
  refine wr_start (cc := cX9_setRun) (maxL := 3) (ret := (some .int)) RX9 ⟨by decide +kernel, rfl⟩ rfl (Nat.le_of_ble_eq_true rfl) ?_
  intro p0 e0 s0 m0 a0 b0 t0 c0 S hr hlocks hin hP hK hA hD hS ls hl
  generalize va_A (mX cT q th n ro cl fb rn nd sk mo wk fx wi la da we) sz = A at hA hD hS ⊢
  have hl : lv_has ls 3 [(0, .ref (q 0)), (1, .int (nI v))] := hl
  obtain ⟨hn, hcl, hfb, hrn, hnd, hper⟩ := id hwf
  refine lv_aload_n S.1 S.2.1 dX9_setRun_0 rfl (lv_at hl 0 rfl) ?_
  refine lv_iconst (v := (nI 0)) S.1 S.2.1 dX9_setRun_1 (by decide) ?_
  refine w_put (C := RX9) (T := TX9) (N := 15) (v := .int (nI 0)) (ty := .int) S 0 7 0 in_X9_setRun_X9 tyX9 tyX9_ok nmX9 hK hP hD hS rfl rfl (by decide) w_X9_setRun_0 rfl (by decide +kernel) rfl rfl (Nat.le_of_ble_eq_true rfl) dX9_setRun_2 (fun H locs hP hD hS => ?_)
  have hP : va_P D vwCl (mX cT q 0 n ro cl fb rn nd sk mo wk fx wi la da we) H := hP
  have hD : va_D A (mX cT q 0 n ro cl fb rn nd sk mo wk fx wi la da we) := hD
  refine lv_iload_n S.1 S.2.1 dX9_setRun_5 rfl (lv_at hl 1 rfl) ?_
  refine lv_iconst (v := (nI 1)) S.1 S.2.1 dX9_setRun_6 (by decide) ?_
  refine lv_bipush (v := (nI 14)) S.1 S.2.1 dX9_setRun_7 (by decide) ?_
  refine rd_callS (rest := []) S (r_X9_in l D cT (nI v) (nI 1) (nI 14) ) gX9_setRun_X9_in rfl pd_X9_in ⟨rfl, rfl, Nat.le_of_ble_eq_true rfl, Nat.le_of_ble_eq_true rfl⟩ (sx_P0 D _) hK hl rfl rfl (Nat.le_of_ble_eq_true rfl) ⟨Nat.zero_le _, Nat.zero_le _⟩ dX9_setRun_9 ?_
  refine n_top (show (nI (inb (nI v) (nI 1) (nI 14)).toNat) = (nI true.toNat) from by rw [inb_t ⟨by omega, by omega, by decide⟩]) ?_
  refine n_bne S (tgt := 21) dX9_setRun_12 (by decide) (fun _ => ?_) (fun q => absurd q (by decide))
  refine lv_aload_n S.1 S.2.1 dX9_setRun_21 rfl (lv_at hl 0 rfl) ?_
  refine g_get (C := RX9) (T := TX9) (N := 15) (v := .int (nI rn)) S 0 7 4 in_X9_setRun_X9 hK hP rfl rfl (by decide) w_X9_setRun_1 rfl dX9_setRun_22 ?_
  refine lv_istore_n (lv' := [(2, .int (nI rn)), (0, .ref (q 0)), (1, .int (nI v))]) S.1 S.2.1 dX9_setRun_25 rfl hl (by decide) rfl (fun ls hl => ?_)
  refine lv_aload_n S.1 S.2.1 dX9_setRun_26 rfl (lv_at hl 1 rfl) ?_
  refine lv_iload_n S.1 S.2.1 dX9_setRun_27 rfl (lv_at hl 2 rfl) ?_
  refine w_put (C := RX9) (T := TX9) (N := 15) (v := .int (nI v)) (ty := .int) S 0 7 4 in_X9_setRun_X9 tyX9 tyX9_ok nmX9 hK hP hD hS rfl rfl (by decide) w_X9_setRun_1 rfl (by decide +kernel) rfl rfl (Nat.le_of_ble_eq_true rfl) dX9_setRun_28 (fun H locs hP hD hS => ?_)
  have hP : va_P D vwCl (mX cT q 0 n ro cl fb v nd sk mo wk fx wi la da we) H := hP
  have hD : va_D A (mX cT q 0 n ro cl fb v nd sk mo wk fx wi la da we) := hD
  refine lv_iload_n S.1 S.2.1 dX9_setRun_31 rfl (lv_at hl 0 rfl) ?_
  exact wr_iret S (()) hr rfl hlocks (rfl) (hP) (hD) hS dX9_setRun_32

theorem pd_X9_fix : yX9_fix.cls = RX9 ∧ yX9_fix.cls ≠ "java/lang/invoke/MethodHandle" ∧ yX9_fix.cls ≠ "java/lang/invoke/VarHandle" ∧ (parseMethodDescriptor yX9_fix.desc).map (fun d => d.parameters.length) = some 3 := by decide +kernel
theorem w_X9_fix_0 : Cond.fieldLink RX9 44 "CoverSheetModel" "thrown" "I" ∈ wsX9_fix := by decide +kernel
theorem in_X9_fix_X9 : ∀ w ∈ u_ws RX9 TX9 15, w ∈ wsX9_fix := by decide +kernel
set_option maxHeartbeats 4000000 in
set_option maxRecDepth 100000 in
theorem w_X9_fix_x0 (l : Launch) (D : va_G) (cT : ClassId × ClassId × ClassId) (sz : Nat) (q : Nat → Nat) (bd th n ro cl fb rn : Nat) (nd sk mo wk fx wi la da we : Nat → Nat) (x : Int32) (zd : Int32) (ze : Int32) (hwf : wfC n bd fb rn nd sk mo wk fx wi la da we) (hz : ∀ b, b < 4 → bit fb (4 * b) = 0) (hx : PX x n) : Met l yX9_fix wsX9_fix ({ frames := 2, cells := 0, slots := 0, locals := 43 } : Room) (va_Pc [.ref (q 0), .int x, .int zd, .int ze] (wr_R D (TY cT) (mX cT q th n ro cl fb rn nd sk mo wk fx wi la da we) sz)) (wQi (fun (r_ : Int32) (_ : Unit) => r_ = (nI 0)) D (fun (_ : Unit) => mX cT q 1 n ro cl fb rn nd sk mo wk fx wi la da we) (va_A (mX cT q th n ro cl fb rn nd sk mo wk fx wi la da we) sz)) 0 0 (va_A (mX cT q th n ro cl fb rn nd sk mo wk fx wi la da we) sz) := by
  refine wr_start (cc := cX9_fix) (maxL := 5) (ret := (some .int)) RX9 ⟨by decide +kernel, rfl⟩ rfl (Nat.le_of_ble_eq_true rfl) ?_
  intro p0 e0 s0 m0 a0 b0 t0 c0 S hr hlocks hin hP hK hA hD hS ls hl
  generalize va_A (mX cT q th n ro cl fb rn nd sk mo wk fx wi la da we) sz = A at hA hD hS ⊢
  have hl : lv_has ls 5 [(0, .ref (q 0)), (1, .int x), (2, .int zd), (3, .int ze)] := hl
  obtain ⟨hn, hcl, hfb, hrn, hnd, hper⟩ := id hwf
  refine lv_aload_n S.1 S.2.1 dX9_fix_0 rfl (lv_at hl 0 rfl) ?_
  refine lv_iconst (v := (nI 0)) S.1 S.2.1 dX9_fix_1 (by decide) ?_
  refine w_put (C := RX9) (T := TX9) (N := 15) (v := .int (nI 0)) (ty := .int) S 0 7 0 in_X9_fix_X9 tyX9 tyX9_ok nmX9 hK hP hD hS rfl rfl (by decide) w_X9_fix_0 rfl (by decide +kernel) rfl rfl (Nat.le_of_ble_eq_true rfl) dX9_fix_2 (fun H locs hP hD hS => ?_)
  have hP : va_P D vwCl (mX cT q 0 n ro cl fb rn nd sk mo wk fx wi la da we) H := hP
  have hD : va_D A (mX cT q 0 n ro cl fb rn nd sk mo wk fx wi la da we) := hD
  refine lv_aload_n S.1 S.2.1 dX9_fix_5 rfl (lv_at hl 0 rfl) ?_
  refine lv_iload_n S.1 S.2.1 dX9_fix_6 rfl (lv_at hl 1 rfl) ?_
  refine rd_callV (rest := []) S (r_X9_isPerson_x l D cT q bd 0 n ro cl fb rn nd sk mo wk fx wi la da we x (hwf) (hz) (hx)) gX9_fix_X9_isPerson rfl pd_X9_isPerson ⟨rfl, rfl, Nat.le_of_ble_eq_true rfl, Nat.le_of_ble_eq_true rfl⟩ hP hK (va_recv hK.1 hP (ci := 7) (q0 := 0) rfl rfl) hl rfl rfl (Nat.le_of_ble_eq_true rfl) ⟨Nat.zero_le _, Nat.zero_le _⟩ dX9_fix_7 ?_
  refine n_beq S (tgt := 20) dX9_fix_10 (by decide) (fun _ => ?_) (fun q => absurd q (by decide))
  refine lv_aload_n S.1 S.2.1 dX9_fix_20 rfl (lv_at hl 0 rfl) ?_
  refine lv_iconst (v := (nI 1)) S.1 S.2.1 dX9_fix_21 (by decide) ?_
  refine wr_callVi (rest := []) S (w_X9_fails l D cT _ q bd 0 n ro cl fb rn nd sk mo wk fx wi la da we 1 (hwf) (hz)) gX9_fix_X9_fails rfl pd_X9_fails ⟨rfl, rfl, Nat.le_of_ble_eq_true rfl, Nat.le_of_ble_eq_true rfl⟩ hP hK hD hS hA (va_recv hK.1 hP (ci := 7) (q0 := 0) rfl rfl) hl rfl rfl (Nat.le_of_ble_eq_true rfl) ⟨Nat.zero_le _, Nat.zero_le _⟩ dX9_fix_22 (fun r_ u_ H locs hr_ hP hD hS => ?_)
  subst hr_
  have hP : va_P D vwCl (mX cT q 1 n ro cl fb rn nd sk mo wk fx wi la da we) H := hP
  have hD : va_D A (mX cT q 1 n ro cl fb rn nd sk mo wk fx wi la da we) := hD
  exact wr_iret S (()) hr rfl hlocks (rfl) (hP) (hD) hS dX9_fix_25

set_option maxHeartbeats 4000000 in
set_option maxRecDepth 100000 in
theorem w_X9_fix_x1 (l : Launch) (D : va_G) (cT : ClassId × ClassId × ClassId) (sz : Nat) (q : Nat → Nat) (bd th n ro cl fb rn : Nat) (nd sk mo wk fx wi la da we : Nat → Nat) (i : Nat) (x : Int32) (ze : Int32) (hwf : wfC n bd fb rn nd sk mo wk fx wi la da we) (hz : ∀ b, b < 4 → bit fb (4 * b) = 0) (hi : i < n) (hx : PX x 7) : Met l yX9_fix wsX9_fix ({ frames := 2, cells := 0, slots := 0, locals := 43 } : Room) (va_Pc [.ref (q 0), .int (nI i), .int x, .int ze] (wr_R D (TY cT) (mX cT q th n ro cl fb rn nd sk mo wk fx wi la da we) sz)) (wQi (fun (r_ : Int32) (_ : Unit) => r_ = (nI 0)) D (fun (_ : Unit) => mX cT q 1 n ro cl fb rn nd sk mo wk fx wi la da we) (va_A (mX cT q th n ro cl fb rn nd sk mo wk fx wi la da we) sz)) 0 0 (va_A (mX cT q th n ro cl fb rn nd sk mo wk fx wi la da we) sz) := by
  refine wr_start (cc := cX9_fix) (maxL := 5) (ret := (some .int)) RX9 ⟨by decide +kernel, rfl⟩ rfl (Nat.le_of_ble_eq_true rfl) ?_
  intro p0 e0 s0 m0 a0 b0 t0 c0 S hr hlocks hin hP hK hA hD hS ls hl
  generalize va_A (mX cT q th n ro cl fb rn nd sk mo wk fx wi la da we) sz = A at hA hD hS ⊢
  have hl : lv_has ls 5 [(0, .ref (q 0)), (1, .int (nI i)), (2, .int x), (3, .int ze)] := hl
  obtain ⟨hn, hcl, hfb, hrn, hnd, hper⟩ := id hwf
  refine lv_aload_n S.1 S.2.1 dX9_fix_0 rfl (lv_at hl 0 rfl) ?_
  refine lv_iconst (v := (nI 0)) S.1 S.2.1 dX9_fix_1 (by decide) ?_
  refine w_put (C := RX9) (T := TX9) (N := 15) (v := .int (nI 0)) (ty := .int) S 0 7 0 in_X9_fix_X9 tyX9 tyX9_ok nmX9 hK hP hD hS rfl rfl (by decide) w_X9_fix_0 rfl (by decide +kernel) rfl rfl (Nat.le_of_ble_eq_true rfl) dX9_fix_2 (fun H locs hP hD hS => ?_)
  have hP : va_P D vwCl (mX cT q 0 n ro cl fb rn nd sk mo wk fx wi la da we) H := hP
  have hD : va_D A (mX cT q 0 n ro cl fb rn nd sk mo wk fx wi la da we) := hD
  refine lv_aload_n S.1 S.2.1 dX9_fix_5 rfl (lv_at hl 0 rfl) ?_
  refine lv_iload_n S.1 S.2.1 dX9_fix_6 rfl (lv_at hl 1 rfl) ?_
  refine rd_callV (rest := []) S (r_X9_isPerson l D cT q bd 0 n ro cl fb rn nd sk mo wk fx wi la da we i (hwf) (hz) (by omega)) gX9_fix_X9_isPerson rfl pd_X9_isPerson ⟨rfl, rfl, Nat.le_of_ble_eq_true rfl, Nat.le_of_ble_eq_true rfl⟩ hP hK (va_recv hK.1 hP (ci := 7) (q0 := 0) rfl rfl) hl rfl rfl (Nat.le_of_ble_eq_true rfl) ⟨Nat.zero_le _, Nat.zero_le _⟩ dX9_fix_7 ?_
  refine n_beq S (tgt := 20) dX9_fix_10 (by decide) (fun q => absurd q (by decide)) (fun _ => ?_)
  refine lv_iload_n S.1 S.2.1 dX9_fix_13 rfl (lv_at hl 2 rfl) ?_
  refine rd_callS (rest := []) S (r_X9_isDay_x l D cT x (hx)) gX9_fix_X9_isDay rfl pd_X9_isDay ⟨rfl, rfl, Nat.le_of_ble_eq_true rfl, Nat.le_of_ble_eq_true rfl⟩ (sx_P0 D _) hK hl rfl rfl (Nat.le_of_ble_eq_true rfl) ⟨Nat.zero_le _, Nat.zero_le _⟩ dX9_fix_14 ?_
  refine n_bne S (tgt := 26) dX9_fix_17 (by decide) (fun q => absurd q (by decide)) (fun _ => ?_)
  refine lv_aload_n S.1 S.2.1 dX9_fix_20 rfl (lv_at hl 0 rfl) ?_
  refine lv_iconst (v := (nI 1)) S.1 S.2.1 dX9_fix_21 (by decide) ?_
  refine wr_callVi (rest := []) S (w_X9_fails l D cT _ q bd 0 n ro cl fb rn nd sk mo wk fx wi la da we 1 (hwf) (hz)) gX9_fix_X9_fails rfl pd_X9_fails ⟨rfl, rfl, Nat.le_of_ble_eq_true rfl, Nat.le_of_ble_eq_true rfl⟩ hP hK hD hS hA (va_recv hK.1 hP (ci := 7) (q0 := 0) rfl rfl) hl rfl rfl (Nat.le_of_ble_eq_true rfl) ⟨Nat.zero_le _, Nat.zero_le _⟩ dX9_fix_22 (fun r_ u_ H locs hr_ hP hD hS => ?_)
  subst hr_
  have hP : va_P D vwCl (mX cT q 1 n ro cl fb rn nd sk mo wk fx wi la da we) H := hP
  have hD : va_D A (mX cT q 1 n ro cl fb rn nd sk mo wk fx wi la da we) := hD
  exact wr_iret S (()) hr rfl hlocks (rfl) (hP) (hD) hS dX9_fix_25

set_option maxHeartbeats 4000000 in
set_option maxRecDepth 100000 in
theorem w_X9_fix_x2 (l : Launch) (D : va_G) (cT : ClassId × ClassId × ClassId) (sz : Nat) (q : Nat → Nat) (bd th n ro cl fb rn : Nat) (nd sk mo wk fx wi la da we : Nat → Nat) (i : Nat) (d : Nat) (x : Int32) (hwf : wfC n bd fb rn nd sk mo wk fx wi la da we) (hz : ∀ b, b < 4 → bit fb (4 * b) = 0) (hi : i < n) (hd : d < 7) (hx : x < -1 ∨ nI 3 < x) : Met l yX9_fix wsX9_fix ({ frames := 2, cells := 0, slots := 0, locals := 43 } : Room) (va_Pc [.ref (q 0), .int (nI i), .int (nI d), .int x] (wr_R D (TY cT) (mX cT q th n ro cl fb rn nd sk mo wk fx wi la da we) sz)) (wQi (fun (r_ : Int32) (_ : Unit) => r_ = (nI 0)) D (fun (_ : Unit) => mX cT q 2 n ro cl fb rn nd sk mo wk fx wi la da we) (va_A (mX cT q th n ro cl fb rn nd sk mo wk fx wi la da we) sz)) 0 0 (va_A (mX cT q th n ro cl fb rn nd sk mo wk fx wi la da we) sz) := by
  refine wr_start (cc := cX9_fix) (maxL := 5) (ret := (some .int)) RX9 ⟨by decide +kernel, rfl⟩ rfl (Nat.le_of_ble_eq_true rfl) ?_
  intro p0 e0 s0 m0 a0 b0 t0 c0 S hr hlocks hin hP hK hA hD hS ls hl
  generalize va_A (mX cT q th n ro cl fb rn nd sk mo wk fx wi la da we) sz = A at hA hD hS ⊢
  have hl : lv_has ls 5 [(0, .ref (q 0)), (1, .int (nI i)), (2, .int (nI d)), (3, .int x)] := hl
  obtain ⟨hn, hcl, hfb, hrn, hnd, hper⟩ := id hwf
  refine lv_aload_n S.1 S.2.1 dX9_fix_0 rfl (lv_at hl 0 rfl) ?_
  refine lv_iconst (v := (nI 0)) S.1 S.2.1 dX9_fix_1 (by decide) ?_
  refine w_put (C := RX9) (T := TX9) (N := 15) (v := .int (nI 0)) (ty := .int) S 0 7 0 in_X9_fix_X9 tyX9 tyX9_ok nmX9 hK hP hD hS rfl rfl (by decide) w_X9_fix_0 rfl (by decide +kernel) rfl rfl (Nat.le_of_ble_eq_true rfl) dX9_fix_2 (fun H locs hP hD hS => ?_)
  have hP : va_P D vwCl (mX cT q 0 n ro cl fb rn nd sk mo wk fx wi la da we) H := hP
  have hD : va_D A (mX cT q 0 n ro cl fb rn nd sk mo wk fx wi la da we) := hD
  refine lv_aload_n S.1 S.2.1 dX9_fix_5 rfl (lv_at hl 0 rfl) ?_
  refine lv_iload_n S.1 S.2.1 dX9_fix_6 rfl (lv_at hl 1 rfl) ?_
  refine rd_callV (rest := []) S (r_X9_isPerson l D cT q bd 0 n ro cl fb rn nd sk mo wk fx wi la da we i (hwf) (hz) (by omega)) gX9_fix_X9_isPerson rfl pd_X9_isPerson ⟨rfl, rfl, Nat.le_of_ble_eq_true rfl, Nat.le_of_ble_eq_true rfl⟩ hP hK (va_recv hK.1 hP (ci := 7) (q0 := 0) rfl rfl) hl rfl rfl (Nat.le_of_ble_eq_true rfl) ⟨Nat.zero_le _, Nat.zero_le _⟩ dX9_fix_7 ?_
  refine n_beq S (tgt := 20) dX9_fix_10 (by decide) (fun q => absurd q (by decide)) (fun _ => ?_)
  refine lv_iload_n S.1 S.2.1 dX9_fix_13 rfl (lv_at hl 2 rfl) ?_
  refine rd_callS (rest := []) S (r_X9_isDay l D cT d (by omega)) gX9_fix_X9_isDay rfl pd_X9_isDay ⟨rfl, rfl, Nat.le_of_ble_eq_true rfl, Nat.le_of_ble_eq_true rfl⟩ (sx_P0 D _) hK hl rfl rfl (Nat.le_of_ble_eq_true rfl) ⟨Nat.zero_le _, Nat.zero_le _⟩ dX9_fix_14 ?_
  refine n_bne S (tgt := 26) dX9_fix_17 (by decide) (fun _ => ?_) (fun q => absurd q (by decide))
  refine lv_iload_n S.1 S.2.1 dX9_fix_26 rfl (lv_at hl 3 rfl) ?_
  refine lv_iconst (v := (-1)) S.1 S.2.1 dX9_fix_27 (by decide) ?_
  refine lv_iconst (v := (nI 3)) S.1 S.2.1 dX9_fix_28 (by decide) ?_
  refine rd_callS (rest := []) S (r_X9_in l D cT x (-1) (nI 3) ) gX9_fix_X9_in rfl pd_X9_in ⟨rfl, rfl, Nat.le_of_ble_eq_true rfl, Nat.le_of_ble_eq_true rfl⟩ (sx_P0 D _) hK hl rfl rfl (Nat.le_of_ble_eq_true rfl) ⟨Nat.zero_le _, Nat.zero_le _⟩ dX9_fix_29 ?_
  refine n_top (show (nI (inb x (-1) (nI 3)).toNat) = (nI false.toNat) from by rw [inb_f hx]) ?_
  refine n_bne S (tgt := 41) dX9_fix_32 (by decide) (fun q => absurd q (by decide)) (fun _ => ?_)
  refine lv_aload_n S.1 S.2.1 dX9_fix_35 rfl (lv_at hl 0 rfl) ?_
  refine lv_iconst (v := (nI 2)) S.1 S.2.1 dX9_fix_36 (by decide) ?_
  refine wr_callVi (rest := []) S (w_X9_fails l D cT _ q bd 0 n ro cl fb rn nd sk mo wk fx wi la da we 2 (hwf) (hz)) gX9_fix_X9_fails rfl pd_X9_fails ⟨rfl, rfl, Nat.le_of_ble_eq_true rfl, Nat.le_of_ble_eq_true rfl⟩ hP hK hD hS hA (va_recv hK.1 hP (ci := 7) (q0 := 0) rfl rfl) hl rfl rfl (Nat.le_of_ble_eq_true rfl) ⟨Nat.zero_le _, Nat.zero_le _⟩ dX9_fix_37 (fun r_ u_ H locs hr_ hP hD hS => ?_)
  subst hr_
  have hP : va_P D vwCl (mX cT q 2 n ro cl fb rn nd sk mo wk fx wi la da we) H := hP
  have hD : va_D A (mX cT q 2 n ro cl fb rn nd sk mo wk fx wi la da we) := hD
  exact wr_iret S (()) hr rfl hlocks (rfl) (hP) (hD) hS dX9_fix_40

theorem w_X9_fix_1 : Cond.fieldLink RX9 29 "CoverSheetModel" "fixed" "[I" ∈ wsX9_fix := by decide +kernel
set_option maxHeartbeats 4000000 in
set_option maxRecDepth 100000 in
theorem w_X9_fix (l : Launch) (D : va_G) (cT : ClassId × ClassId × ClassId) (sz : Nat) (q : Nat → Nat) (bd th n ro cl fb rn : Nat) (nd sk mo wk fx wi la da we : Nat → Nat) (i : Nat) (d : Nat) (e : Nat) (hwf : wfC n bd fb rn nd sk mo wk fx wi la da we) (hz : ∀ b, b < 4 → bit fb (4 * b) = 0) (hi : i < n) (hd : d < 7) (he : e < 5) : Met l yX9_fix wsX9_fix ({ frames := 2, cells := 0, slots := 0, locals := 43 } : Room) (va_Pc [.ref (q 0), .int (nI i), .int (nI d), .int (nI e - nI 1)] (wr_R D (TY cT) (mX cT q th n ro cl fb rn nd sk mo wk fx wi la da we) sz)) (wQi (fun (r_ : Int32) (_ : Unit) => r_ = (nI (nib (fx i) d) - nI 1)) D (fun (_ : Unit) => mX cT q 0 n ro cl fb rn nd sk mo wk (va_up fx i (nset (fx i) d e)) wi la da we) (va_A (mX cT q th n ro cl fb rn nd sk mo wk fx wi la da we) sz)) 0 0 (va_A (mX cT q th n ro cl fb rn nd sk mo wk fx wi la da we) sz) := by
  refine wr_start (cc := cX9_fix) (maxL := 5) (ret := (some .int)) RX9 ⟨by decide +kernel, rfl⟩ rfl (Nat.le_of_ble_eq_true rfl) ?_
  intro p0 e0 s0 m0 a0 b0 t0 c0 S hr hlocks hin hP hK hA hD hS ls hl
  generalize va_A (mX cT q th n ro cl fb rn nd sk mo wk fx wi la da we) sz = A at hA hD hS ⊢
  have hl : lv_has ls 5 [(0, .ref (q 0)), (1, .int (nI i)), (2, .int (nI d)), (3, .int (nI e - nI 1))] := hl
  obtain ⟨hn, hcl, hfb, hrn, hnd, hper⟩ := id hwf
  refine lv_aload_n S.1 S.2.1 dX9_fix_0 rfl (lv_at hl 0 rfl) ?_
  refine lv_iconst (v := (nI 0)) S.1 S.2.1 dX9_fix_1 (by decide) ?_
  refine w_put (C := RX9) (T := TX9) (N := 15) (v := .int (nI 0)) (ty := .int) S 0 7 0 in_X9_fix_X9 tyX9 tyX9_ok nmX9 hK hP hD hS rfl rfl (by decide) w_X9_fix_0 rfl (by decide +kernel) rfl rfl (Nat.le_of_ble_eq_true rfl) dX9_fix_2 (fun H locs hP hD hS => ?_)
  have hP : va_P D vwCl (mX cT q 0 n ro cl fb rn nd sk mo wk fx wi la da we) H := hP
  have hD : va_D A (mX cT q 0 n ro cl fb rn nd sk mo wk fx wi la da we) := hD
  refine lv_aload_n S.1 S.2.1 dX9_fix_5 rfl (lv_at hl 0 rfl) ?_
  refine lv_iload_n S.1 S.2.1 dX9_fix_6 rfl (lv_at hl 1 rfl) ?_
  refine rd_callV (rest := []) S (r_X9_isPerson l D cT q bd 0 n ro cl fb rn nd sk mo wk fx wi la da we i (hwf) (hz) (by omega)) gX9_fix_X9_isPerson rfl pd_X9_isPerson ⟨rfl, rfl, Nat.le_of_ble_eq_true rfl, Nat.le_of_ble_eq_true rfl⟩ hP hK (va_recv hK.1 hP (ci := 7) (q0 := 0) rfl rfl) hl rfl rfl (Nat.le_of_ble_eq_true rfl) ⟨Nat.zero_le _, Nat.zero_le _⟩ dX9_fix_7 ?_
  refine n_beq S (tgt := 20) dX9_fix_10 (by decide) (fun q => absurd q (by decide)) (fun _ => ?_)
  refine lv_iload_n S.1 S.2.1 dX9_fix_13 rfl (lv_at hl 2 rfl) ?_
  refine rd_callS (rest := []) S (r_X9_isDay l D cT d (by omega)) gX9_fix_X9_isDay rfl pd_X9_isDay ⟨rfl, rfl, Nat.le_of_ble_eq_true rfl, Nat.le_of_ble_eq_true rfl⟩ (sx_P0 D _) hK hl rfl rfl (Nat.le_of_ble_eq_true rfl) ⟨Nat.zero_le _, Nat.zero_le _⟩ dX9_fix_14 ?_
  refine n_bne S (tgt := 26) dX9_fix_17 (by decide) (fun _ => ?_) (fun q => absurd q (by decide))
  refine lv_iload_n S.1 S.2.1 dX9_fix_26 rfl (lv_at hl 3 rfl) ?_
  refine lv_iconst (v := (-1)) S.1 S.2.1 dX9_fix_27 (by decide) ?_
  refine lv_iconst (v := (nI 3)) S.1 S.2.1 dX9_fix_28 (by decide) ?_
  refine rd_callS (rest := []) S (r_X9_in l D cT (nI e - nI 1) (-1) (nI 3) ) gX9_fix_X9_in rfl pd_X9_in ⟨rfl, rfl, Nat.le_of_ble_eq_true rfl, Nat.le_of_ble_eq_true rfl⟩ (sx_P0 D _) hK hl rfl rfl (Nat.le_of_ble_eq_true rfl) ⟨Nat.zero_le _, Nat.zero_le _⟩ dX9_fix_29 ?_
  refine n_top (show (nI (inb (nI e - nI 1) (-1) (nI 3)).toNat) = (nI true.toNat) from by rw [inb_F (by omega)]) ?_
  refine n_bne S (tgt := 41) dX9_fix_32 (by decide) (fun _ => ?_) (fun q => absurd q (by decide))
  refine lv_aload_n S.1 S.2.1 dX9_fix_41 rfl (lv_at hl 0 rfl) ?_
  refine g_get (C := RX9) (T := TX9) (N := 15) (v := .ref (q 6)) S 0 7 10 in_X9_fix_X9 hK hP rfl rfl (by decide) w_X9_fix_1 rfl dX9_fix_42 ?_
  refine lv_bipush (v := (nI 7)) S.1 S.2.1 dX9_fix_45 (by decide) ?_
  refine lv_iload_n S.1 S.2.1 dX9_fix_47 rfl (lv_at hl 1 rfl) ?_
  refine n_mul S dX9_fix_48 ?_
  refine lv_iload_n S.1 S.2.1 dX9_fix_49 rfl (lv_at hl 2 rfl) ?_
  refine n_add S dX9_fix_50 ?_
  refine g_ialdR S 6 hK hP rfl (by omega) dX9_fix_51 ?_
  refine n_top (show ((fun k => nI (fxf fx k) - nI 1) ((7 * i) + d)) = (nI (nib (fx i) d) - nI 1) from by show nI (fxf fx (7 * i + d)) - nI 1 = _; rw [fx_at hd]) ?_
  refine lv_istore (lv' := [(4, .int (nI (nib (fx i) d) - nI 1)), (0, .ref (q 0)), (1, .int (nI i)), (2, .int (nI d)), (3, .int (nI e - nI 1))]) S.1 S.2.1 dX9_fix_52 hl (by decide) rfl (fun ls hl => ?_)
  refine lv_aload_n S.1 S.2.1 dX9_fix_54 rfl (lv_at hl 1 rfl) ?_
  refine g_get (C := RX9) (T := TX9) (N := 15) (v := .ref (q 6)) S 0 7 10 in_X9_fix_X9 hK hP rfl rfl (by decide) w_X9_fix_1 rfl dX9_fix_55 ?_
  refine lv_bipush (v := (nI 7)) S.1 S.2.1 dX9_fix_58 (by decide) ?_
  refine lv_iload_n S.1 S.2.1 dX9_fix_60 rfl (lv_at hl 2 rfl) ?_
  refine n_mul S dX9_fix_61 ?_
  refine lv_iload_n S.1 S.2.1 dX9_fix_62 rfl (lv_at hl 3 rfl) ?_
  refine n_add S dX9_fix_63 ?_
  refine lv_iload_n S.1 S.2.1 dX9_fix_64 rfl (lv_at hl 4 rfl) ?_
  refine w_iastR S 6 hK hP hD hS rfl (by omega) dX9_fix_65 (fun H locs hP hD hS => ?_)
  have hP : va_P D vwCl (mX cT q 0 n ro cl fb rn nd sk mo wk (va_up fx i (nset (fx i) d e)) wi la da we) H := by rw [fx_up (fx := fx) (i := i) (d := d) (v := e) (by omega) (by omega)] at hP; exact hP
  have hD : va_D A (mX cT q 0 n ro cl fb rn nd sk mo wk (va_up fx i (nset (fx i) d e)) wi la da we) := by rw [fx_up (fx := fx) (i := i) (d := d) (v := e) (by omega) (by omega)] at hD; exact hD
  refine lv_iload S.1 S.2.1 dX9_fix_66 (lv_at hl 0 rfl) ?_
  exact wr_iret S (()) hr rfl hlocks (rfl) (hP) (hD) hS dX9_fix_68

theorem pd_X9_wish : yX9_wish.cls = RX9 ∧ yX9_wish.cls ≠ "java/lang/invoke/MethodHandle" ∧ yX9_wish.cls ≠ "java/lang/invoke/VarHandle" ∧ (parseMethodDescriptor yX9_wish.desc).map (fun d => d.parameters.length) = some 3 := by decide +kernel
theorem w_X9_wish_0 : Cond.fieldLink RX9 44 "CoverSheetModel" "thrown" "I" ∈ wsX9_wish := by decide +kernel
theorem in_X9_wish_X9 : ∀ w ∈ u_ws RX9 TX9 15, w ∈ wsX9_wish := by decide +kernel
set_option maxHeartbeats 4000000 in
set_option maxRecDepth 100000 in
theorem w_X9_wish_x0 (l : Launch) (D : va_G) (cT : ClassId × ClassId × ClassId) (sz : Nat) (q : Nat → Nat) (bd th n ro cl fb rn : Nat) (nd sk mo wk fx wi la da we : Nat → Nat) (x : Int32) (zd : Int32) (b : Bool) (hwf : wfC n bd fb rn nd sk mo wk fx wi la da we) (hz : ∀ b, b < 4 → bit fb (4 * b) = 0) (hx : PX x n) : Met l yX9_wish wsX9_wish ({ frames := 2, cells := 0, slots := 0, locals := 43 } : Room) (va_Pc [.ref (q 0), .int x, .int zd, .int (nI b.toNat)] (wr_R D (TY cT) (mX cT q th n ro cl fb rn nd sk mo wk fx wi la da we) sz)) (wQi (fun (r_ : Int32) (_ : Unit) => r_ = (nI false.toNat)) D (fun (_ : Unit) => mX cT q 1 n ro cl fb rn nd sk mo wk fx wi la da we) (va_A (mX cT q th n ro cl fb rn nd sk mo wk fx wi la da we) sz)) 0 0 (va_A (mX cT q th n ro cl fb rn nd sk mo wk fx wi la da we) sz) := by
  refine wr_start (cc := cX9_wish) (maxL := 5) (ret := (some .boolean)) RX9 ⟨by decide +kernel, rfl⟩ rfl (Nat.le_of_ble_eq_true rfl) ?_
  intro p0 e0 s0 m0 a0 b0 t0 c0 S hr hlocks hin hP hK hA hD hS ls hl
  generalize va_A (mX cT q th n ro cl fb rn nd sk mo wk fx wi la da we) sz = A at hA hD hS ⊢
  have hl : lv_has ls 5 [(0, .ref (q 0)), (1, .int x), (2, .int zd), (3, .int (nI b.toNat))] := hl
  obtain ⟨hn, hcl, hfb, hrn, hnd, hper⟩ := id hwf
  refine lv_aload_n S.1 S.2.1 dX9_wish_0 rfl (lv_at hl 0 rfl) ?_
  refine lv_aload_n S.1 S.2.1 dX9_wish_1 rfl (lv_at hl 0 rfl) ?_
  refine lv_iload_n S.1 S.2.1 dX9_wish_2 rfl (lv_at hl 1 rfl) ?_
  refine rd_callV (rest := [.ref (q 0)]) S (r_X9_isPerson_x l D cT q bd th n ro cl fb rn nd sk mo wk fx wi la da we x (hwf) (hz) (hx)) gX9_wish_X9_isPerson rfl pd_X9_isPerson ⟨rfl, rfl, Nat.le_of_ble_eq_true rfl, Nat.le_of_ble_eq_true rfl⟩ hP hK (va_recv hK.1 hP (ci := 7) (q0 := 0) rfl rfl) hl rfl rfl (Nat.le_of_ble_eq_true rfl) ⟨Nat.zero_le _, Nat.zero_le _⟩ dX9_wish_3 ?_
  refine n_beq S (tgt := 20) dX9_wish_6 (by decide) (fun _ => ?_) (fun q => absurd q (by decide))
  refine lv_iconst (v := (nI 1)) S.1 S.2.1 dX9_wish_20 (by decide) ?_
  refine w_put (C := RX9) (T := TX9) (N := 15) (v := .int (nI 1)) (ty := .int) S 0 7 0 in_X9_wish_X9 tyX9 tyX9_ok nmX9 hK hP hD hS rfl rfl (by decide) w_X9_wish_0 rfl (by decide +kernel) rfl rfl (Nat.le_of_ble_eq_true rfl) dX9_wish_21 (fun H locs hP hD hS => ?_)
  have hP : va_P D vwCl (mX cT q 1 n ro cl fb rn nd sk mo wk fx wi la da we) H := hP
  have hD : va_D A (mX cT q 1 n ro cl fb rn nd sk mo wk fx wi la da we) := hD
  refine lv_aload_n S.1 S.2.1 dX9_wish_24 rfl (lv_at hl 0 rfl) ?_
  refine g_get (C := RX9) (T := TX9) (N := 15) (v := .int (nI 1)) S 0 7 0 in_X9_wish_X9 hK hP rfl rfl (by decide) w_X9_wish_0 rfl dX9_wish_25 ?_
  refine n_zne S (tgt := 57) (by decide) dX9_wish_28 (by decide) (fun _ => ?_) (fun q => absurd q (by decide))
  refine lv_iconst (v := (nI 0)) S.1 S.2.1 dX9_wish_57 (by decide) ?_
  refine lv_istore (lv' := [(4, .int (nI 0)), (0, .ref (q 0)), (1, .int x), (2, .int zd), (3, .int (nI b.toNat))]) S.1 S.2.1 dX9_wish_58 hl (by decide) rfl (fun ls hl => ?_)
  refine lv_iload S.1 S.2.1 dX9_wish_60 (lv_at hl 0 rfl) ?_
  refine n_zeq S (tgt := 77) (by decide) dX9_wish_62 (by decide) (fun _ => ?_) (fun q => absurd q (by decide))
  refine lv_iload S.1 S.2.1 dX9_wish_77 (lv_at hl 0 rfl) ?_
  exact wr_iret S (()) hr (by decide) hlocks (rfl) (hP) (hD) hS dX9_wish_79

set_option maxHeartbeats 4000000 in
set_option maxRecDepth 100000 in
theorem w_X9_wish_x1 (l : Launch) (D : va_G) (cT : ClassId × ClassId × ClassId) (sz : Nat) (q : Nat → Nat) (bd th n ro cl fb rn : Nat) (nd sk mo wk fx wi la da we : Nat → Nat) (i : Nat) (x : Int32) (b : Bool) (hwf : wfC n bd fb rn nd sk mo wk fx wi la da we) (hz : ∀ b, b < 4 → bit fb (4 * b) = 0) (hi : i < n) (hx : PX x 7) : Met l yX9_wish wsX9_wish ({ frames := 2, cells := 0, slots := 0, locals := 43 } : Room) (va_Pc [.ref (q 0), .int (nI i), .int x, .int (nI b.toNat)] (wr_R D (TY cT) (mX cT q th n ro cl fb rn nd sk mo wk fx wi la da we) sz)) (wQi (fun (r_ : Int32) (_ : Unit) => r_ = (nI false.toNat)) D (fun (_ : Unit) => mX cT q 1 n ro cl fb rn nd sk mo wk fx wi la da we) (va_A (mX cT q th n ro cl fb rn nd sk mo wk fx wi la da we) sz)) 0 0 (va_A (mX cT q th n ro cl fb rn nd sk mo wk fx wi la da we) sz) := by
  refine wr_start (cc := cX9_wish) (maxL := 5) (ret := (some .boolean)) RX9 ⟨by decide +kernel, rfl⟩ rfl (Nat.le_of_ble_eq_true rfl) ?_
  intro p0 e0 s0 m0 a0 b0 t0 c0 S hr hlocks hin hP hK hA hD hS ls hl
  generalize va_A (mX cT q th n ro cl fb rn nd sk mo wk fx wi la da we) sz = A at hA hD hS ⊢
  have hl : lv_has ls 5 [(0, .ref (q 0)), (1, .int (nI i)), (2, .int x), (3, .int (nI b.toNat))] := hl
  obtain ⟨hn, hcl, hfb, hrn, hnd, hper⟩ := id hwf
  refine lv_aload_n S.1 S.2.1 dX9_wish_0 rfl (lv_at hl 0 rfl) ?_
  refine lv_aload_n S.1 S.2.1 dX9_wish_1 rfl (lv_at hl 0 rfl) ?_
  refine lv_iload_n S.1 S.2.1 dX9_wish_2 rfl (lv_at hl 1 rfl) ?_
  refine rd_callV (rest := [.ref (q 0)]) S (r_X9_isPerson l D cT q bd th n ro cl fb rn nd sk mo wk fx wi la da we i (hwf) (hz) (by omega)) gX9_wish_X9_isPerson rfl pd_X9_isPerson ⟨rfl, rfl, Nat.le_of_ble_eq_true rfl, Nat.le_of_ble_eq_true rfl⟩ hP hK (va_recv hK.1 hP (ci := 7) (q0 := 0) rfl rfl) hl rfl rfl (Nat.le_of_ble_eq_true rfl) ⟨Nat.zero_le _, Nat.zero_le _⟩ dX9_wish_3 ?_
  refine n_beq S (tgt := 20) dX9_wish_6 (by decide) (fun q => absurd q (by decide)) (fun _ => ?_)
  refine lv_iload_n S.1 S.2.1 dX9_wish_9 rfl (lv_at hl 2 rfl) ?_
  refine rd_callS (rest := [.ref (q 0)]) S (r_X9_isDay_x l D cT x (hx)) gX9_wish_X9_isDay rfl pd_X9_isDay ⟨rfl, rfl, Nat.le_of_ble_eq_true rfl, Nat.le_of_ble_eq_true rfl⟩ (sx_P0 D _) hK hl rfl rfl (Nat.le_of_ble_eq_true rfl) ⟨Nat.zero_le _, Nat.zero_le _⟩ dX9_wish_10 ?_
  refine n_beq S (tgt := 20) dX9_wish_13 (by decide) (fun _ => ?_) (fun q => absurd q (by decide))
  refine lv_iconst (v := (nI 1)) S.1 S.2.1 dX9_wish_20 (by decide) ?_
  refine w_put (C := RX9) (T := TX9) (N := 15) (v := .int (nI 1)) (ty := .int) S 0 7 0 in_X9_wish_X9 tyX9 tyX9_ok nmX9 hK hP hD hS rfl rfl (by decide) w_X9_wish_0 rfl (by decide +kernel) rfl rfl (Nat.le_of_ble_eq_true rfl) dX9_wish_21 (fun H locs hP hD hS => ?_)
  have hP : va_P D vwCl (mX cT q 1 n ro cl fb rn nd sk mo wk fx wi la da we) H := hP
  have hD : va_D A (mX cT q 1 n ro cl fb rn nd sk mo wk fx wi la da we) := hD
  refine lv_aload_n S.1 S.2.1 dX9_wish_24 rfl (lv_at hl 0 rfl) ?_
  refine g_get (C := RX9) (T := TX9) (N := 15) (v := .int (nI 1)) S 0 7 0 in_X9_wish_X9 hK hP rfl rfl (by decide) w_X9_wish_0 rfl dX9_wish_25 ?_
  refine n_zne S (tgt := 57) (by decide) dX9_wish_28 (by decide) (fun _ => ?_) (fun q => absurd q (by decide))
  refine lv_iconst (v := (nI 0)) S.1 S.2.1 dX9_wish_57 (by decide) ?_
  refine lv_istore (lv' := [(4, .int (nI 0)), (0, .ref (q 0)), (1, .int (nI i)), (2, .int x), (3, .int (nI b.toNat))]) S.1 S.2.1 dX9_wish_58 hl (by decide) rfl (fun ls hl => ?_)
  refine lv_iload S.1 S.2.1 dX9_wish_60 (lv_at hl 0 rfl) ?_
  refine n_zeq S (tgt := 77) (by decide) dX9_wish_62 (by decide) (fun _ => ?_) (fun q => absurd q (by decide))
  refine lv_iload S.1 S.2.1 dX9_wish_77 (lv_at hl 0 rfl) ?_
  exact wr_iret S (()) hr (by decide) hlocks (rfl) (hP) (hD) hS dX9_wish_79

theorem w_X9_wish_1 : Cond.fieldLink RX9 32 "CoverSheetModel" "wished" "[I" ∈ wsX9_wish := by decide +kernel
set_option maxHeartbeats 4000000 in
set_option maxRecDepth 100000 in
theorem w_X9_wish (l : Launch) (D : va_G) (cT : ClassId × ClassId × ClassId) (sz : Nat) (q : Nat → Nat) (bd th n ro cl fb rn : Nat) (nd sk mo wk fx wi la da we : Nat → Nat) (i : Nat) (d : Nat) (b : Bool) (hwf : wfC n bd fb rn nd sk mo wk fx wi la da we) (hz : ∀ b, b < 4 → bit fb (4 * b) = 0) (hi : i < n) (hd : d < 7) : Met l yX9_wish wsX9_wish ({ frames := 2, cells := 0, slots := 0, locals := 43 } : Room) (va_Pc [.ref (q 0), .int (nI i), .int (nI d), .int (nI b.toNat)] (wr_R D (TY cT) (mX cT q th n ro cl fb rn nd sk mo wk fx wi la da we) sz)) (wQi (fun (r_ : Int32) (_ : Unit) => r_ = (nI (bit (wi i) d != b.toNat).toNat)) D (fun (_ : Unit) => mX cT q 0 n ro cl fb rn nd sk mo wk fx (va_up wi i (bset (wi i) d b.toNat)) la da we) (va_A (mX cT q th n ro cl fb rn nd sk mo wk fx wi la da we) sz)) 0 0 (va_A (mX cT q th n ro cl fb rn nd sk mo wk fx wi la da we) sz) := by
  refine wr_start (cc := cX9_wish) (maxL := 5) (ret := (some .boolean)) RX9 ⟨by decide +kernel, rfl⟩ rfl (Nat.le_of_ble_eq_true rfl) ?_
  intro p0 e0 s0 m0 a0 b0 t0 c0 S hr hlocks hin hP hK hA hD hS ls hl
  generalize va_A (mX cT q th n ro cl fb rn nd sk mo wk fx wi la da we) sz = A at hA hD hS ⊢
  have hl : lv_has ls 5 [(0, .ref (q 0)), (1, .int (nI i)), (2, .int (nI d)), (3, .int (nI b.toNat))] := hl
  obtain ⟨hn, hcl, hfb, hrn, hnd, hper⟩ := id hwf
  have hpi := hper i
  refine lv_aload_n S.1 S.2.1 dX9_wish_0 rfl (lv_at hl 0 rfl) ?_
  refine lv_aload_n S.1 S.2.1 dX9_wish_1 rfl (lv_at hl 0 rfl) ?_
  refine lv_iload_n S.1 S.2.1 dX9_wish_2 rfl (lv_at hl 1 rfl) ?_
  refine rd_callV (rest := [.ref (q 0)]) S (r_X9_isPerson l D cT q bd th n ro cl fb rn nd sk mo wk fx wi la da we i (hwf) (hz) (by omega)) gX9_wish_X9_isPerson rfl pd_X9_isPerson ⟨rfl, rfl, Nat.le_of_ble_eq_true rfl, Nat.le_of_ble_eq_true rfl⟩ hP hK (va_recv hK.1 hP (ci := 7) (q0 := 0) rfl rfl) hl rfl rfl (Nat.le_of_ble_eq_true rfl) ⟨Nat.zero_le _, Nat.zero_le _⟩ dX9_wish_3 ?_
  refine n_beq S (tgt := 20) dX9_wish_6 (by decide) (fun q => absurd q (by decide)) (fun _ => ?_)
  refine lv_iload_n S.1 S.2.1 dX9_wish_9 rfl (lv_at hl 2 rfl) ?_
  refine rd_callS (rest := [.ref (q 0)]) S (r_X9_isDay l D cT d (by omega)) gX9_wish_X9_isDay rfl pd_X9_isDay ⟨rfl, rfl, Nat.le_of_ble_eq_true rfl, Nat.le_of_ble_eq_true rfl⟩ (sx_P0 D _) hK hl rfl rfl (Nat.le_of_ble_eq_true rfl) ⟨Nat.zero_le _, Nat.zero_le _⟩ dX9_wish_10 ?_
  refine n_beq S (tgt := 20) dX9_wish_13 (by decide) (fun q => absurd q (by decide)) (fun _ => ?_)
  refine lv_iconst (v := (nI 0)) S.1 S.2.1 dX9_wish_16 (by decide) ?_
  refine lv_goto (tgt := 21) S.1 S.2.1 dX9_wish_17 (by decide) ?_
  refine w_put (C := RX9) (T := TX9) (N := 15) (v := .int (nI 0)) (ty := .int) S 0 7 0 in_X9_wish_X9 tyX9 tyX9_ok nmX9 hK hP hD hS rfl rfl (by decide) w_X9_wish_0 rfl (by decide +kernel) rfl rfl (Nat.le_of_ble_eq_true rfl) dX9_wish_21 (fun H locs hP hD hS => ?_)
  have hP : va_P D vwCl (mX cT q 0 n ro cl fb rn nd sk mo wk fx wi la da we) H := hP
  have hD : va_D A (mX cT q 0 n ro cl fb rn nd sk mo wk fx wi la da we) := hD
  refine lv_aload_n S.1 S.2.1 dX9_wish_24 rfl (lv_at hl 0 rfl) ?_
  refine g_get (C := RX9) (T := TX9) (N := 15) (v := .int (nI 0)) S 0 7 0 in_X9_wish_X9 hK hP rfl rfl (by decide) w_X9_wish_0 rfl dX9_wish_25 ?_
  refine n_zne S (tgt := 57) (by decide) dX9_wish_28 (by decide) (fun q => absurd q (by decide)) (fun _ => ?_)
  refine lv_aload_n S.1 S.2.1 dX9_wish_31 rfl (lv_at hl 0 rfl) ?_
  refine g_get (C := RX9) (T := TX9) (N := 15) (v := .ref (q 7)) S 0 7 11 in_X9_wish_X9 hK hP rfl rfl (by decide) w_X9_wish_1 rfl dX9_wish_32 ?_
  refine lv_iload_n S.1 S.2.1 dX9_wish_35 rfl (lv_at hl 1 rfl) ?_
  refine g_iald S 7 hK hP rfl (by omega) dX9_wish_36 ?_
  refine lv_iload_n S.1 S.2.1 dX9_wish_37 rfl (lv_at hl 2 rfl) ?_
  refine n_shr S (by omega) dX9_wish_38 ?_
  refine lv_iconst (v := (nI 1)) S.1 S.2.1 dX9_wish_39 (by decide) ?_
  refine n_and S dX9_wish_40 ?_
  refine n_top (show (nI (((wi i) / 2 ^ d) &&& 1)) = (nI (bit (wi i) d)) from congrArg nI (Nat.and_one_is_mod _)) ?_
  refine lv_iload_n S.1 S.2.1 dX9_wish_41 rfl (lv_at hl 3 rfl) ?_
  refine n_beq S (tgt := 49) dX9_wish_42 (by decide) (fun c42 => ?_) (fun c42 => ?_)
  · refine lv_iconst (v := (nI 0)) S.1 S.2.1 dX9_wish_49 (by decide) ?_
    refine n_ceq S (tgt := 57) (⟨Nat.lt_trans (bit_lt _ _) (by decide), by decide⟩) dX9_wish_50 (by decide) (fun c50 => ?_) (fun c50 => ?_)
    · refine lv_iconst (v := (nI 0)) S.1 S.2.1 dX9_wish_57 (by decide) ?_
      refine lv_istore (lv' := [(4, .int (nI 0)), (0, .ref (q 0)), (1, .int (nI i)), (2, .int (nI d)), (3, .int (nI b.toNat))]) S.1 S.2.1 dX9_wish_58 hl (by decide) rfl (fun ls hl => ?_)
      refine lv_iload S.1 S.2.1 dX9_wish_60 (lv_at hl 0 rfl) ?_
      refine n_zeq S (tgt := 77) (by decide) dX9_wish_62 (by decide) (fun _ => ?_) (fun q => absurd q (by decide))
      refine lv_iload S.1 S.2.1 dX9_wish_77 (lv_at hl 0 rfl) ?_
      exact wr_iret S (()) hr (by decide) hlocks (r_f (fun h => by rw [c42] at h; exact (bne_iff_ne.mp h) c50)) (by rw [bs_same (x := wi i) (k := d) (b := b.toNat) (by rw [c42]; exact c50), vu_id]; exact hP) (by rw [bs_same (x := wi i) (k := d) (b := b.toNat) (by rw [c42]; exact c50), vu_id]; exact hD) hS dX9_wish_79
    · refine lv_iconst (v := (nI 1)) S.1 S.2.1 dX9_wish_53 (by decide) ?_
      refine lv_goto (tgt := 58) S.1 S.2.1 dX9_wish_54 (by decide) ?_
      refine lv_istore (lv' := [(4, .int (nI 1)), (0, .ref (q 0)), (1, .int (nI i)), (2, .int (nI d)), (3, .int (nI b.toNat))]) S.1 S.2.1 dX9_wish_58 hl (by decide) rfl (fun ls hl => ?_)
      refine lv_iload S.1 S.2.1 dX9_wish_60 (lv_at hl 0 rfl) ?_
      refine n_zeq S (tgt := 77) (by decide) dX9_wish_62 (by decide) (fun q => absurd q (by decide)) (fun _ => ?_)
      refine lv_aload_n S.1 S.2.1 dX9_wish_65 rfl (lv_at hl 1 rfl) ?_
      refine g_get (C := RX9) (T := TX9) (N := 15) (v := .ref (q 7)) S 0 7 11 in_X9_wish_X9 hK hP rfl rfl (by decide) w_X9_wish_1 rfl dX9_wish_66 ?_
      refine lv_iload_n S.1 S.2.1 dX9_wish_69 rfl (lv_at hl 2 rfl) ?_
      refine lv_dup2_11 S.1 S.2.1 dX9_wish_70 rfl rfl ?_
      refine g_iald S 7 hK hP rfl (by omega) dX9_wish_71 ?_
      refine lv_iconst (v := (nI 1)) S.1 S.2.1 dX9_wish_72 (by decide) ?_
      refine lv_iload_n S.1 S.2.1 dX9_wish_73 rfl (lv_at hl 3 rfl) ?_
      refine n_shl S (by omega) dX9_wish_74 ?_
      refine lv_ixor S.1 S.2.1 dX9_wish_75 ?_
      refine n_top (sx_xor _ _) ?_
      refine w_iast S 7 hK hP hD hS rfl (by omega) dX9_wish_76 (fun H locs hP hD hS => ?_)
      have hP : va_P D vwCl (mX cT q 0 n ro cl fb rn nd sk mo wk fx (va_up wi i ((wi i) ^^^ (1 * 2 ^ d))) la da we) H := hP
      have hD : va_D A (mX cT q 0 n ro cl fb rn nd sk mo wk fx (va_up wi i ((wi i) ^^^ (1 * 2 ^ d))) la da we) := hD
      refine lv_iload S.1 S.2.1 dX9_wish_77 (lv_at hl 0 rfl) ?_
      exact wr_iret S (()) hr (by decide) hlocks (r_t (by rw [c42]; exact bne_iff_ne.mpr c50)) (by rw [show bset (wi i) d b.toNat = wi i ^^^ 1 * 2 ^ d from (bs_xor (by have := Bool.toNat_le b; omega) (by rw [c42]; exact c50)).symm]; exact hP) (by rw [show bset (wi i) d b.toNat = wi i ^^^ 1 * 2 ^ d from (bs_xor (by have := Bool.toNat_le b; omega) (by rw [c42]; exact c50)).symm]; exact hD) hS dX9_wish_79
  · refine lv_iconst (v := (nI 1)) S.1 S.2.1 dX9_wish_45 (by decide) ?_
    refine lv_goto (tgt := 50) S.1 S.2.1 dX9_wish_46 (by decide) ?_
    refine n_ceq S (tgt := 57) (⟨Nat.lt_trans (bit_lt _ _) (by decide), by decide⟩) dX9_wish_50 (by decide) (fun c50 => ?_) (fun c50 => ?_)
    · refine lv_iconst (v := (nI 0)) S.1 S.2.1 dX9_wish_57 (by decide) ?_
      refine lv_istore (lv' := [(4, .int (nI 0)), (0, .ref (q 0)), (1, .int (nI i)), (2, .int (nI d)), (3, .int (nI b.toNat))]) S.1 S.2.1 dX9_wish_58 hl (by decide) rfl (fun ls hl => ?_)
      refine lv_iload S.1 S.2.1 dX9_wish_60 (lv_at hl 0 rfl) ?_
      refine n_zeq S (tgt := 77) (by decide) dX9_wish_62 (by decide) (fun _ => ?_) (fun q => absurd q (by decide))
      refine lv_iload S.1 S.2.1 dX9_wish_77 (lv_at hl 0 rfl) ?_
      exact wr_iret S (()) hr (by decide) hlocks (r_f (fun h => by rw [c42] at h; exact (bne_iff_ne.mp h) c50)) (by rw [bs_same (x := wi i) (k := d) (b := b.toNat) (by rw [c42]; exact c50), vu_id]; exact hP) (by rw [bs_same (x := wi i) (k := d) (b := b.toNat) (by rw [c42]; exact c50), vu_id]; exact hD) hS dX9_wish_79
    · refine lv_iconst (v := (nI 1)) S.1 S.2.1 dX9_wish_53 (by decide) ?_
      refine lv_goto (tgt := 58) S.1 S.2.1 dX9_wish_54 (by decide) ?_
      refine lv_istore (lv' := [(4, .int (nI 1)), (0, .ref (q 0)), (1, .int (nI i)), (2, .int (nI d)), (3, .int (nI b.toNat))]) S.1 S.2.1 dX9_wish_58 hl (by decide) rfl (fun ls hl => ?_)
      refine lv_iload S.1 S.2.1 dX9_wish_60 (lv_at hl 0 rfl) ?_
      refine n_zeq S (tgt := 77) (by decide) dX9_wish_62 (by decide) (fun q => absurd q (by decide)) (fun _ => ?_)
      refine lv_aload_n S.1 S.2.1 dX9_wish_65 rfl (lv_at hl 1 rfl) ?_
      refine g_get (C := RX9) (T := TX9) (N := 15) (v := .ref (q 7)) S 0 7 11 in_X9_wish_X9 hK hP rfl rfl (by decide) w_X9_wish_1 rfl dX9_wish_66 ?_
      refine lv_iload_n S.1 S.2.1 dX9_wish_69 rfl (lv_at hl 2 rfl) ?_
      refine lv_dup2_11 S.1 S.2.1 dX9_wish_70 rfl rfl ?_
      refine g_iald S 7 hK hP rfl (by omega) dX9_wish_71 ?_
      refine lv_iconst (v := (nI 1)) S.1 S.2.1 dX9_wish_72 (by decide) ?_
      refine lv_iload_n S.1 S.2.1 dX9_wish_73 rfl (lv_at hl 3 rfl) ?_
      refine n_shl S (by omega) dX9_wish_74 ?_
      refine lv_ixor S.1 S.2.1 dX9_wish_75 ?_
      refine n_top (sx_xor _ _) ?_
      refine w_iast S 7 hK hP hD hS rfl (by omega) dX9_wish_76 (fun H locs hP hD hS => ?_)
      have hP : va_P D vwCl (mX cT q 0 n ro cl fb rn nd sk mo wk fx (va_up wi i ((wi i) ^^^ (1 * 2 ^ d))) la da we) H := hP
      have hD : va_D A (mX cT q 0 n ro cl fb rn nd sk mo wk fx (va_up wi i ((wi i) ^^^ (1 * 2 ^ d))) la da we) := hD
      refine lv_iload S.1 S.2.1 dX9_wish_77 (lv_at hl 0 rfl) ?_
      exact wr_iret S (()) hr (by decide) hlocks (r_t (by rw [c42]; exact bne_iff_ne.mpr c50)) (by rw [show bset (wi i) d b.toNat = wi i ^^^ 1 * 2 ^ d from (bs_xor (by have := Bool.toNat_le b; omega) (by rw [c42]; exact c50)).symm]; exact hP) (by rw [show bset (wi i) d b.toNat = wi i ^^^ 1 * 2 ^ d from (bs_xor (by have := Bool.toNat_le b; omega) (by rw [c42]; exact c50)).symm]; exact hD) hS dX9_wish_79

theorem pd_X9_thrown : yX9_thrown.cls = RX9 ∧ yX9_thrown.cls ≠ "java/lang/invoke/MethodHandle" ∧ yX9_thrown.cls ≠ "java/lang/invoke/VarHandle" ∧ (parseMethodDescriptor yX9_thrown.desc).map (fun d => d.parameters.length) = some 0 := by decide +kernel
theorem w_X9_thrown_0 : Cond.fieldLink RX9 44 "CoverSheetModel" "thrown" "I" ∈ wsX9_thrown := by decide +kernel
theorem in_X9_thrown_X9 : ∀ w ∈ u_ws RX9 TX9 15, w ∈ wsX9_thrown := by decide +kernel
set_option maxHeartbeats 4000000 in
set_option maxRecDepth 100000 in
theorem w_X9_thrown (l : Launch) (D : va_G) (cT : ClassId × ClassId × ClassId) (sz : Nat) (q : Nat → Nat) (bd th n ro cl fb rn : Nat) (nd sk mo wk fx wi la da we : Nat → Nat) (hwf : wfC n bd fb rn nd sk mo wk fx wi la da we) (hz : ∀ b, b < 4 → bit fb (4 * b) = 0) : Met l yX9_thrown wsX9_thrown ({ frames := 0, cells := 0, slots := 0, locals := 0 } : Room) (va_Pc [.ref (q 0)] (wr_R D (TY cT) (mX cT q th n ro cl fb rn nd sk mo wk fx wi la da we) sz)) (wQi (fun (r_ : Int32) (_ : Unit) => r_ = (nI th)) D (fun (_ : Unit) => mX cT q th n ro cl fb rn nd sk mo wk fx wi la da we) (va_A (mX cT q th n ro cl fb rn nd sk mo wk fx wi la da we) sz)) 0 0 (va_A (mX cT q th n ro cl fb rn nd sk mo wk fx wi la da we) sz) := by
  refine wr_start (cc := cX9_thrown) (maxL := 1) (ret := (some .int)) RX9 ⟨by decide +kernel, rfl⟩ rfl (Nat.le_of_ble_eq_true rfl) ?_
  intro p0 e0 s0 m0 a0 b0 t0 c0 S hr hlocks hin hP hK hA hD hS ls hl
  generalize va_A (mX cT q th n ro cl fb rn nd sk mo wk fx wi la da we) sz = A at hA hD hS ⊢
  have hl : lv_has ls 1 [(0, .ref (q 0))] := hl
  obtain ⟨hn, hcl, hfb, hrn, hnd, hper⟩ := id hwf
  refine lv_aload_n S.1 S.2.1 dX9_thrown_0 rfl (lv_at hl 0 rfl) ?_
  refine g_get (C := RX9) (T := TX9) (N := 15) (v := .int (nI th)) S 0 7 0 in_X9_thrown_X9 hK hP rfl rfl (by decide) w_X9_thrown_0 rfl dX9_thrown_1 ?_
  exact wr_iret S (()) hr rfl hlocks (rfl) (hP) (hD) hS dX9_thrown_4

theorem pd_X9_rounds : yX9_rounds.cls = RX9 ∧ yX9_rounds.cls ≠ "java/lang/invoke/MethodHandle" ∧ yX9_rounds.cls ≠ "java/lang/invoke/VarHandle" ∧ (parseMethodDescriptor yX9_rounds.desc).map (fun d => d.parameters.length) = some 0 := by decide +kernel
theorem w_X9_rounds_0 : Cond.fieldLink RX9 44 "CoverSheetModel" "thrown" "I" ∈ wsX9_rounds := by decide +kernel
theorem w_X9_rounds_1 : Cond.fieldLink RX9 99 "CoverSheetModel" "rounds" "I" ∈ wsX9_rounds := by decide +kernel
theorem in_X9_rounds_X9 : ∀ w ∈ u_ws RX9 TX9 15, w ∈ wsX9_rounds := by decide +kernel
set_option maxHeartbeats 4000000 in
set_option maxRecDepth 100000 in
theorem w_X9_rounds (l : Launch) (D : va_G) (cT : ClassId × ClassId × ClassId) (sz : Nat) (q : Nat → Nat) (bd th n ro cl fb rn : Nat) (nd sk mo wk fx wi la da we : Nat → Nat) (hwf : wfC n bd fb rn nd sk mo wk fx wi la da we) (hz : ∀ b, b < 4 → bit fb (4 * b) = 0) : Met l yX9_rounds wsX9_rounds ({ frames := 0, cells := 0, slots := 0, locals := 0 } : Room) (va_Pc [.ref (q 0)] (wr_R D (TY cT) (mX cT q th n ro cl fb rn nd sk mo wk fx wi la da we) sz)) (wQi (fun (r_ : Int32) (_ : Unit) => r_ = (nI ro)) D (fun (_ : Unit) => mX cT q 0 n ro cl fb rn nd sk mo wk fx wi la da we) (va_A (mX cT q th n ro cl fb rn nd sk mo wk fx wi la da we) sz)) 0 0 (va_A (mX cT q th n ro cl fb rn nd sk mo wk fx wi la da we) sz) := by
  refine wr_start (cc := cX9_rounds) (maxL := 1) (ret := (some .int)) RX9 ⟨by decide +kernel, rfl⟩ rfl (Nat.le_of_ble_eq_true rfl) ?_
  intro p0 e0 s0 m0 a0 b0 t0 c0 S hr hlocks hin hP hK hA hD hS ls hl
  generalize va_A (mX cT q th n ro cl fb rn nd sk mo wk fx wi la da we) sz = A at hA hD hS ⊢
  have hl : lv_has ls 1 [(0, .ref (q 0))] := hl
  obtain ⟨hn, hcl, hfb, hrn, hnd, hper⟩ := id hwf
  refine lv_aload_n S.1 S.2.1 dX9_rounds_0 rfl (lv_at hl 0 rfl) ?_
  refine lv_iconst (v := (nI 0)) S.1 S.2.1 dX9_rounds_1 (by decide) ?_
  refine w_put (C := RX9) (T := TX9) (N := 15) (v := .int (nI 0)) (ty := .int) S 0 7 0 in_X9_rounds_X9 tyX9 tyX9_ok nmX9 hK hP hD hS rfl rfl (by decide) w_X9_rounds_0 rfl (by decide +kernel) rfl rfl (Nat.le_of_ble_eq_true rfl) dX9_rounds_2 (fun H locs hP hD hS => ?_)
  have hP : va_P D vwCl (mX cT q 0 n ro cl fb rn nd sk mo wk fx wi la da we) H := hP
  have hD : va_D A (mX cT q 0 n ro cl fb rn nd sk mo wk fx wi la da we) := hD
  refine lv_aload_n S.1 S.2.1 dX9_rounds_5 rfl (lv_at hl 0 rfl) ?_
  refine g_get (C := RX9) (T := TX9) (N := 15) (v := .int (nI ro)) S 0 7 3 in_X9_rounds_X9 hK hP rfl rfl (by decide) w_X9_rounds_1 rfl dX9_rounds_6 ?_
  exact wr_iret S (()) hr rfl hlocks (rfl) (hP) (hD) hS dX9_rounds_9

theorem pd_X9_people : yX9_people.cls = RX9 ∧ yX9_people.cls ≠ "java/lang/invoke/MethodHandle" ∧ yX9_people.cls ≠ "java/lang/invoke/VarHandle" ∧ (parseMethodDescriptor yX9_people.desc).map (fun d => d.parameters.length) = some 0 := by decide +kernel
theorem w_X9_people_0 : Cond.fieldLink RX9 44 "CoverSheetModel" "thrown" "I" ∈ wsX9_people := by decide +kernel
theorem w_X9_people_1 : Cond.fieldLink RX9 47 "CoverSheetModel" "many" "I" ∈ wsX9_people := by decide +kernel
theorem in_X9_people_X9 : ∀ w ∈ u_ws RX9 TX9 15, w ∈ wsX9_people := by decide +kernel
set_option maxHeartbeats 4000000 in
set_option maxRecDepth 100000 in
theorem w_X9_people (l : Launch) (D : va_G) (cT : ClassId × ClassId × ClassId) (sz : Nat) (q : Nat → Nat) (bd th n ro cl fb rn : Nat) (nd sk mo wk fx wi la da we : Nat → Nat) (hwf : wfC n bd fb rn nd sk mo wk fx wi la da we) (hz : ∀ b, b < 4 → bit fb (4 * b) = 0) : Met l yX9_people wsX9_people ({ frames := 0, cells := 0, slots := 0, locals := 0 } : Room) (va_Pc [.ref (q 0)] (wr_R D (TY cT) (mX cT q th n ro cl fb rn nd sk mo wk fx wi la da we) sz)) (wQi (fun (r_ : Int32) (_ : Unit) => r_ = (nI n)) D (fun (_ : Unit) => mX cT q 0 n ro cl fb rn nd sk mo wk fx wi la da we) (va_A (mX cT q th n ro cl fb rn nd sk mo wk fx wi la da we) sz)) 0 0 (va_A (mX cT q th n ro cl fb rn nd sk mo wk fx wi la da we) sz) := by
  refine wr_start (cc := cX9_people) (maxL := 1) (ret := (some .int)) RX9 ⟨by decide +kernel, rfl⟩ rfl (Nat.le_of_ble_eq_true rfl) ?_
  intro p0 e0 s0 m0 a0 b0 t0 c0 S hr hlocks hin hP hK hA hD hS ls hl
  generalize va_A (mX cT q th n ro cl fb rn nd sk mo wk fx wi la da we) sz = A at hA hD hS ⊢
  have hl : lv_has ls 1 [(0, .ref (q 0))] := hl
  obtain ⟨hn, hcl, hfb, hrn, hnd, hper⟩ := id hwf
  refine lv_aload_n S.1 S.2.1 dX9_people_0 rfl (lv_at hl 0 rfl) ?_
  refine lv_iconst (v := (nI 0)) S.1 S.2.1 dX9_people_1 (by decide) ?_
  refine w_put (C := RX9) (T := TX9) (N := 15) (v := .int (nI 0)) (ty := .int) S 0 7 0 in_X9_people_X9 tyX9 tyX9_ok nmX9 hK hP hD hS rfl rfl (by decide) w_X9_people_0 rfl (by decide +kernel) rfl rfl (Nat.le_of_ble_eq_true rfl) dX9_people_2 (fun H locs hP hD hS => ?_)
  have hP : va_P D vwCl (mX cT q 0 n ro cl fb rn nd sk mo wk fx wi la da we) H := hP
  have hD : va_D A (mX cT q 0 n ro cl fb rn nd sk mo wk fx wi la da we) := hD
  refine lv_aload_n S.1 S.2.1 dX9_people_5 rfl (lv_at hl 0 rfl) ?_
  refine g_get (C := RX9) (T := TX9) (N := 15) (v := .int (nI n)) S 0 7 1 in_X9_people_X9 hK hP rfl rfl (by decide) w_X9_people_1 rfl dX9_people_6 ?_
  exact wr_iret S (()) hr rfl hlocks (rfl) (hP) (hD) hS dX9_people_9

theorem pd_X9_gaps : yX9_gaps.cls = RX9 ∧ yX9_gaps.cls ≠ "java/lang/invoke/MethodHandle" ∧ yX9_gaps.cls ≠ "java/lang/invoke/VarHandle" ∧ (parseMethodDescriptor yX9_gaps.desc).map (fun d => d.parameters.length) = some 0 := by decide +kernel
theorem w_X9_gaps_0 : Cond.fieldLink RX9 44 "CoverSheetModel" "thrown" "I" ∈ wsX9_gaps := by decide +kernel
theorem in_X9_gaps_X9 : ∀ w ∈ u_ws RX9 TX9 15, w ∈ wsX9_gaps := by decide +kernel
set_option maxHeartbeats 4000000 in
set_option maxRecDepth 100000 in
theorem w_X9_gaps (l : Launch) (D : va_G) (cT : ClassId × ClassId × ClassId) (sz : Nat) (q : Nat → Nat) (bd th n ro cl fb rn : Nat) (nd sk mo wk fx wi la da we : Nat → Nat) (hwf : wfC n bd fb rn nd sk mo wk fx wi la da we) (hz : ∀ b, b < 4 → bit fb (4 * b) = 0) : Met l yX9_gaps wsX9_gaps ({ frames := 3, cells := 0, slots := 0, locals := 72 } : Room) (va_Pc [.ref (q 0)] (wr_R D (TY cT) (mX cT q th n ro cl fb rn nd sk mo wk fx wi la da we) sz)) (wQi (fun (r_ : Int32) (_ : Unit) => r_ = (nI (gpd n nd wk 7))) D (fun (_ : Unit) => mX cT q 0 n ro cl fb rn nd sk mo wk fx wi la da we) (va_A (mX cT q th n ro cl fb rn nd sk mo wk fx wi la da we) sz)) 0 0 (va_A (mX cT q th n ro cl fb rn nd sk mo wk fx wi la da we) sz) := by
  refine wr_start (cc := cX9_gaps) (maxL := 1) (ret := (some .int)) RX9 ⟨by decide +kernel, rfl⟩ rfl (Nat.le_of_ble_eq_true rfl) ?_
  intro p0 e0 s0 m0 a0 b0 t0 c0 S hr hlocks hin hP hK hA hD hS ls hl
  generalize va_A (mX cT q th n ro cl fb rn nd sk mo wk fx wi la da we) sz = A at hA hD hS ⊢
  have hl : lv_has ls 1 [(0, .ref (q 0))] := hl
  obtain ⟨hn, hcl, hfb, hrn, hnd, hper⟩ := id hwf
  refine lv_aload_n S.1 S.2.1 dX9_gaps_0 rfl (lv_at hl 0 rfl) ?_
  refine lv_iconst (v := (nI 0)) S.1 S.2.1 dX9_gaps_1 (by decide) ?_
  refine w_put (C := RX9) (T := TX9) (N := 15) (v := .int (nI 0)) (ty := .int) S 0 7 0 in_X9_gaps_X9 tyX9 tyX9_ok nmX9 hK hP hD hS rfl rfl (by decide) w_X9_gaps_0 rfl (by decide +kernel) rfl rfl (Nat.le_of_ble_eq_true rfl) dX9_gaps_2 (fun H locs hP hD hS => ?_)
  have hP : va_P D vwCl (mX cT q 0 n ro cl fb rn nd sk mo wk fx wi la da we) H := hP
  have hD : va_D A (mX cT q 0 n ro cl fb rn nd sk mo wk fx wi la da we) := hD
  refine lv_aload_n S.1 S.2.1 dX9_gaps_5 rfl (lv_at hl 0 rfl) ?_
  refine rd_callV (rest := []) S (r_X9_allGaps l D cT q bd 0 n ro cl fb rn nd sk mo wk fx wi la da we (hwf) (hz)) gX9_gaps_X9_allGaps rfl pd_X9_allGaps ⟨rfl, rfl, Nat.le_of_ble_eq_true rfl, Nat.le_of_ble_eq_true rfl⟩ hP hK (va_recv hK.1 hP (ci := 7) (q0 := 0) rfl rfl) hl rfl rfl (Nat.le_of_ble_eq_true rfl) ⟨Nat.zero_le _, Nat.zero_le _⟩ dX9_gaps_6 ?_
  exact wr_iret S (()) hr rfl hlocks (rfl) (hP) (hD) hS dX9_gaps_9

theorem pd_X9_entry : yX9_entry.cls = RX9 ∧ yX9_entry.cls ≠ "java/lang/invoke/MethodHandle" ∧ yX9_entry.cls ≠ "java/lang/invoke/VarHandle" ∧ (parseMethodDescriptor yX9_entry.desc).map (fun d => d.parameters.length) = some 2 := by decide +kernel
theorem w_X9_entry_0 : Cond.fieldLink RX9 44 "CoverSheetModel" "thrown" "I" ∈ wsX9_entry := by decide +kernel
theorem in_X9_entry_X9 : ∀ w ∈ u_ws RX9 TX9 15, w ∈ wsX9_entry := by decide +kernel
set_option maxHeartbeats 4000000 in
set_option maxRecDepth 100000 in
theorem w_X9_entry_x0 (l : Launch) (D : va_G) (cT : ClassId × ClassId × ClassId) (sz : Nat) (q : Nat → Nat) (bd th n ro cl fb rn : Nat) (nd sk mo wk fx wi la da we : Nat → Nat) (x : Int32) (zd : Int32) (hwf : wfC n bd fb rn nd sk mo wk fx wi la da we) (hz : ∀ b, b < 4 → bit fb (4 * b) = 0) (hx : PX x n) : Met l yX9_entry wsX9_entry ({ frames := 2, cells := 0, slots := 0, locals := 43 } : Room) (va_Pc [.ref (q 0), .int x, .int zd] (wr_R D (TY cT) (mX cT q th n ro cl fb rn nd sk mo wk fx wi la da we) sz)) (wQi (fun (r_ : Int32) (_ : Unit) => r_ = (nI 0)) D (fun (_ : Unit) => mX cT q 1 n ro cl fb rn nd sk mo wk fx wi la da we) (va_A (mX cT q th n ro cl fb rn nd sk mo wk fx wi la da we) sz)) 0 0 (va_A (mX cT q th n ro cl fb rn nd sk mo wk fx wi la da we) sz) := by
  refine wr_start (cc := cX9_entry) (maxL := 3) (ret := (some .int)) RX9 ⟨by decide +kernel, rfl⟩ rfl (Nat.le_of_ble_eq_true rfl) ?_
  intro p0 e0 s0 m0 a0 b0 t0 c0 S hr hlocks hin hP hK hA hD hS ls hl
  generalize va_A (mX cT q th n ro cl fb rn nd sk mo wk fx wi la da we) sz = A at hA hD hS ⊢
  have hl : lv_has ls 3 [(0, .ref (q 0)), (1, .int x), (2, .int zd)] := hl
  obtain ⟨hn, hcl, hfb, hrn, hnd, hper⟩ := id hwf
  refine lv_aload_n S.1 S.2.1 dX9_entry_0 rfl (lv_at hl 0 rfl) ?_
  refine lv_iconst (v := (nI 0)) S.1 S.2.1 dX9_entry_1 (by decide) ?_
  refine w_put (C := RX9) (T := TX9) (N := 15) (v := .int (nI 0)) (ty := .int) S 0 7 0 in_X9_entry_X9 tyX9 tyX9_ok nmX9 hK hP hD hS rfl rfl (by decide) w_X9_entry_0 rfl (by decide +kernel) rfl rfl (Nat.le_of_ble_eq_true rfl) dX9_entry_2 (fun H locs hP hD hS => ?_)
  have hP : va_P D vwCl (mX cT q 0 n ro cl fb rn nd sk mo wk fx wi la da we) H := hP
  have hD : va_D A (mX cT q 0 n ro cl fb rn nd sk mo wk fx wi la da we) := hD
  refine lv_aload_n S.1 S.2.1 dX9_entry_5 rfl (lv_at hl 0 rfl) ?_
  refine lv_iload_n S.1 S.2.1 dX9_entry_6 rfl (lv_at hl 1 rfl) ?_
  refine rd_callV (rest := []) S (r_X9_isPerson_x l D cT q bd 0 n ro cl fb rn nd sk mo wk fx wi la da we x (hwf) (hz) (hx)) gX9_entry_X9_isPerson rfl pd_X9_isPerson ⟨rfl, rfl, Nat.le_of_ble_eq_true rfl, Nat.le_of_ble_eq_true rfl⟩ hP hK (va_recv hK.1 hP (ci := 7) (q0 := 0) rfl rfl) hl rfl rfl (Nat.le_of_ble_eq_true rfl) ⟨Nat.zero_le _, Nat.zero_le _⟩ dX9_entry_7 ?_
  refine n_beq S (tgt := 34) dX9_entry_10 (by decide) (fun _ => ?_) (fun q => absurd q (by decide))
  refine lv_aload_n S.1 S.2.1 dX9_entry_34 rfl (lv_at hl 0 rfl) ?_
  refine lv_iconst (v := (nI 1)) S.1 S.2.1 dX9_entry_35 (by decide) ?_
  refine wr_callVi (rest := []) S (w_X9_fails l D cT _ q bd 0 n ro cl fb rn nd sk mo wk fx wi la da we 1 (hwf) (hz)) gX9_entry_X9_fails rfl pd_X9_fails ⟨rfl, rfl, Nat.le_of_ble_eq_true rfl, Nat.le_of_ble_eq_true rfl⟩ hP hK hD hS hA (va_recv hK.1 hP (ci := 7) (q0 := 0) rfl rfl) hl rfl rfl (Nat.le_of_ble_eq_true rfl) ⟨Nat.zero_le _, Nat.zero_le _⟩ dX9_entry_36 (fun r_ u_ H locs hr_ hP hD hS => ?_)
  subst hr_
  have hP : va_P D vwCl (mX cT q 1 n ro cl fb rn nd sk mo wk fx wi la da we) H := hP
  have hD : va_D A (mX cT q 1 n ro cl fb rn nd sk mo wk fx wi la da we) := hD
  exact wr_iret S (()) hr rfl hlocks (rfl) (hP) (hD) hS dX9_entry_39

set_option maxHeartbeats 4000000 in
set_option maxRecDepth 100000 in
theorem w_X9_entry_x1 (l : Launch) (D : va_G) (cT : ClassId × ClassId × ClassId) (sz : Nat) (q : Nat → Nat) (bd th n ro cl fb rn : Nat) (nd sk mo wk fx wi la da we : Nat → Nat) (i : Nat) (x : Int32) (hwf : wfC n bd fb rn nd sk mo wk fx wi la da we) (hz : ∀ b, b < 4 → bit fb (4 * b) = 0) (hi : i < n) (hx : PX x 7) : Met l yX9_entry wsX9_entry ({ frames := 2, cells := 0, slots := 0, locals := 43 } : Room) (va_Pc [.ref (q 0), .int (nI i), .int x] (wr_R D (TY cT) (mX cT q th n ro cl fb rn nd sk mo wk fx wi la da we) sz)) (wQi (fun (r_ : Int32) (_ : Unit) => r_ = (nI 0)) D (fun (_ : Unit) => mX cT q 1 n ro cl fb rn nd sk mo wk fx wi la da we) (va_A (mX cT q th n ro cl fb rn nd sk mo wk fx wi la da we) sz)) 0 0 (va_A (mX cT q th n ro cl fb rn nd sk mo wk fx wi la da we) sz) := by
  refine wr_start (cc := cX9_entry) (maxL := 3) (ret := (some .int)) RX9 ⟨by decide +kernel, rfl⟩ rfl (Nat.le_of_ble_eq_true rfl) ?_
  intro p0 e0 s0 m0 a0 b0 t0 c0 S hr hlocks hin hP hK hA hD hS ls hl
  generalize va_A (mX cT q th n ro cl fb rn nd sk mo wk fx wi la da we) sz = A at hA hD hS ⊢
  have hl : lv_has ls 3 [(0, .ref (q 0)), (1, .int (nI i)), (2, .int x)] := hl
  obtain ⟨hn, hcl, hfb, hrn, hnd, hper⟩ := id hwf
  refine lv_aload_n S.1 S.2.1 dX9_entry_0 rfl (lv_at hl 0 rfl) ?_
  refine lv_iconst (v := (nI 0)) S.1 S.2.1 dX9_entry_1 (by decide) ?_
  refine w_put (C := RX9) (T := TX9) (N := 15) (v := .int (nI 0)) (ty := .int) S 0 7 0 in_X9_entry_X9 tyX9 tyX9_ok nmX9 hK hP hD hS rfl rfl (by decide) w_X9_entry_0 rfl (by decide +kernel) rfl rfl (Nat.le_of_ble_eq_true rfl) dX9_entry_2 (fun H locs hP hD hS => ?_)
  have hP : va_P D vwCl (mX cT q 0 n ro cl fb rn nd sk mo wk fx wi la da we) H := hP
  have hD : va_D A (mX cT q 0 n ro cl fb rn nd sk mo wk fx wi la da we) := hD
  refine lv_aload_n S.1 S.2.1 dX9_entry_5 rfl (lv_at hl 0 rfl) ?_
  refine lv_iload_n S.1 S.2.1 dX9_entry_6 rfl (lv_at hl 1 rfl) ?_
  refine rd_callV (rest := []) S (r_X9_isPerson l D cT q bd 0 n ro cl fb rn nd sk mo wk fx wi la da we i (hwf) (hz) (by omega)) gX9_entry_X9_isPerson rfl pd_X9_isPerson ⟨rfl, rfl, Nat.le_of_ble_eq_true rfl, Nat.le_of_ble_eq_true rfl⟩ hP hK (va_recv hK.1 hP (ci := 7) (q0 := 0) rfl rfl) hl rfl rfl (Nat.le_of_ble_eq_true rfl) ⟨Nat.zero_le _, Nat.zero_le _⟩ dX9_entry_7 ?_
  refine n_beq S (tgt := 34) dX9_entry_10 (by decide) (fun q => absurd q (by decide)) (fun _ => ?_)
  refine lv_iload_n S.1 S.2.1 dX9_entry_13 rfl (lv_at hl 2 rfl) ?_
  refine rd_callS (rest := []) S (r_X9_isDay_x l D cT x (hx)) gX9_entry_X9_isDay rfl pd_X9_isDay ⟨rfl, rfl, Nat.le_of_ble_eq_true rfl, Nat.le_of_ble_eq_true rfl⟩ (sx_P0 D _) hK hl rfl rfl (Nat.le_of_ble_eq_true rfl) ⟨Nat.zero_le _, Nat.zero_le _⟩ dX9_entry_14 ?_
  refine n_beq S (tgt := 34) dX9_entry_17 (by decide) (fun _ => ?_) (fun q => absurd q (by decide))
  refine lv_aload_n S.1 S.2.1 dX9_entry_34 rfl (lv_at hl 0 rfl) ?_
  refine lv_iconst (v := (nI 1)) S.1 S.2.1 dX9_entry_35 (by decide) ?_
  refine wr_callVi (rest := []) S (w_X9_fails l D cT _ q bd 0 n ro cl fb rn nd sk mo wk fx wi la da we 1 (hwf) (hz)) gX9_entry_X9_fails rfl pd_X9_fails ⟨rfl, rfl, Nat.le_of_ble_eq_true rfl, Nat.le_of_ble_eq_true rfl⟩ hP hK hD hS hA (va_recv hK.1 hP (ci := 7) (q0 := 0) rfl rfl) hl rfl rfl (Nat.le_of_ble_eq_true rfl) ⟨Nat.zero_le _, Nat.zero_le _⟩ dX9_entry_36 (fun r_ u_ H locs hr_ hP hD hS => ?_)
  subst hr_
  have hP : va_P D vwCl (mX cT q 1 n ro cl fb rn nd sk mo wk fx wi la da we) H := hP
  have hD : va_D A (mX cT q 1 n ro cl fb rn nd sk mo wk fx wi la da we) := hD
  exact wr_iret S (()) hr rfl hlocks (rfl) (hP) (hD) hS dX9_entry_39

theorem w_X9_entry_1 : Cond.fieldLink RX9 26 "CoverSheetModel" "entries" "[I" ∈ wsX9_entry := by decide +kernel
set_option maxHeartbeats 4000000 in
set_option maxRecDepth 100000 in
theorem w_X9_entry (l : Launch) (D : va_G) (cT : ClassId × ClassId × ClassId) (sz : Nat) (q : Nat → Nat) (bd th n ro cl fb rn : Nat) (nd sk mo wk fx wi la da we : Nat → Nat) (i : Nat) (d : Nat) (hwf : wfC n bd fb rn nd sk mo wk fx wi la da we) (hz : ∀ b, b < 4 → bit fb (4 * b) = 0) (hi : i < n) (hd : d < 7) : Met l yX9_entry wsX9_entry ({ frames := 2, cells := 0, slots := 0, locals := 43 } : Room) (va_Pc [.ref (q 0), .int (nI i), .int (nI d)] (wr_R D (TY cT) (mX cT q th n ro cl fb rn nd sk mo wk fx wi la da we) sz)) (wQi (fun (r_ : Int32) (_ : Unit) => r_ = (nI (ent (wk i) d))) D (fun (_ : Unit) => mX cT q 0 n ro cl fb rn nd sk mo wk fx wi la da we) (va_A (mX cT q th n ro cl fb rn nd sk mo wk fx wi la da we) sz)) 0 0 (va_A (mX cT q th n ro cl fb rn nd sk mo wk fx wi la da we) sz) := by
  refine wr_start (cc := cX9_entry) (maxL := 3) (ret := (some .int)) RX9 ⟨by decide +kernel, rfl⟩ rfl (Nat.le_of_ble_eq_true rfl) ?_
  intro p0 e0 s0 m0 a0 b0 t0 c0 S hr hlocks hin hP hK hA hD hS ls hl
  generalize va_A (mX cT q th n ro cl fb rn nd sk mo wk fx wi la da we) sz = A at hA hD hS ⊢
  have hl : lv_has ls 3 [(0, .ref (q 0)), (1, .int (nI i)), (2, .int (nI d))] := hl
  obtain ⟨hn, hcl, hfb, hrn, hnd, hper⟩ := id hwf
  refine lv_aload_n S.1 S.2.1 dX9_entry_0 rfl (lv_at hl 0 rfl) ?_
  refine lv_iconst (v := (nI 0)) S.1 S.2.1 dX9_entry_1 (by decide) ?_
  refine w_put (C := RX9) (T := TX9) (N := 15) (v := .int (nI 0)) (ty := .int) S 0 7 0 in_X9_entry_X9 tyX9 tyX9_ok nmX9 hK hP hD hS rfl rfl (by decide) w_X9_entry_0 rfl (by decide +kernel) rfl rfl (Nat.le_of_ble_eq_true rfl) dX9_entry_2 (fun H locs hP hD hS => ?_)
  have hP : va_P D vwCl (mX cT q 0 n ro cl fb rn nd sk mo wk fx wi la da we) H := hP
  have hD : va_D A (mX cT q 0 n ro cl fb rn nd sk mo wk fx wi la da we) := hD
  refine lv_aload_n S.1 S.2.1 dX9_entry_5 rfl (lv_at hl 0 rfl) ?_
  refine lv_iload_n S.1 S.2.1 dX9_entry_6 rfl (lv_at hl 1 rfl) ?_
  refine rd_callV (rest := []) S (r_X9_isPerson l D cT q bd 0 n ro cl fb rn nd sk mo wk fx wi la da we i (hwf) (hz) (by omega)) gX9_entry_X9_isPerson rfl pd_X9_isPerson ⟨rfl, rfl, Nat.le_of_ble_eq_true rfl, Nat.le_of_ble_eq_true rfl⟩ hP hK (va_recv hK.1 hP (ci := 7) (q0 := 0) rfl rfl) hl rfl rfl (Nat.le_of_ble_eq_true rfl) ⟨Nat.zero_le _, Nat.zero_le _⟩ dX9_entry_7 ?_
  refine n_beq S (tgt := 34) dX9_entry_10 (by decide) (fun q => absurd q (by decide)) (fun _ => ?_)
  refine lv_iload_n S.1 S.2.1 dX9_entry_13 rfl (lv_at hl 2 rfl) ?_
  refine rd_callS (rest := []) S (r_X9_isDay l D cT d (by omega)) gX9_entry_X9_isDay rfl pd_X9_isDay ⟨rfl, rfl, Nat.le_of_ble_eq_true rfl, Nat.le_of_ble_eq_true rfl⟩ (sx_P0 D _) hK hl rfl rfl (Nat.le_of_ble_eq_true rfl) ⟨Nat.zero_le _, Nat.zero_le _⟩ dX9_entry_14 ?_
  refine n_beq S (tgt := 34) dX9_entry_17 (by decide) (fun q => absurd q (by decide)) (fun _ => ?_)
  refine lv_aload_n S.1 S.2.1 dX9_entry_20 rfl (lv_at hl 0 rfl) ?_
  refine g_get (C := RX9) (T := TX9) (N := 15) (v := .ref (q 5)) S 0 7 9 in_X9_entry_X9 hK hP rfl rfl (by decide) w_X9_entry_1 rfl dX9_entry_21 ?_
  refine lv_bipush (v := (nI 7)) S.1 S.2.1 dX9_entry_24 (by decide) ?_
  refine lv_iload_n S.1 S.2.1 dX9_entry_26 rfl (lv_at hl 1 rfl) ?_
  refine n_mul S dX9_entry_27 ?_
  refine lv_iload_n S.1 S.2.1 dX9_entry_28 rfl (lv_at hl 2 rfl) ?_
  refine n_add S dX9_entry_29 ?_
  refine g_iald S 5 hK hP rfl (by omega) dX9_entry_30 ?_
  refine n_top (show (nI ((enf wk) ((7 * i) + d))) = (nI (ent (wk i) d)) from congrArg nI (en_at hd)) ?_
  refine lv_goto (tgt := 39) S.1 S.2.1 dX9_entry_31 (by decide) ?_
  exact wr_iret S (()) hr rfl hlocks (rfl) (hP) (hD) hS dX9_entry_39

theorem pd_X9_gap : yX9_gap.cls = RX9 ∧ yX9_gap.cls ≠ "java/lang/invoke/MethodHandle" ∧ yX9_gap.cls ≠ "java/lang/invoke/VarHandle" ∧ (parseMethodDescriptor yX9_gap.desc).map (fun d => d.parameters.length) = some 2 := by decide +kernel
theorem w_X9_gap_0 : Cond.fieldLink RX9 44 "CoverSheetModel" "thrown" "I" ∈ wsX9_gap := by decide +kernel
theorem in_X9_gap_X9 : ∀ w ∈ u_ws RX9 TX9 15, w ∈ wsX9_gap := by decide +kernel
set_option maxHeartbeats 4000000 in
set_option maxRecDepth 100000 in
theorem w_X9_gap_x0 (l : Launch) (D : va_G) (cT : ClassId × ClassId × ClassId) (sz : Nat) (q : Nat → Nat) (bd th n ro cl fb rn : Nat) (nd sk mo wk fx wi la da we : Nat → Nat) (x : Int32) (ze : Int32) (hwf : wfC n bd fb rn nd sk mo wk fx wi la da we) (hz : ∀ b, b < 4 → bit fb (4 * b) = 0) (hx : PX x 7) : Met l yX9_gap wsX9_gap ({ frames := 2, cells := 0, slots := 0, locals := 42 } : Room) (va_Pc [.ref (q 0), .int x, .int ze] (wr_R D (TY cT) (mX cT q th n ro cl fb rn nd sk mo wk fx wi la da we) sz)) (wQi (fun (r_ : Int32) (_ : Unit) => r_ = (nI 0)) D (fun (_ : Unit) => mX cT q 1 n ro cl fb rn nd sk mo wk fx wi la da we) (va_A (mX cT q th n ro cl fb rn nd sk mo wk fx wi la da we) sz)) 0 0 (va_A (mX cT q th n ro cl fb rn nd sk mo wk fx wi la da we) sz) := by
  refine wr_start (cc := cX9_gap) (maxL := 3) (ret := (some .int)) RX9 ⟨by decide +kernel, rfl⟩ rfl (Nat.le_of_ble_eq_true rfl) ?_
  intro p0 e0 s0 m0 a0 b0 t0 c0 S hr hlocks hin hP hK hA hD hS ls hl
  generalize va_A (mX cT q th n ro cl fb rn nd sk mo wk fx wi la da we) sz = A at hA hD hS ⊢
  have hl : lv_has ls 3 [(0, .ref (q 0)), (1, .int x), (2, .int ze)] := hl
  obtain ⟨hn, hcl, hfb, hrn, hnd, hper⟩ := id hwf
  refine lv_aload_n S.1 S.2.1 dX9_gap_0 rfl (lv_at hl 0 rfl) ?_
  refine lv_iconst (v := (nI 0)) S.1 S.2.1 dX9_gap_1 (by decide) ?_
  refine w_put (C := RX9) (T := TX9) (N := 15) (v := .int (nI 0)) (ty := .int) S 0 7 0 in_X9_gap_X9 tyX9 tyX9_ok nmX9 hK hP hD hS rfl rfl (by decide) w_X9_gap_0 rfl (by decide +kernel) rfl rfl (Nat.le_of_ble_eq_true rfl) dX9_gap_2 (fun H locs hP hD hS => ?_)
  have hP : va_P D vwCl (mX cT q 0 n ro cl fb rn nd sk mo wk fx wi la da we) H := hP
  have hD : va_D A (mX cT q 0 n ro cl fb rn nd sk mo wk fx wi la da we) := hD
  refine lv_iload_n S.1 S.2.1 dX9_gap_5 rfl (lv_at hl 1 rfl) ?_
  refine rd_callS (rest := []) S (r_X9_isDay_x l D cT x (hx)) gX9_gap_X9_isDay rfl pd_X9_isDay ⟨rfl, rfl, Nat.le_of_ble_eq_true rfl, Nat.le_of_ble_eq_true rfl⟩ (sx_P0 D _) hK hl rfl rfl (Nat.le_of_ble_eq_true rfl) ⟨Nat.zero_le _, Nat.zero_le _⟩ dX9_gap_6 ?_
  refine n_beq S (tgt := 29) dX9_gap_9 (by decide) (fun _ => ?_) (fun q => absurd q (by decide))
  refine lv_aload_n S.1 S.2.1 dX9_gap_29 rfl (lv_at hl 0 rfl) ?_
  refine lv_iconst (v := (nI 1)) S.1 S.2.1 dX9_gap_30 (by decide) ?_
  refine wr_callVi (rest := []) S (w_X9_fails l D cT _ q bd 0 n ro cl fb rn nd sk mo wk fx wi la da we 1 (hwf) (hz)) gX9_gap_X9_fails rfl pd_X9_fails ⟨rfl, rfl, Nat.le_of_ble_eq_true rfl, Nat.le_of_ble_eq_true rfl⟩ hP hK hD hS hA (va_recv hK.1 hP (ci := 7) (q0 := 0) rfl rfl) hl rfl rfl (Nat.le_of_ble_eq_true rfl) ⟨Nat.zero_le _, Nat.zero_le _⟩ dX9_gap_31 (fun r_ u_ H locs hr_ hP hD hS => ?_)
  subst hr_
  have hP : va_P D vwCl (mX cT q 1 n ro cl fb rn nd sk mo wk fx wi la da we) H := hP
  have hD : va_D A (mX cT q 1 n ro cl fb rn nd sk mo wk fx wi la da we) := hD
  exact wr_iret S (()) hr rfl hlocks (rfl) (hP) (hD) hS dX9_gap_34

set_option maxHeartbeats 4000000 in
set_option maxRecDepth 100000 in
theorem w_X9_gap_x1 (l : Launch) (D : va_G) (cT : ClassId × ClassId × ClassId) (sz : Nat) (q : Nat → Nat) (bd th n ro cl fb rn : Nat) (nd sk mo wk fx wi la da we : Nat → Nat) (d : Nat) (x : Int32) (hwf : wfC n bd fb rn nd sk mo wk fx wi la da we) (hz : ∀ b, b < 4 → bit fb (4 * b) = 0) (hd : d < 7) (hx : x < nI 1 ∨ nI 3 < x) : Met l yX9_gap wsX9_gap ({ frames := 2, cells := 0, slots := 0, locals := 42 } : Room) (va_Pc [.ref (q 0), .int (nI d), .int x] (wr_R D (TY cT) (mX cT q th n ro cl fb rn nd sk mo wk fx wi la da we) sz)) (wQi (fun (r_ : Int32) (_ : Unit) => r_ = (nI 0)) D (fun (_ : Unit) => mX cT q 1 n ro cl fb rn nd sk mo wk fx wi la da we) (va_A (mX cT q th n ro cl fb rn nd sk mo wk fx wi la da we) sz)) 0 0 (va_A (mX cT q th n ro cl fb rn nd sk mo wk fx wi la da we) sz) := by
  refine wr_start (cc := cX9_gap) (maxL := 3) (ret := (some .int)) RX9 ⟨by decide +kernel, rfl⟩ rfl (Nat.le_of_ble_eq_true rfl) ?_
  intro p0 e0 s0 m0 a0 b0 t0 c0 S hr hlocks hin hP hK hA hD hS ls hl
  generalize va_A (mX cT q th n ro cl fb rn nd sk mo wk fx wi la da we) sz = A at hA hD hS ⊢
  have hl : lv_has ls 3 [(0, .ref (q 0)), (1, .int (nI d)), (2, .int x)] := hl
  obtain ⟨hn, hcl, hfb, hrn, hnd, hper⟩ := id hwf
  refine lv_aload_n S.1 S.2.1 dX9_gap_0 rfl (lv_at hl 0 rfl) ?_
  refine lv_iconst (v := (nI 0)) S.1 S.2.1 dX9_gap_1 (by decide) ?_
  refine w_put (C := RX9) (T := TX9) (N := 15) (v := .int (nI 0)) (ty := .int) S 0 7 0 in_X9_gap_X9 tyX9 tyX9_ok nmX9 hK hP hD hS rfl rfl (by decide) w_X9_gap_0 rfl (by decide +kernel) rfl rfl (Nat.le_of_ble_eq_true rfl) dX9_gap_2 (fun H locs hP hD hS => ?_)
  have hP : va_P D vwCl (mX cT q 0 n ro cl fb rn nd sk mo wk fx wi la da we) H := hP
  have hD : va_D A (mX cT q 0 n ro cl fb rn nd sk mo wk fx wi la da we) := hD
  refine lv_iload_n S.1 S.2.1 dX9_gap_5 rfl (lv_at hl 1 rfl) ?_
  refine rd_callS (rest := []) S (r_X9_isDay l D cT d (by omega)) gX9_gap_X9_isDay rfl pd_X9_isDay ⟨rfl, rfl, Nat.le_of_ble_eq_true rfl, Nat.le_of_ble_eq_true rfl⟩ (sx_P0 D _) hK hl rfl rfl (Nat.le_of_ble_eq_true rfl) ⟨Nat.zero_le _, Nat.zero_le _⟩ dX9_gap_6 ?_
  refine n_beq S (tgt := 29) dX9_gap_9 (by decide) (fun q => absurd q (by decide)) (fun _ => ?_)
  refine lv_iload_n S.1 S.2.1 dX9_gap_12 rfl (lv_at hl 2 rfl) ?_
  refine rd_callS (rest := []) S (r_X9_isKind_x l D cT x (hx)) gX9_gap_X9_isKind rfl pd_X9_isKind ⟨rfl, rfl, Nat.le_of_ble_eq_true rfl, Nat.le_of_ble_eq_true rfl⟩ (sx_P0 D _) hK hl rfl rfl (Nat.le_of_ble_eq_true rfl) ⟨Nat.zero_le _, Nat.zero_le _⟩ dX9_gap_13 ?_
  refine n_beq S (tgt := 29) dX9_gap_16 (by decide) (fun _ => ?_) (fun q => absurd q (by decide))
  refine lv_aload_n S.1 S.2.1 dX9_gap_29 rfl (lv_at hl 0 rfl) ?_
  refine lv_iconst (v := (nI 1)) S.1 S.2.1 dX9_gap_30 (by decide) ?_
  refine wr_callVi (rest := []) S (w_X9_fails l D cT _ q bd 0 n ro cl fb rn nd sk mo wk fx wi la da we 1 (hwf) (hz)) gX9_gap_X9_fails rfl pd_X9_fails ⟨rfl, rfl, Nat.le_of_ble_eq_true rfl, Nat.le_of_ble_eq_true rfl⟩ hP hK hD hS hA (va_recv hK.1 hP (ci := 7) (q0 := 0) rfl rfl) hl rfl rfl (Nat.le_of_ble_eq_true rfl) ⟨Nat.zero_le _, Nat.zero_le _⟩ dX9_gap_31 (fun r_ u_ H locs hr_ hP hD hS => ?_)
  subst hr_
  have hP : va_P D vwCl (mX cT q 1 n ro cl fb rn nd sk mo wk fx wi la da we) H := hP
  have hD : va_D A (mX cT q 1 n ro cl fb rn nd sk mo wk fx wi la da we) := hD
  exact wr_iret S (()) hr rfl hlocks (rfl) (hP) (hD) hS dX9_gap_34

set_option maxHeartbeats 4000000 in
set_option maxRecDepth 100000 in
theorem w_X9_gap (l : Launch) (D : va_G) (cT : ClassId × ClassId × ClassId) (sz : Nat) (q : Nat → Nat) (bd th n ro cl fb rn : Nat) (nd sk mo wk fx wi la da we : Nat → Nat) (d : Nat) (e : Nat) (hwf : wfC n bd fb rn nd sk mo wk fx wi la da we) (hz : ∀ b, b < 4 → bit fb (4 * b) = 0) (hd : d < 7) (he : 1 ≤ e ∧ e < 4) : Met l yX9_gap wsX9_gap ({ frames := 2, cells := 0, slots := 0, locals := 49 } : Room) (va_Pc [.ref (q 0), .int (nI d), .int (nI e)] (wr_R D (TY cT) (mX cT q th n ro cl fb rn nd sk mo wk fx wi la da we) sz)) (wQi (fun (r_ : Int32) (_ : Unit) => r_ = (nI (gpw n nd wk 99 d e))) D (fun (_ : Unit) => mX cT q 0 n ro cl fb rn nd sk mo wk fx wi la da we) (va_A (mX cT q th n ro cl fb rn nd sk mo wk fx wi la da we) sz)) 0 0 (va_A (mX cT q th n ro cl fb rn nd sk mo wk fx wi la da we) sz) := by
  refine wr_start (cc := cX9_gap) (maxL := 3) (ret := (some .int)) RX9 ⟨by decide +kernel, rfl⟩ rfl (Nat.le_of_ble_eq_true rfl) ?_
  intro p0 e0 s0 m0 a0 b0 t0 c0 S hr hlocks hin hP hK hA hD hS ls hl
  generalize va_A (mX cT q th n ro cl fb rn nd sk mo wk fx wi la da we) sz = A at hA hD hS ⊢
  have hl : lv_has ls 3 [(0, .ref (q 0)), (1, .int (nI d)), (2, .int (nI e))] := hl
  obtain ⟨hn, hcl, hfb, hrn, hnd, hper⟩ := id hwf
  refine lv_aload_n S.1 S.2.1 dX9_gap_0 rfl (lv_at hl 0 rfl) ?_
  refine lv_iconst (v := (nI 0)) S.1 S.2.1 dX9_gap_1 (by decide) ?_
  refine w_put (C := RX9) (T := TX9) (N := 15) (v := .int (nI 0)) (ty := .int) S 0 7 0 in_X9_gap_X9 tyX9 tyX9_ok nmX9 hK hP hD hS rfl rfl (by decide) w_X9_gap_0 rfl (by decide +kernel) rfl rfl (Nat.le_of_ble_eq_true rfl) dX9_gap_2 (fun H locs hP hD hS => ?_)
  have hP : va_P D vwCl (mX cT q 0 n ro cl fb rn nd sk mo wk fx wi la da we) H := hP
  have hD : va_D A (mX cT q 0 n ro cl fb rn nd sk mo wk fx wi la da we) := hD
  refine lv_iload_n S.1 S.2.1 dX9_gap_5 rfl (lv_at hl 1 rfl) ?_
  refine rd_callS (rest := []) S (r_X9_isDay l D cT d (by omega)) gX9_gap_X9_isDay rfl pd_X9_isDay ⟨rfl, rfl, Nat.le_of_ble_eq_true rfl, Nat.le_of_ble_eq_true rfl⟩ (sx_P0 D _) hK hl rfl rfl (Nat.le_of_ble_eq_true rfl) ⟨Nat.zero_le _, Nat.zero_le _⟩ dX9_gap_6 ?_
  refine n_beq S (tgt := 29) dX9_gap_9 (by decide) (fun q => absurd q (by decide)) (fun _ => ?_)
  refine lv_iload_n S.1 S.2.1 dX9_gap_12 rfl (lv_at hl 2 rfl) ?_
  refine rd_callS (rest := []) S (r_X9_isKind l D cT e (by omega)) gX9_gap_X9_isKind rfl pd_X9_isKind ⟨rfl, rfl, Nat.le_of_ble_eq_true rfl, Nat.le_of_ble_eq_true rfl⟩ (sx_P0 D _) hK hl rfl rfl (Nat.le_of_ble_eq_true rfl) ⟨Nat.zero_le _, Nat.zero_le _⟩ dX9_gap_13 ?_
  refine n_beq S (tgt := 29) dX9_gap_16 (by decide) (fun q => absurd q (by decide)) (fun _ => ?_)
  refine lv_aload_n S.1 S.2.1 dX9_gap_19 rfl (lv_at hl 0 rfl) ?_
  refine lv_iload_n S.1 S.2.1 dX9_gap_20 rfl (lv_at hl 1 rfl) ?_
  refine lv_iload_n S.1 S.2.1 dX9_gap_21 rfl (lv_at hl 2 rfl) ?_
  refine lv_iconst (v := (-1)) S.1 S.2.1 dX9_gap_22 (by decide) ?_
  refine rd_callV (rest := []) S (r_X9_gapOf l D cT q bd 0 n ro cl fb rn nd sk mo wk fx wi la da we d e (hwf) (hz) (by omega) (by omega)) gX9_gap_X9_gapOf rfl pd_X9_gapOf ⟨rfl, rfl, Nat.le_of_ble_eq_true rfl, Nat.le_of_ble_eq_true rfl⟩ hP hK (va_recv hK.1 hP (ci := 7) (q0 := 0) rfl rfl) hl rfl rfl (Nat.le_of_ble_eq_true rfl) ⟨Nat.zero_le _, Nat.zero_le _⟩ dX9_gap_23 ?_
  refine lv_goto (tgt := 34) S.1 S.2.1 dX9_gap_26 (by decide) ?_
  exact wr_iret S (()) hr rfl hlocks (rfl) (hP) (hD) hS dX9_gap_34

theorem pd_X9_shifts : yX9_shifts.cls = RX9 ∧ yX9_shifts.cls ≠ "java/lang/invoke/MethodHandle" ∧ yX9_shifts.cls ≠ "java/lang/invoke/VarHandle" ∧ (parseMethodDescriptor yX9_shifts.desc).map (fun d => d.parameters.length) = some 1 := by decide +kernel
set_option maxHeartbeats 4000000 in
set_option maxRecDepth 100000 in
theorem w_X9_shifts_x0 (l : Launch) (D : va_G) (cT : ClassId × ClassId × ClassId) (sz : Nat) (q : Nat → Nat) (bd th n ro cl fb rn : Nat) (nd sk mo wk fx wi la da we : Nat → Nat) (x : Int32) (hwf : wfC n bd fb rn nd sk mo wk fx wi la da we) (hz : ∀ b, b < 4 → bit fb (4 * b) = 0) (hx : PX x n) : Met l yX9_shifts wsX9_shifts ({ frames := 3, cells := 0, slots := 0, locals := 64 } : Room) (va_Pc [.ref (q 0), .int x] (wr_R D (TY cT) (mX cT q th n ro cl fb rn nd sk mo wk fx wi la da we) sz)) (wQi (fun (r_ : Int32) (_ : Unit) => r_ = (nI 0)) D (fun (_ : Unit) => mX cT q 1 n ro cl fb rn nd sk mo wk fx wi la da we) (va_A (mX cT q th n ro cl fb rn nd sk mo wk fx wi la da we) sz)) 0 0 (va_A (mX cT q th n ro cl fb rn nd sk mo wk fx wi la da we) sz) := by
  refine wr_start (cc := cX9_shifts) (maxL := 2) (ret := (some .int)) RX9 ⟨by decide +kernel, rfl⟩ rfl (Nat.le_of_ble_eq_true rfl) ?_
  intro p0 e0 s0 m0 a0 b0 t0 c0 S hr hlocks hin hP hK hA hD hS ls hl
  generalize va_A (mX cT q th n ro cl fb rn nd sk mo wk fx wi la da we) sz = A at hA hD hS ⊢
  have hl : lv_has ls 2 [(0, .ref (q 0)), (1, .int x)] := hl
  obtain ⟨hn, hcl, hfb, hrn, hnd, hper⟩ := id hwf
  refine lv_aload_n S.1 S.2.1 dX9_shifts_0 rfl (lv_at hl 0 rfl) ?_
  refine lv_iload_n S.1 S.2.1 dX9_shifts_1 rfl (lv_at hl 1 rfl) ?_
  refine wr_callVi (rest := []) S (w_X9_isAsked_x l D cT _ q bd th n ro cl fb rn nd sk mo wk fx wi la da we x (hwf) (hz) (hx)) gX9_shifts_X9_isAsked rfl pd_X9_isAsked ⟨rfl, rfl, Nat.le_of_ble_eq_true rfl, Nat.le_of_ble_eq_true rfl⟩ hP hK hD hS hA (va_recv hK.1 hP (ci := 7) (q0 := 0) rfl rfl) hl rfl rfl (Nat.le_of_ble_eq_true rfl) ⟨Nat.zero_le _, Nat.zero_le _⟩ dX9_shifts_2 (fun r_ u_ H locs hr_ hP hD hS => ?_)
  subst hr_
  have hP : va_P D vwCl (mX cT q 1 n ro cl fb rn nd sk mo wk fx wi la da we) H := hP
  have hD : va_D A (mX cT q 1 n ro cl fb rn nd sk mo wk fx wi la da we) := hD
  refine n_beq S (tgt := 19) dX9_shifts_5 (by decide) (fun _ => ?_) (fun q => absurd q (by decide))
  refine lv_iconst (v := (nI 0)) S.1 S.2.1 dX9_shifts_19 (by decide) ?_
  exact wr_iret S (()) hr rfl hlocks (rfl) (hP) (hD) hS dX9_shifts_20

set_option maxHeartbeats 4000000 in
set_option maxRecDepth 100000 in
theorem w_X9_shifts (l : Launch) (D : va_G) (cT : ClassId × ClassId × ClassId) (sz : Nat) (q : Nat → Nat) (bd th n ro cl fb rn : Nat) (nd sk mo wk fx wi la da we : Nat → Nat) (i : Nat) (hwf : wfC n bd fb rn nd sk mo wk fx wi la da we) (hz : ∀ b, b < 4 → bit fb (4 * b) = 0) (hi : i < n) : Met l yX9_shifts wsX9_shifts ({ frames := 3, cells := 0, slots := 0, locals := 64 } : Room) (va_Pc [.ref (q 0), .int (nI i)] (wr_R D (TY cT) (mX cT q th n ro cl fb rn nd sk mo wk fx wi la da we) sz)) (wQi (fun (r_ : Int32) (_ : Unit) => r_ = (nI (shc (wk i) 0 7))) D (fun (_ : Unit) => mX cT q 0 n ro cl fb rn nd sk mo wk fx wi la da we) (va_A (mX cT q th n ro cl fb rn nd sk mo wk fx wi la da we) sz)) 0 0 (va_A (mX cT q th n ro cl fb rn nd sk mo wk fx wi la da we) sz) := by
  refine wr_start (cc := cX9_shifts) (maxL := 2) (ret := (some .int)) RX9 ⟨by decide +kernel, rfl⟩ rfl (Nat.le_of_ble_eq_true rfl) ?_
  intro p0 e0 s0 m0 a0 b0 t0 c0 S hr hlocks hin hP hK hA hD hS ls hl
  generalize va_A (mX cT q th n ro cl fb rn nd sk mo wk fx wi la da we) sz = A at hA hD hS ⊢
  have hl : lv_has ls 2 [(0, .ref (q 0)), (1, .int (nI i))] := hl
  obtain ⟨hn, hcl, hfb, hrn, hnd, hper⟩ := id hwf
  have hpi := hper i
  refine lv_aload_n S.1 S.2.1 dX9_shifts_0 rfl (lv_at hl 0 rfl) ?_
  refine lv_iload_n S.1 S.2.1 dX9_shifts_1 rfl (lv_at hl 1 rfl) ?_
  refine wr_callVi (rest := []) S (w_X9_isAsked l D cT _ q bd th n ro cl fb rn nd sk mo wk fx wi la da we i (hwf) (hz) (by omega)) gX9_shifts_X9_isAsked rfl pd_X9_isAsked ⟨rfl, rfl, Nat.le_of_ble_eq_true rfl, Nat.le_of_ble_eq_true rfl⟩ hP hK hD hS hA (va_recv hK.1 hP (ci := 7) (q0 := 0) rfl rfl) hl rfl rfl (Nat.le_of_ble_eq_true rfl) ⟨Nat.zero_le _, Nat.zero_le _⟩ dX9_shifts_2 (fun r_ u_ H locs hr_ hP hD hS => ?_)
  subst hr_
  have hP : va_P D vwCl (mX cT q 0 n ro cl fb rn nd sk mo wk fx wi la da we) H := hP
  have hD : va_D A (mX cT q 0 n ro cl fb rn nd sk mo wk fx wi la da we) := hD
  refine n_beq S (tgt := 19) dX9_shifts_5 (by decide) (fun q => absurd q (by decide)) (fun _ => ?_)
  refine lv_aload_n S.1 S.2.1 dX9_shifts_8 rfl (lv_at hl 0 rfl) ?_
  refine lv_iload_n S.1 S.2.1 dX9_shifts_9 rfl (lv_at hl 1 rfl) ?_
  refine rd_callV (rest := []) S (r_X9_weekOf l D cT q bd 0 n ro cl fb rn nd sk mo wk fx wi la da we i (hwf) (hz) (by omega)) gX9_shifts_X9_weekOf rfl pd_X9_weekOf ⟨rfl, rfl, Nat.le_of_ble_eq_true rfl, Nat.le_of_ble_eq_true rfl⟩ hP hK (va_recv hK.1 hP (ci := 7) (q0 := 0) rfl rfl) hl rfl rfl (Nat.le_of_ble_eq_true rfl) ⟨Nat.zero_le _, Nat.zero_le _⟩ dX9_shifts_10 ?_
  refine rd_callS (rest := []) S (r_X9_countShifts l D cT (wk i) (by omega)) gX9_shifts_X9_countShifts rfl pd_X9_countShifts ⟨rfl, rfl, Nat.le_of_ble_eq_true rfl, Nat.le_of_ble_eq_true rfl⟩ (sx_P0 D _) hK hl rfl rfl (Nat.le_of_ble_eq_true rfl) ⟨Nat.zero_le _, Nat.zero_le _⟩ dX9_shifts_13 ?_
  refine lv_goto (tgt := 20) S.1 S.2.1 dX9_shifts_16 (by decide) ?_
  exact wr_iret S (()) hr rfl hlocks (rfl) (hP) (hD) hS dX9_shifts_20

theorem pd_X9_weekends : yX9_weekends.cls = RX9 ∧ yX9_weekends.cls ≠ "java/lang/invoke/MethodHandle" ∧ yX9_weekends.cls ≠ "java/lang/invoke/VarHandle" ∧ (parseMethodDescriptor yX9_weekends.desc).map (fun d => d.parameters.length) = some 1 := by decide +kernel
set_option maxHeartbeats 4000000 in
set_option maxRecDepth 100000 in
theorem w_X9_weekends_x0 (l : Launch) (D : va_G) (cT : ClassId × ClassId × ClassId) (sz : Nat) (q : Nat → Nat) (bd th n ro cl fb rn : Nat) (nd sk mo wk fx wi la da we : Nat → Nat) (x : Int32) (hwf : wfC n bd fb rn nd sk mo wk fx wi la da we) (hz : ∀ b, b < 4 → bit fb (4 * b) = 0) (hx : PX x n) : Met l yX9_weekends wsX9_weekends ({ frames := 3, cells := 0, slots := 0, locals := 64 } : Room) (va_Pc [.ref (q 0), .int x] (wr_R D (TY cT) (mX cT q th n ro cl fb rn nd sk mo wk fx wi la da we) sz)) (wQi (fun (r_ : Int32) (_ : Unit) => r_ = (nI 0)) D (fun (_ : Unit) => mX cT q 1 n ro cl fb rn nd sk mo wk fx wi la da we) (va_A (mX cT q th n ro cl fb rn nd sk mo wk fx wi la da we) sz)) 0 0 (va_A (mX cT q th n ro cl fb rn nd sk mo wk fx wi la da we) sz) := by
  refine wr_start (cc := cX9_weekends) (maxL := 2) (ret := (some .int)) RX9 ⟨by decide +kernel, rfl⟩ rfl (Nat.le_of_ble_eq_true rfl) ?_
  intro p0 e0 s0 m0 a0 b0 t0 c0 S hr hlocks hin hP hK hA hD hS ls hl
  generalize va_A (mX cT q th n ro cl fb rn nd sk mo wk fx wi la da we) sz = A at hA hD hS ⊢
  have hl : lv_has ls 2 [(0, .ref (q 0)), (1, .int x)] := hl
  obtain ⟨hn, hcl, hfb, hrn, hnd, hper⟩ := id hwf
  refine lv_aload_n S.1 S.2.1 dX9_weekends_0 rfl (lv_at hl 0 rfl) ?_
  refine lv_iload_n S.1 S.2.1 dX9_weekends_1 rfl (lv_at hl 1 rfl) ?_
  refine wr_callVi (rest := []) S (w_X9_isAsked_x l D cT _ q bd th n ro cl fb rn nd sk mo wk fx wi la da we x (hwf) (hz) (hx)) gX9_weekends_X9_isAsked rfl pd_X9_isAsked ⟨rfl, rfl, Nat.le_of_ble_eq_true rfl, Nat.le_of_ble_eq_true rfl⟩ hP hK hD hS hA (va_recv hK.1 hP (ci := 7) (q0 := 0) rfl rfl) hl rfl rfl (Nat.le_of_ble_eq_true rfl) ⟨Nat.zero_le _, Nat.zero_le _⟩ dX9_weekends_2 (fun r_ u_ H locs hr_ hP hD hS => ?_)
  subst hr_
  have hP : va_P D vwCl (mX cT q 1 n ro cl fb rn nd sk mo wk fx wi la da we) H := hP
  have hD : va_D A (mX cT q 1 n ro cl fb rn nd sk mo wk fx wi la da we) := hD
  refine n_beq S (tgt := 17) dX9_weekends_5 (by decide) (fun _ => ?_) (fun q => absurd q (by decide))
  refine lv_iconst (v := (nI 0)) S.1 S.2.1 dX9_weekends_17 (by decide) ?_
  exact wr_iret S (()) hr rfl hlocks (rfl) (hP) (hD) hS dX9_weekends_18

theorem w_X9_weekends_0 : Cond.fieldLink RX9 41 "CoverSheetModel" "ends" "[I" ∈ wsX9_weekends := by decide +kernel
theorem in_X9_weekends_X9 : ∀ w ∈ u_ws RX9 TX9 15, w ∈ wsX9_weekends := by decide +kernel
set_option maxHeartbeats 4000000 in
set_option maxRecDepth 100000 in
theorem w_X9_weekends (l : Launch) (D : va_G) (cT : ClassId × ClassId × ClassId) (sz : Nat) (q : Nat → Nat) (bd th n ro cl fb rn : Nat) (nd sk mo wk fx wi la da we : Nat → Nat) (i : Nat) (hwf : wfC n bd fb rn nd sk mo wk fx wi la da we) (hz : ∀ b, b < 4 → bit fb (4 * b) = 0) (hi : i < n) : Met l yX9_weekends wsX9_weekends ({ frames := 3, cells := 0, slots := 0, locals := 64 } : Room) (va_Pc [.ref (q 0), .int (nI i)] (wr_R D (TY cT) (mX cT q th n ro cl fb rn nd sk mo wk fx wi la da we) sz)) (wQi (fun (r_ : Int32) (_ : Unit) => r_ = (nI (we i))) D (fun (_ : Unit) => mX cT q 0 n ro cl fb rn nd sk mo wk fx wi la da we) (va_A (mX cT q th n ro cl fb rn nd sk mo wk fx wi la da we) sz)) 0 0 (va_A (mX cT q th n ro cl fb rn nd sk mo wk fx wi la da we) sz) := by
  refine wr_start (cc := cX9_weekends) (maxL := 2) (ret := (some .int)) RX9 ⟨by decide +kernel, rfl⟩ rfl (Nat.le_of_ble_eq_true rfl) ?_
  intro p0 e0 s0 m0 a0 b0 t0 c0 S hr hlocks hin hP hK hA hD hS ls hl
  generalize va_A (mX cT q th n ro cl fb rn nd sk mo wk fx wi la da we) sz = A at hA hD hS ⊢
  have hl : lv_has ls 2 [(0, .ref (q 0)), (1, .int (nI i))] := hl
  obtain ⟨hn, hcl, hfb, hrn, hnd, hper⟩ := id hwf
  have hpi := hper i
  refine lv_aload_n S.1 S.2.1 dX9_weekends_0 rfl (lv_at hl 0 rfl) ?_
  refine lv_iload_n S.1 S.2.1 dX9_weekends_1 rfl (lv_at hl 1 rfl) ?_
  refine wr_callVi (rest := []) S (w_X9_isAsked l D cT _ q bd th n ro cl fb rn nd sk mo wk fx wi la da we i (hwf) (hz) (by omega)) gX9_weekends_X9_isAsked rfl pd_X9_isAsked ⟨rfl, rfl, Nat.le_of_ble_eq_true rfl, Nat.le_of_ble_eq_true rfl⟩ hP hK hD hS hA (va_recv hK.1 hP (ci := 7) (q0 := 0) rfl rfl) hl rfl rfl (Nat.le_of_ble_eq_true rfl) ⟨Nat.zero_le _, Nat.zero_le _⟩ dX9_weekends_2 (fun r_ u_ H locs hr_ hP hD hS => ?_)
  subst hr_
  have hP : va_P D vwCl (mX cT q 0 n ro cl fb rn nd sk mo wk fx wi la da we) H := hP
  have hD : va_D A (mX cT q 0 n ro cl fb rn nd sk mo wk fx wi la da we) := hD
  refine n_beq S (tgt := 17) dX9_weekends_5 (by decide) (fun q => absurd q (by decide)) (fun _ => ?_)
  refine lv_aload_n S.1 S.2.1 dX9_weekends_8 rfl (lv_at hl 0 rfl) ?_
  refine g_get (C := RX9) (T := TX9) (N := 15) (v := .ref (q 10)) S 0 7 14 in_X9_weekends_X9 hK hP rfl rfl (by decide) w_X9_weekends_0 rfl dX9_weekends_9 ?_
  refine lv_iload_n S.1 S.2.1 dX9_weekends_12 rfl (lv_at hl 1 rfl) ?_
  refine g_iald S 10 hK hP rfl (by omega) dX9_weekends_13 ?_
  refine lv_goto (tgt := 18) S.1 S.2.1 dX9_weekends_14 (by decide) ?_
  exact wr_iret S (()) hr rfl hlocks (rfl) (hP) (hD) hS dX9_weekends_18

theorem pd_X9_broken : yX9_broken.cls = RX9 ∧ yX9_broken.cls ≠ "java/lang/invoke/MethodHandle" ∧ yX9_broken.cls ≠ "java/lang/invoke/VarHandle" ∧ (parseMethodDescriptor yX9_broken.desc).map (fun d => d.parameters.length) = some 1 := by decide +kernel
set_option maxHeartbeats 4000000 in
set_option maxRecDepth 100000 in
theorem w_X9_broken_x0 (l : Launch) (D : va_G) (cT : ClassId × ClassId × ClassId) (sz : Nat) (q : Nat → Nat) (bd th n ro cl fb rn : Nat) (nd sk mo wk fx wi la da we : Nat → Nat) (x : Int32) (hwf : wfC n bd fb rn nd sk mo wk fx wi la da we) (hz : ∀ b, b < 4 → bit fb (4 * b) = 0) (hx : PX x n) : Met l yX9_broken wsX9_broken ({ frames := 3, cells := 0, slots := 0, locals := 64 } : Room) (va_Pc [.ref (q 0), .int x] (wr_R D (TY cT) (mX cT q th n ro cl fb rn nd sk mo wk fx wi la da we) sz)) (wQi (fun (r_ : Int32) (_ : Unit) => r_ = (nI 0)) D (fun (_ : Unit) => mX cT q 1 n ro cl fb rn nd sk mo wk fx wi la da we) (va_A (mX cT q th n ro cl fb rn nd sk mo wk fx wi la da we) sz)) 0 0 (va_A (mX cT q th n ro cl fb rn nd sk mo wk fx wi la da we) sz) := by
  refine wr_start (cc := cX9_broken) (maxL := 2) (ret := (some .int)) RX9 ⟨by decide +kernel, rfl⟩ rfl (Nat.le_of_ble_eq_true rfl) ?_
  intro p0 e0 s0 m0 a0 b0 t0 c0 S hr hlocks hin hP hK hA hD hS ls hl
  generalize va_A (mX cT q th n ro cl fb rn nd sk mo wk fx wi la da we) sz = A at hA hD hS ⊢
  have hl : lv_has ls 2 [(0, .ref (q 0)), (1, .int x)] := hl
  obtain ⟨hn, hcl, hfb, hrn, hnd, hper⟩ := id hwf
  refine lv_aload_n S.1 S.2.1 dX9_broken_0 rfl (lv_at hl 0 rfl) ?_
  refine lv_iload_n S.1 S.2.1 dX9_broken_1 rfl (lv_at hl 1 rfl) ?_
  refine wr_callVi (rest := []) S (w_X9_isAsked_x l D cT _ q bd th n ro cl fb rn nd sk mo wk fx wi la da we x (hwf) (hz) (hx)) gX9_broken_X9_isAsked rfl pd_X9_isAsked ⟨rfl, rfl, Nat.le_of_ble_eq_true rfl, Nat.le_of_ble_eq_true rfl⟩ hP hK hD hS hA (va_recv hK.1 hP (ci := 7) (q0 := 0) rfl rfl) hl rfl rfl (Nat.le_of_ble_eq_true rfl) ⟨Nat.zero_le _, Nat.zero_le _⟩ dX9_broken_2 (fun r_ u_ H locs hr_ hP hD hS => ?_)
  subst hr_
  have hP : va_P D vwCl (mX cT q 1 n ro cl fb rn nd sk mo wk fx wi la da we) H := hP
  have hD : va_D A (mX cT q 1 n ro cl fb rn nd sk mo wk fx wi la da we) := hD
  refine n_beq S (tgt := 21) dX9_broken_5 (by decide) (fun _ => ?_) (fun q => absurd q (by decide))
  refine lv_iconst (v := (nI 0)) S.1 S.2.1 dX9_broken_21 (by decide) ?_
  exact wr_iret S (()) hr rfl hlocks (rfl) (hP) (hD) hS dX9_broken_22

set_option maxHeartbeats 4000000 in
set_option maxRecDepth 100000 in
theorem w_X9_broken (l : Launch) (D : va_G) (cT : ClassId × ClassId × ClassId) (sz : Nat) (q : Nat → Nat) (bd th n ro cl fb rn : Nat) (nd sk mo wk fx wi la da we : Nat → Nat) (i : Nat) (hwf : wfC n bd fb rn nd sk mo wk fx wi la da we) (hz : ∀ b, b < 4 → bit fb (4 * b) = 0) (hi : i < n) : Met l yX9_broken wsX9_broken ({ frames := 3, cells := 0, slots := 0, locals := 64 } : Room) (va_Pc [.ref (q 0), .int (nI i)] (wr_R D (TY cT) (mX cT q th n ro cl fb rn nd sk mo wk fx wi la da we) sz)) (wQi (fun (r_ : Int32) (_ : Unit) => r_ = (nI (brc (wi i) (wk i) 7))) D (fun (_ : Unit) => mX cT q 0 n ro cl fb rn nd sk mo wk fx wi la da we) (va_A (mX cT q th n ro cl fb rn nd sk mo wk fx wi la da we) sz)) 0 0 (va_A (mX cT q th n ro cl fb rn nd sk mo wk fx wi la da we) sz) := by
  refine wr_start (cc := cX9_broken) (maxL := 2) (ret := (some .int)) RX9 ⟨by decide +kernel, rfl⟩ rfl (Nat.le_of_ble_eq_true rfl) ?_
  intro p0 e0 s0 m0 a0 b0 t0 c0 S hr hlocks hin hP hK hA hD hS ls hl
  generalize va_A (mX cT q th n ro cl fb rn nd sk mo wk fx wi la da we) sz = A at hA hD hS ⊢
  have hl : lv_has ls 2 [(0, .ref (q 0)), (1, .int (nI i))] := hl
  obtain ⟨hn, hcl, hfb, hrn, hnd, hper⟩ := id hwf
  have hpi := hper i
  refine lv_aload_n S.1 S.2.1 dX9_broken_0 rfl (lv_at hl 0 rfl) ?_
  refine lv_iload_n S.1 S.2.1 dX9_broken_1 rfl (lv_at hl 1 rfl) ?_
  refine wr_callVi (rest := []) S (w_X9_isAsked l D cT _ q bd th n ro cl fb rn nd sk mo wk fx wi la da we i (hwf) (hz) (by omega)) gX9_broken_X9_isAsked rfl pd_X9_isAsked ⟨rfl, rfl, Nat.le_of_ble_eq_true rfl, Nat.le_of_ble_eq_true rfl⟩ hP hK hD hS hA (va_recv hK.1 hP (ci := 7) (q0 := 0) rfl rfl) hl rfl rfl (Nat.le_of_ble_eq_true rfl) ⟨Nat.zero_le _, Nat.zero_le _⟩ dX9_broken_2 (fun r_ u_ H locs hr_ hP hD hS => ?_)
  subst hr_
  have hP : va_P D vwCl (mX cT q 0 n ro cl fb rn nd sk mo wk fx wi la da we) H := hP
  have hD : va_D A (mX cT q 0 n ro cl fb rn nd sk mo wk fx wi la da we) := hD
  refine n_beq S (tgt := 21) dX9_broken_5 (by decide) (fun q => absurd q (by decide)) (fun _ => ?_)
  refine lv_aload_n S.1 S.2.1 dX9_broken_8 rfl (lv_at hl 0 rfl) ?_
  refine lv_iload_n S.1 S.2.1 dX9_broken_9 rfl (lv_at hl 1 rfl) ?_
  refine lv_aload_n S.1 S.2.1 dX9_broken_10 rfl (lv_at hl 0 rfl) ?_
  refine lv_iload_n S.1 S.2.1 dX9_broken_11 rfl (lv_at hl 1 rfl) ?_
  refine rd_callV (rest := [.int (nI i), .ref (q 0)]) S (r_X9_weekOf l D cT q bd 0 n ro cl fb rn nd sk mo wk fx wi la da we i (hwf) (hz) (by omega)) gX9_broken_X9_weekOf rfl pd_X9_weekOf ⟨rfl, rfl, Nat.le_of_ble_eq_true rfl, Nat.le_of_ble_eq_true rfl⟩ hP hK (va_recv hK.1 hP (ci := 7) (q0 := 0) rfl rfl) hl rfl rfl (Nat.le_of_ble_eq_true rfl) ⟨Nat.zero_le _, Nat.zero_le _⟩ dX9_broken_12 ?_
  refine rd_callV (rest := []) S (r_X9_brokenBy l D cT q bd 0 n ro cl fb rn nd sk mo wk fx wi la da we i (wk i) (hwf) (hz) (by omega) (by omega)) gX9_broken_X9_brokenBy rfl pd_X9_brokenBy ⟨rfl, rfl, Nat.le_of_ble_eq_true rfl, Nat.le_of_ble_eq_true rfl⟩ hP hK (va_recv hK.1 hP (ci := 7) (q0 := 0) rfl rfl) hl rfl rfl (Nat.le_of_ble_eq_true rfl) ⟨Nat.zero_le _, Nat.zero_le _⟩ dX9_broken_15 ?_
  refine lv_goto (tgt := 22) S.1 S.2.1 dX9_broken_18 (by decide) ?_
  exact wr_iret S (()) hr rfl hlocks (rfl) (hP) (hD) hS dX9_broken_22

theorem pd_X9_runBefore : yX9_runBefore.cls = RX9 ∧ yX9_runBefore.cls ≠ "java/lang/invoke/MethodHandle" ∧ yX9_runBefore.cls ≠ "java/lang/invoke/VarHandle" ∧ (parseMethodDescriptor yX9_runBefore.desc).map (fun d => d.parameters.length) = some 1 := by decide +kernel
set_option maxHeartbeats 4000000 in
set_option maxRecDepth 100000 in
theorem w_X9_runBefore_x0 (l : Launch) (D : va_G) (cT : ClassId × ClassId × ClassId) (sz : Nat) (q : Nat → Nat) (bd th n ro cl fb rn : Nat) (nd sk mo wk fx wi la da we : Nat → Nat) (x : Int32) (hwf : wfC n bd fb rn nd sk mo wk fx wi la da we) (hz : ∀ b, b < 4 → bit fb (4 * b) = 0) (hx : PX x n) : Met l yX9_runBefore wsX9_runBefore ({ frames := 3, cells := 0, slots := 0, locals := 64 } : Room) (va_Pc [.ref (q 0), .int x] (wr_R D (TY cT) (mX cT q th n ro cl fb rn nd sk mo wk fx wi la da we) sz)) (wQi (fun (r_ : Int32) (_ : Unit) => r_ = (nI 0)) D (fun (_ : Unit) => mX cT q 1 n ro cl fb rn nd sk mo wk fx wi la da we) (va_A (mX cT q th n ro cl fb rn nd sk mo wk fx wi la da we) sz)) 0 0 (va_A (mX cT q th n ro cl fb rn nd sk mo wk fx wi la da we) sz) := by
  refine wr_start (cc := cX9_runBefore) (maxL := 2) (ret := (some .int)) RX9 ⟨by decide +kernel, rfl⟩ rfl (Nat.le_of_ble_eq_true rfl) ?_
  intro p0 e0 s0 m0 a0 b0 t0 c0 S hr hlocks hin hP hK hA hD hS ls hl
  generalize va_A (mX cT q th n ro cl fb rn nd sk mo wk fx wi la da we) sz = A at hA hD hS ⊢
  have hl : lv_has ls 2 [(0, .ref (q 0)), (1, .int x)] := hl
  obtain ⟨hn, hcl, hfb, hrn, hnd, hper⟩ := id hwf
  refine lv_aload_n S.1 S.2.1 dX9_runBefore_0 rfl (lv_at hl 0 rfl) ?_
  refine lv_iload_n S.1 S.2.1 dX9_runBefore_1 rfl (lv_at hl 1 rfl) ?_
  refine wr_callVi (rest := []) S (w_X9_isAsked_x l D cT _ q bd th n ro cl fb rn nd sk mo wk fx wi la da we x (hwf) (hz) (hx)) gX9_runBefore_X9_isAsked rfl pd_X9_isAsked ⟨rfl, rfl, Nat.le_of_ble_eq_true rfl, Nat.le_of_ble_eq_true rfl⟩ hP hK hD hS hA (va_recv hK.1 hP (ci := 7) (q0 := 0) rfl rfl) hl rfl rfl (Nat.le_of_ble_eq_true rfl) ⟨Nat.zero_le _, Nat.zero_le _⟩ dX9_runBefore_2 (fun r_ u_ H locs hr_ hP hD hS => ?_)
  subst hr_
  have hP : va_P D vwCl (mX cT q 1 n ro cl fb rn nd sk mo wk fx wi la da we) H := hP
  have hD : va_D A (mX cT q 1 n ro cl fb rn nd sk mo wk fx wi la da we) := hD
  refine n_beq S (tgt := 17) dX9_runBefore_5 (by decide) (fun _ => ?_) (fun q => absurd q (by decide))
  refine lv_iconst (v := (nI 0)) S.1 S.2.1 dX9_runBefore_17 (by decide) ?_
  exact wr_iret S (()) hr rfl hlocks (rfl) (hP) (hD) hS dX9_runBefore_18

theorem w_X9_runBefore_0 : Cond.fieldLink RX9 38 "CoverSheetModel" "before" "[I" ∈ wsX9_runBefore := by decide +kernel
theorem in_X9_runBefore_X9 : ∀ w ∈ u_ws RX9 TX9 15, w ∈ wsX9_runBefore := by decide +kernel
set_option maxHeartbeats 4000000 in
set_option maxRecDepth 100000 in
theorem w_X9_runBefore (l : Launch) (D : va_G) (cT : ClassId × ClassId × ClassId) (sz : Nat) (q : Nat → Nat) (bd th n ro cl fb rn : Nat) (nd sk mo wk fx wi la da we : Nat → Nat) (i : Nat) (hwf : wfC n bd fb rn nd sk mo wk fx wi la da we) (hz : ∀ b, b < 4 → bit fb (4 * b) = 0) (hi : i < n) : Met l yX9_runBefore wsX9_runBefore ({ frames := 3, cells := 0, slots := 0, locals := 64 } : Room) (va_Pc [.ref (q 0), .int (nI i)] (wr_R D (TY cT) (mX cT q th n ro cl fb rn nd sk mo wk fx wi la da we) sz)) (wQi (fun (r_ : Int32) (_ : Unit) => r_ = (nI (da i))) D (fun (_ : Unit) => mX cT q 0 n ro cl fb rn nd sk mo wk fx wi la da we) (va_A (mX cT q th n ro cl fb rn nd sk mo wk fx wi la da we) sz)) 0 0 (va_A (mX cT q th n ro cl fb rn nd sk mo wk fx wi la da we) sz) := by
  refine wr_start (cc := cX9_runBefore) (maxL := 2) (ret := (some .int)) RX9 ⟨by decide +kernel, rfl⟩ rfl (Nat.le_of_ble_eq_true rfl) ?_
  intro p0 e0 s0 m0 a0 b0 t0 c0 S hr hlocks hin hP hK hA hD hS ls hl
  generalize va_A (mX cT q th n ro cl fb rn nd sk mo wk fx wi la da we) sz = A at hA hD hS ⊢
  have hl : lv_has ls 2 [(0, .ref (q 0)), (1, .int (nI i))] := hl
  obtain ⟨hn, hcl, hfb, hrn, hnd, hper⟩ := id hwf
  have hpi := hper i
  refine lv_aload_n S.1 S.2.1 dX9_runBefore_0 rfl (lv_at hl 0 rfl) ?_
  refine lv_iload_n S.1 S.2.1 dX9_runBefore_1 rfl (lv_at hl 1 rfl) ?_
  refine wr_callVi (rest := []) S (w_X9_isAsked l D cT _ q bd th n ro cl fb rn nd sk mo wk fx wi la da we i (hwf) (hz) (by omega)) gX9_runBefore_X9_isAsked rfl pd_X9_isAsked ⟨rfl, rfl, Nat.le_of_ble_eq_true rfl, Nat.le_of_ble_eq_true rfl⟩ hP hK hD hS hA (va_recv hK.1 hP (ci := 7) (q0 := 0) rfl rfl) hl rfl rfl (Nat.le_of_ble_eq_true rfl) ⟨Nat.zero_le _, Nat.zero_le _⟩ dX9_runBefore_2 (fun r_ u_ H locs hr_ hP hD hS => ?_)
  subst hr_
  have hP : va_P D vwCl (mX cT q 0 n ro cl fb rn nd sk mo wk fx wi la da we) H := hP
  have hD : va_D A (mX cT q 0 n ro cl fb rn nd sk mo wk fx wi la da we) := hD
  refine n_beq S (tgt := 17) dX9_runBefore_5 (by decide) (fun q => absurd q (by decide)) (fun _ => ?_)
  refine lv_aload_n S.1 S.2.1 dX9_runBefore_8 rfl (lv_at hl 0 rfl) ?_
  refine g_get (C := RX9) (T := TX9) (N := 15) (v := .ref (q 9)) S 0 7 13 in_X9_runBefore_X9 hK hP rfl rfl (by decide) w_X9_runBefore_0 rfl dX9_runBefore_9 ?_
  refine lv_iload_n S.1 S.2.1 dX9_runBefore_12 rfl (lv_at hl 1 rfl) ?_
  refine g_iald S 9 hK hP rfl (by omega) dX9_runBefore_13 ?_
  refine lv_goto (tgt := 18) S.1 S.2.1 dX9_runBefore_14 (by decide) ?_
  exact wr_iret S (()) hr rfl hlocks (rfl) (hP) (hD) hS dX9_runBefore_18

theorem pd_X9_isFeasible : yX9_isFeasible.cls = RX9 ∧ yX9_isFeasible.cls ≠ "java/lang/invoke/MethodHandle" ∧ yX9_isFeasible.cls ≠ "java/lang/invoke/VarHandle" ∧ (parseMethodDescriptor yX9_isFeasible.desc).map (fun d => d.parameters.length) = some 1 := by decide +kernel
set_option maxHeartbeats 4000000 in
set_option maxRecDepth 100000 in
theorem w_X9_isFeasible_x0 (l : Launch) (D : va_G) (cT : ClassId × ClassId × ClassId) (sz : Nat) (q : Nat → Nat) (bd th n ro cl fb rn : Nat) (nd sk mo wk fx wi la da we : Nat → Nat) (x : Int32) (hwf : wfC n bd fb rn nd sk mo wk fx wi la da we) (hz : ∀ b, b < 4 → bit fb (4 * b) = 0) (hx : PX x n) : Met l yX9_isFeasible wsX9_isFeasible ({ frames := 3, cells := 0, slots := 0, locals := 64 } : Room) (va_Pc [.ref (q 0), .int x] (wr_R D (TY cT) (mX cT q th n ro cl fb rn nd sk mo wk fx wi la da we) sz)) (wQi (fun (r_ : Int32) (_ : Unit) => r_ = (nI false.toNat)) D (fun (_ : Unit) => mX cT q 1 n ro cl fb rn nd sk mo wk fx wi la da we) (va_A (mX cT q th n ro cl fb rn nd sk mo wk fx wi la da we) sz)) 0 0 (va_A (mX cT q th n ro cl fb rn nd sk mo wk fx wi la da we) sz) := by
  refine wr_start (cc := cX9_isFeasible) (maxL := 2) (ret := (some .boolean)) RX9 ⟨by decide +kernel, rfl⟩ rfl (Nat.le_of_ble_eq_true rfl) ?_
  intro p0 e0 s0 m0 a0 b0 t0 c0 S hr hlocks hin hP hK hA hD hS ls hl
  generalize va_A (mX cT q th n ro cl fb rn nd sk mo wk fx wi la da we) sz = A at hA hD hS ⊢
  have hl : lv_has ls 2 [(0, .ref (q 0)), (1, .int x)] := hl
  obtain ⟨hn, hcl, hfb, hrn, hnd, hper⟩ := id hwf
  refine lv_aload_n S.1 S.2.1 dX9_isFeasible_0 rfl (lv_at hl 0 rfl) ?_
  refine lv_iload_n S.1 S.2.1 dX9_isFeasible_1 rfl (lv_at hl 1 rfl) ?_
  refine wr_callVi (rest := []) S (w_X9_isAsked_x l D cT _ q bd th n ro cl fb rn nd sk mo wk fx wi la da we x (hwf) (hz) (hx)) gX9_isFeasible_X9_isAsked rfl pd_X9_isAsked ⟨rfl, rfl, Nat.le_of_ble_eq_true rfl, Nat.le_of_ble_eq_true rfl⟩ hP hK hD hS hA (va_recv hK.1 hP (ci := 7) (q0 := 0) rfl rfl) hl rfl rfl (Nat.le_of_ble_eq_true rfl) ⟨Nat.zero_le _, Nat.zero_le _⟩ dX9_isFeasible_2 (fun r_ u_ H locs hr_ hP hD hS => ?_)
  subst hr_
  have hP : va_P D vwCl (mX cT q 1 n ro cl fb rn nd sk mo wk fx wi la da we) H := hP
  have hD : va_D A (mX cT q 1 n ro cl fb rn nd sk mo wk fx wi la da we) := hD
  refine n_beq S (tgt := 25) dX9_isFeasible_5 (by decide) (fun _ => ?_) (fun q => absurd q (by decide))
  refine lv_iconst (v := (nI 0)) S.1 S.2.1 dX9_isFeasible_25 (by decide) ?_
  exact wr_iret S (()) hr (by decide) hlocks (rfl) (hP) (hD) hS dX9_isFeasible_26

set_option maxHeartbeats 4000000 in
set_option maxRecDepth 100000 in
theorem w_X9_isFeasible (l : Launch) (D : va_G) (cT : ClassId × ClassId × ClassId) (sz : Nat) (q : Nat → Nat) (bd th n ro cl fb rn : Nat) (nd sk mo wk fx wi la da we : Nat → Nat) (i : Nat) (hwf : wfC n bd fb rn nd sk mo wk fx wi la da we) (hz : ∀ b, b < 4 → bit fb (4 * b) = 0) (hi : i < n) : Met l yX9_isFeasible wsX9_isFeasible ({ frames := 3, cells := 0, slots := 0, locals := 71 } : Room) (va_Pc [.ref (q 0), .int (nI i)] (wr_R D (TY cT) (mX cT q th n ro cl fb rn nd sk mo wk fx wi la da we) sz)) (wQi (fun (r_ : Int32) (_ : Unit) => r_ = (nI (fe sk mo fx la da fb rn i (wk i)).toNat)) D (fun (_ : Unit) => mX cT q 0 n ro cl fb rn nd sk mo wk fx wi la da we) (va_A (mX cT q th n ro cl fb rn nd sk mo wk fx wi la da we) sz)) 0 0 (va_A (mX cT q th n ro cl fb rn nd sk mo wk fx wi la da we) sz) := by
  refine wr_start (cc := cX9_isFeasible) (maxL := 2) (ret := (some .boolean)) RX9 ⟨by decide +kernel, rfl⟩ rfl (Nat.le_of_ble_eq_true rfl) ?_
  intro p0 e0 s0 m0 a0 b0 t0 c0 S hr hlocks hin hP hK hA hD hS ls hl
  generalize va_A (mX cT q th n ro cl fb rn nd sk mo wk fx wi la da we) sz = A at hA hD hS ⊢
  have hl : lv_has ls 2 [(0, .ref (q 0)), (1, .int (nI i))] := hl
  obtain ⟨hn, hcl, hfb, hrn, hnd, hper⟩ := id hwf
  have hpi := hper i
  refine lv_aload_n S.1 S.2.1 dX9_isFeasible_0 rfl (lv_at hl 0 rfl) ?_
  refine lv_iload_n S.1 S.2.1 dX9_isFeasible_1 rfl (lv_at hl 1 rfl) ?_
  refine wr_callVi (rest := []) S (w_X9_isAsked l D cT _ q bd th n ro cl fb rn nd sk mo wk fx wi la da we i (hwf) (hz) (by omega)) gX9_isFeasible_X9_isAsked rfl pd_X9_isAsked ⟨rfl, rfl, Nat.le_of_ble_eq_true rfl, Nat.le_of_ble_eq_true rfl⟩ hP hK hD hS hA (va_recv hK.1 hP (ci := 7) (q0 := 0) rfl rfl) hl rfl rfl (Nat.le_of_ble_eq_true rfl) ⟨Nat.zero_le _, Nat.zero_le _⟩ dX9_isFeasible_2 (fun r_ u_ H locs hr_ hP hD hS => ?_)
  subst hr_
  have hP : va_P D vwCl (mX cT q 0 n ro cl fb rn nd sk mo wk fx wi la da we) H := hP
  have hD : va_D A (mX cT q 0 n ro cl fb rn nd sk mo wk fx wi la da we) := hD
  refine n_beq S (tgt := 25) dX9_isFeasible_5 (by decide) (fun q => absurd q (by decide)) (fun _ => ?_)
  refine lv_aload_n S.1 S.2.1 dX9_isFeasible_8 rfl (lv_at hl 0 rfl) ?_
  refine lv_iload_n S.1 S.2.1 dX9_isFeasible_9 rfl (lv_at hl 1 rfl) ?_
  refine lv_aload_n S.1 S.2.1 dX9_isFeasible_10 rfl (lv_at hl 0 rfl) ?_
  refine lv_iload_n S.1 S.2.1 dX9_isFeasible_11 rfl (lv_at hl 1 rfl) ?_
  refine rd_callV (rest := [.int (nI i), .ref (q 0)]) S (r_X9_weekOf l D cT q bd 0 n ro cl fb rn nd sk mo wk fx wi la da we i (hwf) (hz) (by omega)) gX9_isFeasible_X9_weekOf rfl pd_X9_weekOf ⟨rfl, rfl, Nat.le_of_ble_eq_true rfl, Nat.le_of_ble_eq_true rfl⟩ hP hK (va_recv hK.1 hP (ci := 7) (q0 := 0) rfl rfl) hl rfl rfl (Nat.le_of_ble_eq_true rfl) ⟨Nat.zero_le _, Nat.zero_le _⟩ dX9_isFeasible_12 ?_
  refine rd_callV (rest := []) S (r_X9_isPossible l D cT q bd 0 n ro cl fb rn nd sk mo wk fx wi la da we i (wk i) (hwf) (hz) (by omega) (by omega)) gX9_isFeasible_X9_isPossible rfl pd_X9_isPossible ⟨rfl, rfl, Nat.le_of_ble_eq_true rfl, Nat.le_of_ble_eq_true rfl⟩ hP hK (va_recv hK.1 hP (ci := 7) (q0 := 0) rfl rfl) hl rfl rfl (Nat.le_of_ble_eq_true rfl) ⟨Nat.zero_le _, Nat.zero_le _⟩ dX9_isFeasible_15 ?_
  refine n_beq S (tgt := 25) dX9_isFeasible_18 (by decide) (fun c18 => ?_) (fun c18 => ?_)
  · refine lv_iconst (v := (nI 0)) S.1 S.2.1 dX9_isFeasible_25 (by decide) ?_
    exact wr_iret S (()) hr (by decide) hlocks (r_f (fun h => by rw [c18] at h; cases h)) (hP) (hD) hS dX9_isFeasible_26
  · refine lv_iconst (v := (nI 1)) S.1 S.2.1 dX9_isFeasible_21 (by decide) ?_
    refine lv_goto (tgt := 26) S.1 S.2.1 dX9_isFeasible_22 (by decide) ?_
    exact wr_iret S (()) hr (by decide) hlocks (r_t c18) (hP) (hD) hS dX9_isFeasible_26

theorem pd_X9_weeks : yX9_weeks.cls = RX9 ∧ yX9_weeks.cls ≠ "java/lang/invoke/MethodHandle" ∧ yX9_weeks.cls ≠ "java/lang/invoke/VarHandle" ∧ (parseMethodDescriptor yX9_weeks.desc).map (fun d => d.parameters.length) = some 1 := by decide +kernel
set_option maxHeartbeats 4000000 in
set_option maxRecDepth 100000 in
theorem w_X9_weeks_x0 (l : Launch) (D : va_G) (cT : ClassId × ClassId × ClassId) (sz : Nat) (q : Nat → Nat) (bd th n ro cl fb rn : Nat) (nd sk mo wk fx wi la da we : Nat → Nat) (x : Int32) (hwf : wfC n bd fb rn nd sk mo wk fx wi la da we) (hz : ∀ b, b < 4 → bit fb (4 * b) = 0) (hx : PX x n) : Met l yX9_weeks wsX9_weeks ({ frames := 3, cells := 0, slots := 0, locals := 64 } : Room) (va_Pc [.ref (q 0), .int x] (wr_R D (TY cT) (mX cT q th n ro cl fb rn nd sk mo wk fx wi la da we) sz)) (wQi (fun (r_ : Int32) (_ : Unit) => r_ = (nI 0)) D (fun (_ : Unit) => mX cT q 1 n ro cl fb rn nd sk mo wk fx wi la da we) (va_A (mX cT q th n ro cl fb rn nd sk mo wk fx wi la da we) sz)) 0 0 (va_A (mX cT q th n ro cl fb rn nd sk mo wk fx wi la da we) sz) := by
  refine wr_start (cc := cX9_weeks) (maxL := 2) (ret := (some .int)) RX9 ⟨by decide +kernel, rfl⟩ rfl (Nat.le_of_ble_eq_true rfl) ?_
  intro p0 e0 s0 m0 a0 b0 t0 c0 S hr hlocks hin hP hK hA hD hS ls hl
  generalize va_A (mX cT q th n ro cl fb rn nd sk mo wk fx wi la da we) sz = A at hA hD hS ⊢
  have hl : lv_has ls 2 [(0, .ref (q 0)), (1, .int x)] := hl
  obtain ⟨hn, hcl, hfb, hrn, hnd, hper⟩ := id hwf
  refine lv_aload_n S.1 S.2.1 dX9_weeks_0 rfl (lv_at hl 0 rfl) ?_
  refine lv_iload_n S.1 S.2.1 dX9_weeks_1 rfl (lv_at hl 1 rfl) ?_
  refine wr_callVi (rest := []) S (w_X9_isAsked_x l D cT _ q bd th n ro cl fb rn nd sk mo wk fx wi la da we x (hwf) (hz) (hx)) gX9_weeks_X9_isAsked rfl pd_X9_isAsked ⟨rfl, rfl, Nat.le_of_ble_eq_true rfl, Nat.le_of_ble_eq_true rfl⟩ hP hK hD hS hA (va_recv hK.1 hP (ci := 7) (q0 := 0) rfl rfl) hl rfl rfl (Nat.le_of_ble_eq_true rfl) ⟨Nat.zero_le _, Nat.zero_le _⟩ dX9_weeks_2 (fun r_ u_ H locs hr_ hP hD hS => ?_)
  subst hr_
  have hP : va_P D vwCl (mX cT q 1 n ro cl fb rn nd sk mo wk fx wi la da we) H := hP
  have hD : va_D A (mX cT q 1 n ro cl fb rn nd sk mo wk fx wi la da we) := hD
  refine n_beq S (tgt := 16) dX9_weeks_5 (by decide) (fun _ => ?_) (fun q => absurd q (by decide))
  refine lv_iconst (v := (nI 0)) S.1 S.2.1 dX9_weeks_16 (by decide) ?_
  exact wr_iret S (()) hr rfl hlocks (rfl) (hP) (hD) hS dX9_weeks_17

set_option maxHeartbeats 4000000 in
set_option maxRecDepth 100000 in
theorem w_X9_weeks (l : Launch) (D : va_G) (cT : ClassId × ClassId × ClassId) (sz : Nat) (q : Nat → Nat) (bd th n ro cl fb rn : Nat) (nd sk mo wk fx wi la da we : Nat → Nat) (i : Nat) (hwf : wfC n bd fb rn nd sk mo wk fx wi la da we) (hz : ∀ b, b < 4 → bit fb (4 * b) = 0) (hi : i < n) : Met l yX9_weeks wsX9_weeks ({ frames := 4, cells := 0, slots := 0, locals := 94 } : Room) (va_Pc [.ref (q 0), .int (nI i)] (wr_R D (TY cT) (mX cT q th n ro cl fb rn nd sk mo wk fx wi la da we) sz)) (wQi (fun (r_ : Int32) (_ : Unit) => r_ = (nI (cnw (fe sk mo fx la da fb rn i) 16384))) D (fun (_ : Unit) => mX cT q 0 n ro cl fb rn nd sk mo wk fx wi la da we) (va_A (mX cT q th n ro cl fb rn nd sk mo wk fx wi la da we) sz)) 0 0 (va_A (mX cT q th n ro cl fb rn nd sk mo wk fx wi la da we) sz) := by
  refine wr_start (cc := cX9_weeks) (maxL := 2) (ret := (some .int)) RX9 ⟨by decide +kernel, rfl⟩ rfl (Nat.le_of_ble_eq_true rfl) ?_
  intro p0 e0 s0 m0 a0 b0 t0 c0 S hr hlocks hin hP hK hA hD hS ls hl
  generalize va_A (mX cT q th n ro cl fb rn nd sk mo wk fx wi la da we) sz = A at hA hD hS ⊢
  have hl : lv_has ls 2 [(0, .ref (q 0)), (1, .int (nI i))] := hl
  obtain ⟨hn, hcl, hfb, hrn, hnd, hper⟩ := id hwf
  have hpi := hper i
  refine lv_aload_n S.1 S.2.1 dX9_weeks_0 rfl (lv_at hl 0 rfl) ?_
  refine lv_iload_n S.1 S.2.1 dX9_weeks_1 rfl (lv_at hl 1 rfl) ?_
  refine wr_callVi (rest := []) S (w_X9_isAsked l D cT _ q bd th n ro cl fb rn nd sk mo wk fx wi la da we i (hwf) (hz) (by omega)) gX9_weeks_X9_isAsked rfl pd_X9_isAsked ⟨rfl, rfl, Nat.le_of_ble_eq_true rfl, Nat.le_of_ble_eq_true rfl⟩ hP hK hD hS hA (va_recv hK.1 hP (ci := 7) (q0 := 0) rfl rfl) hl rfl rfl (Nat.le_of_ble_eq_true rfl) ⟨Nat.zero_le _, Nat.zero_le _⟩ dX9_weeks_2 (fun r_ u_ H locs hr_ hP hD hS => ?_)
  subst hr_
  have hP : va_P D vwCl (mX cT q 0 n ro cl fb rn nd sk mo wk fx wi la da we) H := hP
  have hD : va_D A (mX cT q 0 n ro cl fb rn nd sk mo wk fx wi la da we) := hD
  refine n_beq S (tgt := 16) dX9_weeks_5 (by decide) (fun q => absurd q (by decide)) (fun _ => ?_)
  refine lv_aload_n S.1 S.2.1 dX9_weeks_8 rfl (lv_at hl 0 rfl) ?_
  refine lv_iload_n S.1 S.2.1 dX9_weeks_9 rfl (lv_at hl 1 rfl) ?_
  refine rd_callV (rest := []) S (r_X9_countWeeks l D cT q bd 0 n ro cl fb rn nd sk mo wk fx wi la da we i (hwf) (hz) (by omega)) gX9_weeks_X9_countWeeks rfl pd_X9_countWeeks ⟨rfl, rfl, Nat.le_of_ble_eq_true rfl, Nat.le_of_ble_eq_true rfl⟩ hP hK (va_recv hK.1 hP (ci := 7) (q0 := 0) rfl rfl) hl rfl rfl (Nat.le_of_ble_eq_true rfl) ⟨Nat.zero_le _, Nat.zero_le _⟩ dX9_weeks_10 ?_
  refine lv_goto (tgt := 17) S.1 S.2.1 dX9_weeks_13 (by decide) ?_
  exact wr_iret S (()) hr rfl hlocks (rfl) (hP) (hD) hS dX9_weeks_17

theorem pd_X9_weeksByDays : yX9_weeksByDays.cls = RX9 ∧ yX9_weeksByDays.cls ≠ "java/lang/invoke/MethodHandle" ∧ yX9_weeksByDays.cls ≠ "java/lang/invoke/VarHandle" ∧ (parseMethodDescriptor yX9_weeksByDays.desc).map (fun d => d.parameters.length) = some 1 := by decide +kernel
set_option maxHeartbeats 4000000 in
set_option maxRecDepth 100000 in
theorem w_X9_weeksByDays_x0 (l : Launch) (D : va_G) (cT : ClassId × ClassId × ClassId) (sz : Nat) (q : Nat → Nat) (bd th n ro cl fb rn : Nat) (nd sk mo wk fx wi la da we : Nat → Nat) (x : Int32) (hwf : wfC n bd fb rn nd sk mo wk fx wi la da we) (hz : ∀ b, b < 4 → bit fb (4 * b) = 0) (hx : PX x n) : Met l yX9_weeksByDays wsX9_weeksByDays ({ frames := 3, cells := 0, slots := 0, locals := 64 } : Room) (va_Pc [.ref (q 0), .int x] (wr_R D (TY cT) (mX cT q th n ro cl fb rn nd sk mo wk fx wi la da we) sz)) (wQi (fun (r_ : Int32) (_ : Unit) => r_ = (nI 0)) D (fun (_ : Unit) => mX cT q 1 n ro cl fb rn nd sk mo wk fx wi la da we) (va_A (mX cT q th n ro cl fb rn nd sk mo wk fx wi la da we) sz)) 0 0 (va_A (mX cT q th n ro cl fb rn nd sk mo wk fx wi la da we) sz) := by
  refine wr_start (cc := cX9_weeksByDays) (maxL := 2) (ret := (some .int)) RX9 ⟨by decide +kernel, rfl⟩ rfl (Nat.le_of_ble_eq_true rfl) ?_
  intro p0 e0 s0 m0 a0 b0 t0 c0 S hr hlocks hin hP hK hA hD hS ls hl
  generalize va_A (mX cT q th n ro cl fb rn nd sk mo wk fx wi la da we) sz = A at hA hD hS ⊢
  have hl : lv_has ls 2 [(0, .ref (q 0)), (1, .int x)] := hl
  obtain ⟨hn, hcl, hfb, hrn, hnd, hper⟩ := id hwf
  refine lv_aload_n S.1 S.2.1 dX9_weeksByDays_0 rfl (lv_at hl 0 rfl) ?_
  refine lv_iload_n S.1 S.2.1 dX9_weeksByDays_1 rfl (lv_at hl 1 rfl) ?_
  refine wr_callVi (rest := []) S (w_X9_isAsked_x l D cT _ q bd th n ro cl fb rn nd sk mo wk fx wi la da we x (hwf) (hz) (hx)) gX9_weeksByDays_X9_isAsked rfl pd_X9_isAsked ⟨rfl, rfl, Nat.le_of_ble_eq_true rfl, Nat.le_of_ble_eq_true rfl⟩ hP hK hD hS hA (va_recv hK.1 hP (ci := 7) (q0 := 0) rfl rfl) hl rfl rfl (Nat.le_of_ble_eq_true rfl) ⟨Nat.zero_le _, Nat.zero_le _⟩ dX9_weeksByDays_2 (fun r_ u_ H locs hr_ hP hD hS => ?_)
  subst hr_
  have hP : va_P D vwCl (mX cT q 1 n ro cl fb rn nd sk mo wk fx wi la da we) H := hP
  have hD : va_D A (mX cT q 1 n ro cl fb rn nd sk mo wk fx wi la da we) := hD
  refine n_beq S (tgt := 16) dX9_weeksByDays_5 (by decide) (fun _ => ?_) (fun q => absurd q (by decide))
  refine lv_iconst (v := (nI 0)) S.1 S.2.1 dX9_weeksByDays_16 (by decide) ?_
  exact wr_iret S (()) hr rfl hlocks (rfl) (hP) (hD) hS dX9_weeksByDays_17

set_option maxHeartbeats 4000000 in
set_option maxRecDepth 100000 in
theorem w_X9_weeksByDays (l : Launch) (D : va_G) (cT : ClassId × ClassId × ClassId) (sz : Nat) (q : Nat → Nat) (bd th n ro cl fb rn : Nat) (nd sk mo wk fx wi la da we : Nat → Nat) (i : Nat) (hwf : wfC n bd fb rn nd sk mo wk fx wi la da we) (hz : ∀ b, b < 4 → bit fb (4 * b) = 0) (hi : i < n) : Met l yX9_weeksByDays wsX9_weeksByDays ({ frames := 4, cells := 0, slots := 0, locals := 94 } : Room) (va_Pc [.ref (q 0), .int (nI i)] (wr_R D (TY cT) (mX cT q th n ro cl fb rn nd sk mo wk fx wi la da we) sz)) (wQi (fun (r_ : Int32) (_ : Unit) => r_ = (nI (cnw (fe sk mo fx la da fb rn i) 16384))) D (fun (_ : Unit) => mX cT q 0 n ro cl fb rn nd sk mo wk fx wi la da we) (va_A (mX cT q th n ro cl fb rn nd sk mo wk fx wi la da we) sz)) 0 0 (va_A (mX cT q th n ro cl fb rn nd sk mo wk fx wi la da we) sz) := by
  refine wr_start (cc := cX9_weeksByDays) (maxL := 2) (ret := (some .int)) RX9 ⟨by decide +kernel, rfl⟩ rfl (Nat.le_of_ble_eq_true rfl) ?_
  intro p0 e0 s0 m0 a0 b0 t0 c0 S hr hlocks hin hP hK hA hD hS ls hl
  generalize va_A (mX cT q th n ro cl fb rn nd sk mo wk fx wi la da we) sz = A at hA hD hS ⊢
  have hl : lv_has ls 2 [(0, .ref (q 0)), (1, .int (nI i))] := hl
  obtain ⟨hn, hcl, hfb, hrn, hnd, hper⟩ := id hwf
  have hpi := hper i
  refine lv_aload_n S.1 S.2.1 dX9_weeksByDays_0 rfl (lv_at hl 0 rfl) ?_
  refine lv_iload_n S.1 S.2.1 dX9_weeksByDays_1 rfl (lv_at hl 1 rfl) ?_
  refine wr_callVi (rest := []) S (w_X9_isAsked l D cT _ q bd th n ro cl fb rn nd sk mo wk fx wi la da we i (hwf) (hz) (by omega)) gX9_weeksByDays_X9_isAsked rfl pd_X9_isAsked ⟨rfl, rfl, Nat.le_of_ble_eq_true rfl, Nat.le_of_ble_eq_true rfl⟩ hP hK hD hS hA (va_recv hK.1 hP (ci := 7) (q0 := 0) rfl rfl) hl rfl rfl (Nat.le_of_ble_eq_true rfl) ⟨Nat.zero_le _, Nat.zero_le _⟩ dX9_weeksByDays_2 (fun r_ u_ H locs hr_ hP hD hS => ?_)
  subst hr_
  have hP : va_P D vwCl (mX cT q 0 n ro cl fb rn nd sk mo wk fx wi la da we) H := hP
  have hD : va_D A (mX cT q 0 n ro cl fb rn nd sk mo wk fx wi la da we) := hD
  refine n_beq S (tgt := 16) dX9_weeksByDays_5 (by decide) (fun q => absurd q (by decide)) (fun _ => ?_)
  refine lv_aload_n S.1 S.2.1 dX9_weeksByDays_8 rfl (lv_at hl 0 rfl) ?_
  refine lv_iload_n S.1 S.2.1 dX9_weeksByDays_9 rfl (lv_at hl 1 rfl) ?_
  refine rd_callV (rest := []) S (r_X9_countWeeks l D cT q bd 0 n ro cl fb rn nd sk mo wk fx wi la da we i (hwf) (hz) (by omega)) gX9_weeksByDays_X9_countWeeks rfl pd_X9_countWeeks ⟨rfl, rfl, Nat.le_of_ble_eq_true rfl, Nat.le_of_ble_eq_true rfl⟩ hP hK (va_recv hK.1 hP (ci := 7) (q0 := 0) rfl rfl) hl rfl rfl (Nat.le_of_ble_eq_true rfl) ⟨Nat.zero_le _, Nat.zero_le _⟩ dX9_weeksByDays_10 ?_
  refine lv_goto (tgt := 17) S.1 S.2.1 dX9_weeksByDays_13 (by decide) ?_
  exact wr_iret S (()) hr rfl hlocks (rfl) (hP) (hD) hS dX9_weeksByDays_17

