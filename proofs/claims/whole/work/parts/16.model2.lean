theorem pd_X9_in : yX9_in.cls ≠ "java/lang/invoke/MethodHandle" ∧ yX9_in.cls ≠ "java/lang/invoke/VarHandle" ∧ (parseMethodDescriptor yX9_in.desc).map (fun d => d.parameters.length) = some 3 := by decide +kernel
set_option maxHeartbeats 4000000 in
set_option maxRecDepth 100000 in
theorem r_X9_in (l : Launch) (D : va_G) (cT : ClassId × ClassId × ClassId) (x lo hi : Int32)  : Met l yX9_in wsX9_in ({ frames := 0, cells := 0, slots := 0, locals := 0 }) (va_Pc [.int x, .int lo, .int hi] (sx_R D (TY cT) ([]))) (vp_Si (fun r_ => r_ = (nI (inb x lo hi).toNat))) 0 0 (fun _ => False) := by
  refine rd_start (cc := cX9_in) (maxL := 3) (ret := (some .boolean)) RX9 ⟨by decide +kernel, rfl⟩ rfl (Nat.le_of_ble_eq_true rfl) ?_
  intro p0 e0 s0 m0 a0 b0 t0 c0 S hr hlocks hP hK ls hl
  have hl : lv_has ls 3 [(0, .int x), (1, .int lo), (2, .int hi)] := hl
  refine lv_iload_n S.1 S.2.1 dX9_in_0 rfl (lv_at hl 0 rfl) ?_
  refine lv_iload_n S.1 S.2.1 dX9_in_1 rfl (lv_at hl 1 rfl) ?_
  refine lv_icmp_lt (tgt := 14) S.1 S.2.1 dX9_in_2 (by decide) (fun c2 => ?_) (fun c2 => ?_)
  · refine lv_iconst (v := (nI 0)) S.1 S.2.1 dX9_in_14 (by decide) ?_
    exact rd_iret S hr (by decide) hlocks (by first | exact r_f (fun h => by rw [inb_f (Or.inl c2)] at h; cases h) | exact r_f (fun h => by rw [inb_f (Or.inr c7)] at h; cases h)) dX9_in_15
  · refine lv_iload_n S.1 S.2.1 dX9_in_5 rfl (lv_at hl 0 rfl) ?_
    refine lv_iload_n S.1 S.2.1 dX9_in_6 rfl (lv_at hl 2 rfl) ?_
    refine lv_icmp_gt (tgt := 14) S.1 S.2.1 dX9_in_7 (by decide) (fun c7 => ?_) (fun c7 => ?_)
    · refine lv_iconst (v := (nI 0)) S.1 S.2.1 dX9_in_14 (by decide) ?_
      exact rd_iret S hr (by decide) hlocks (by first | exact r_f (fun h => by rw [inb_f (Or.inl c2)] at h; cases h) | exact r_f (fun h => by rw [inb_f (Or.inr c7)] at h; cases h)) dX9_in_15
    · refine lv_iconst (v := (nI 1)) S.1 S.2.1 dX9_in_10 (by decide) ?_
      refine lv_goto (tgt := 15) S.1 S.2.1 dX9_in_11 (by decide) ?_
      exact rd_iret S hr (by decide) hlocks (r_t (by show (decide (lo ≤ x) && decide (x ≤ hi)) = true; rw [decide_eq_true (Int32.not_lt.mp c2), decide_eq_true (Int32.not_lt.mp c7)]; rfl)) dX9_in_15

theorem pd_X9_isDay : yX9_isDay.cls ≠ "java/lang/invoke/MethodHandle" ∧ yX9_isDay.cls ≠ "java/lang/invoke/VarHandle" ∧ (parseMethodDescriptor yX9_isDay.desc).map (fun d => d.parameters.length) = some 1 := by decide +kernel
set_option maxHeartbeats 4000000 in
set_option maxRecDepth 100000 in
theorem r_X9_isDay (l : Launch) (D : va_G) (cT : ClassId × ClassId × ClassId) (d : Nat) (hd : d < 7) : Met l yX9_isDay wsX9_isDay ({ frames := 1, cells := 0, slots := 0, locals := 22 }) (va_Pc [.int (nI d)] (sx_R D (TY cT) ([]))) (vp_Si (fun r_ => r_ = (nI true.toNat))) 0 0 (fun _ => False) := by
  refine rd_start (cc := cX9_isDay) (maxL := 1) (ret := (some .boolean)) RX9 ⟨by decide +kernel, rfl⟩ rfl (Nat.le_of_ble_eq_true rfl) ?_
  intro p0 e0 s0 m0 a0 b0 t0 c0 S hr hlocks hP hK ls hl
  have hl : lv_has ls 1 [(0, .int (nI d))] := hl
  refine lv_iload_n S.1 S.2.1 dX9_isDay_0 rfl (lv_at hl 0 rfl) ?_
  refine lv_iconst (v := (nI 0)) S.1 S.2.1 dX9_isDay_1 (by decide) ?_
  refine lv_bipush (v := (nI 6)) S.1 S.2.1 dX9_isDay_2 (by decide) ?_
  refine rd_callS (rest := []) S (r_X9_in l D cT (nI d) (nI 0) (nI 6) ) gX9_isDay_X9_in rfl pd_X9_in ⟨rfl, rfl, Nat.le_of_ble_eq_true rfl, Nat.le_of_ble_eq_true rfl⟩ (sx_P0 D _) hK hl rfl rfl (Nat.le_of_ble_eq_true rfl) ⟨Nat.zero_le _, Nat.zero_le _⟩ dX9_isDay_4 ?_
  refine n_top (show (nI (inb (nI d) (nI 0) (nI 6)).toNat) = (nI true.toNat) from by rw [inb_t ⟨Nat.zero_le _, by omega, by decide⟩]) ?_
  exact rd_iret S hr (sx_bt _) hlocks (rfl) dX9_isDay_7

set_option maxHeartbeats 4000000 in
set_option maxRecDepth 100000 in
theorem r_X9_isDay_x (l : Launch) (D : va_G) (cT : ClassId × ClassId × ClassId) (x : Int32) (hx : PX x 7) : Met l yX9_isDay wsX9_isDay ({ frames := 1, cells := 0, slots := 0, locals := 22 }) (va_Pc [.int x] (sx_R D (TY cT) ([]))) (vp_Si (fun r_ => r_ = (nI false.toNat))) 0 0 (fun _ => False) := by
  refine rd_start (cc := cX9_isDay) (maxL := 1) (ret := (some .boolean)) RX9 ⟨by decide +kernel, rfl⟩ rfl (Nat.le_of_ble_eq_true rfl) ?_
  intro p0 e0 s0 m0 a0 b0 t0 c0 S hr hlocks hP hK ls hl
  have hl : lv_has ls 1 [(0, .int x)] := hl
  refine lv_iload_n S.1 S.2.1 dX9_isDay_0 rfl (lv_at hl 0 rfl) ?_
  refine lv_iconst (v := (nI 0)) S.1 S.2.1 dX9_isDay_1 (by decide) ?_
  refine lv_bipush (v := (nI 6)) S.1 S.2.1 dX9_isDay_2 (by decide) ?_
  refine rd_callS (rest := []) S (r_X9_in l D cT x (nI 0) (nI 6) ) gX9_isDay_X9_in rfl pd_X9_in ⟨rfl, rfl, Nat.le_of_ble_eq_true rfl, Nat.le_of_ble_eq_true rfl⟩ (sx_P0 D _) hK hl rfl rfl (Nat.le_of_ble_eq_true rfl) ⟨Nat.zero_le _, Nat.zero_le _⟩ dX9_isDay_4 ?_
  refine n_top (show (nI (inb x (nI 0) (nI 6)).toNat) = (nI false.toNat) from by rw [inb_f (px_7 hx (by decide))]) ?_
  exact rd_iret S hr (sx_bt _) hlocks (rfl) dX9_isDay_7

theorem pd_X9_isKind : yX9_isKind.cls ≠ "java/lang/invoke/MethodHandle" ∧ yX9_isKind.cls ≠ "java/lang/invoke/VarHandle" ∧ (parseMethodDescriptor yX9_isKind.desc).map (fun d => d.parameters.length) = some 1 := by decide +kernel
set_option maxHeartbeats 4000000 in
set_option maxRecDepth 100000 in
theorem r_X9_isKind (l : Launch) (D : va_G) (cT : ClassId × ClassId × ClassId) (e : Nat) (hd : 1 ≤ e ∧ e < 4) : Met l yX9_isKind wsX9_isKind ({ frames := 1, cells := 0, slots := 0, locals := 22 }) (va_Pc [.int (nI e)] (sx_R D (TY cT) ([]))) (vp_Si (fun r_ => r_ = (nI true.toNat))) 0 0 (fun _ => False) := by
  refine rd_start (cc := cX9_isKind) (maxL := 1) (ret := (some .boolean)) RX9 ⟨by decide +kernel, rfl⟩ rfl (Nat.le_of_ble_eq_true rfl) ?_
  intro p0 e0 s0 m0 a0 b0 t0 c0 S hr hlocks hP hK ls hl
  have hl : lv_has ls 1 [(0, .int (nI e))] := hl
  refine lv_iload_n S.1 S.2.1 dX9_isKind_0 rfl (lv_at hl 0 rfl) ?_
  refine lv_iconst (v := (nI 1)) S.1 S.2.1 dX9_isKind_1 (by decide) ?_
  refine lv_iconst (v := (nI 3)) S.1 S.2.1 dX9_isKind_2 (by decide) ?_
  refine rd_callS (rest := []) S (r_X9_in l D cT (nI e) (nI 1) (nI 3) ) gX9_isKind_X9_in rfl pd_X9_in ⟨rfl, rfl, Nat.le_of_ble_eq_true rfl, Nat.le_of_ble_eq_true rfl⟩ (sx_P0 D _) hK hl rfl rfl (Nat.le_of_ble_eq_true rfl) ⟨Nat.zero_le _, Nat.zero_le _⟩ dX9_isKind_3 ?_
  refine n_top (show (nI (inb (nI e) (nI 1) (nI 3)).toNat) = (nI true.toNat) from by rw [inb_t ⟨by omega, by omega, by decide⟩]) ?_
  exact rd_iret S hr (sx_bt _) hlocks (rfl) dX9_isKind_6

set_option maxHeartbeats 4000000 in
set_option maxRecDepth 100000 in
theorem r_X9_isKind_x (l : Launch) (D : va_G) (cT : ClassId × ClassId × ClassId) (x : Int32) (hx : x < nI 1 ∨ nI 3 < x) : Met l yX9_isKind wsX9_isKind ({ frames := 1, cells := 0, slots := 0, locals := 22 }) (va_Pc [.int x] (sx_R D (TY cT) ([]))) (vp_Si (fun r_ => r_ = (nI false.toNat))) 0 0 (fun _ => False) := by
  refine rd_start (cc := cX9_isKind) (maxL := 1) (ret := (some .boolean)) RX9 ⟨by decide +kernel, rfl⟩ rfl (Nat.le_of_ble_eq_true rfl) ?_
  intro p0 e0 s0 m0 a0 b0 t0 c0 S hr hlocks hP hK ls hl
  have hl : lv_has ls 1 [(0, .int x)] := hl
  refine lv_iload_n S.1 S.2.1 dX9_isKind_0 rfl (lv_at hl 0 rfl) ?_
  refine lv_iconst (v := (nI 1)) S.1 S.2.1 dX9_isKind_1 (by decide) ?_
  refine lv_iconst (v := (nI 3)) S.1 S.2.1 dX9_isKind_2 (by decide) ?_
  refine rd_callS (rest := []) S (r_X9_in l D cT x (nI 1) (nI 3) ) gX9_isKind_X9_in rfl pd_X9_in ⟨rfl, rfl, Nat.le_of_ble_eq_true rfl, Nat.le_of_ble_eq_true rfl⟩ (sx_P0 D _) hK hl rfl rfl (Nat.le_of_ble_eq_true rfl) ⟨Nat.zero_le _, Nat.zero_le _⟩ dX9_isKind_3 ?_
  refine n_top (show (nI (inb x (nI 1) (nI 3)).toNat) = (nI false.toNat) from by rw [inb_f hx]) ?_
  exact rd_iret S hr (sx_bt _) hlocks (rfl) dX9_isKind_6

theorem pd_X9_isPerson : yX9_isPerson.cls = RX9 ∧ yX9_isPerson.cls ≠ "java/lang/invoke/MethodHandle" ∧ yX9_isPerson.cls ≠ "java/lang/invoke/VarHandle" ∧ (parseMethodDescriptor yX9_isPerson.desc).map (fun d => d.parameters.length) = some 1 := by decide +kernel
theorem w_X9_isPerson_0 : Cond.fieldLink RX9 47 "CoverSheetModel" "many" "I" ∈ wsX9_isPerson := by decide +kernel
theorem in_X9_isPerson_X9 : ∀ w ∈ u_ws RX9 TX9 15, w ∈ wsX9_isPerson := by decide +kernel
set_option maxHeartbeats 4000000 in
set_option maxRecDepth 100000 in
theorem r_X9_isPerson (l : Launch) (D : va_G) (cT : ClassId × ClassId × ClassId) (q : Nat → Nat) (bd th n ro cl fb rn : Nat) (nd sk mo wk fx wi la da we : Nat → Nat) (i : Nat) (hwf : wfC n bd fb rn nd sk mo wk fx wi la da we) (hz : ∀ b, b < 4 → bit fb (4 * b) = 0) (hi : i < n) : Met l yX9_isPerson wsX9_isPerson ({ frames := 1, cells := 0, slots := 0, locals := 22 }) (va_Pc [.ref (q 0), .int (nI i)] (sx_R D (TY cT) (mX cT q th n ro cl fb rn nd sk mo wk fx wi la da we))) (vp_Si (fun r_ => r_ = (nI true.toNat))) 0 0 (fun _ => False) := by
  refine rd_start (cc := cX9_isPerson) (maxL := 2) (ret := (some .boolean)) RX9 ⟨by decide +kernel, rfl⟩ rfl (Nat.le_of_ble_eq_true rfl) ?_
  intro p0 e0 s0 m0 a0 b0 t0 c0 S hr hlocks hP hK ls hl
  have hl : lv_has ls 2 [(0, .ref (q 0)), (1, .int (nI i))] := hl
  obtain ⟨hn, hcl, hfb, hrn, hnd, hper⟩ := id hwf
  refine lv_iload_n S.1 S.2.1 dX9_isPerson_0 rfl (lv_at hl 1 rfl) ?_
  refine lv_iconst (v := (nI 0)) S.1 S.2.1 dX9_isPerson_1 (by decide) ?_
  refine lv_aload_n S.1 S.2.1 dX9_isPerson_2 rfl (lv_at hl 0 rfl) ?_
  refine g_get (C := RX9) (T := TX9) (N := 15) (v := .int (nI n)) S 0 7 1 in_X9_isPerson_X9 hK hP rfl rfl (by decide) w_X9_isPerson_0 rfl dX9_isPerson_3 ?_
  refine lv_iconst (v := (nI 1)) S.1 S.2.1 dX9_isPerson_6 (by decide) ?_
  refine lv_isub S.1 S.2.1 dX9_isPerson_7 ?_
  refine rd_callS (rest := []) S (r_X9_in l D cT (nI i) (nI 0) ((nI n) - (nI 1)) ) gX9_isPerson_X9_in rfl pd_X9_in ⟨rfl, rfl, Nat.le_of_ble_eq_true rfl, Nat.le_of_ble_eq_true rfl⟩ (sx_P0 D _) hK hl rfl rfl (Nat.le_of_ble_eq_true rfl) ⟨Nat.zero_le _, Nat.zero_le _⟩ dX9_isPerson_8 ?_
  refine n_top (show (nI (inb (nI i) (nI 0) ((nI n) - (nI 1))).toNat) = (nI true.toNat) from by rw [inb_n hi hn]) ?_
  exact rd_iret S hr (sx_bt _) hlocks (rfl) dX9_isPerson_11

set_option maxHeartbeats 4000000 in
set_option maxRecDepth 100000 in
theorem r_X9_isPerson_x (l : Launch) (D : va_G) (cT : ClassId × ClassId × ClassId) (q : Nat → Nat) (bd th n ro cl fb rn : Nat) (nd sk mo wk fx wi la da we : Nat → Nat) (x : Int32) (hwf : wfC n bd fb rn nd sk mo wk fx wi la da we) (hz : ∀ b, b < 4 → bit fb (4 * b) = 0) (hx : PX x n) : Met l yX9_isPerson wsX9_isPerson ({ frames := 1, cells := 0, slots := 0, locals := 22 }) (va_Pc [.ref (q 0), .int x] (sx_R D (TY cT) (mX cT q th n ro cl fb rn nd sk mo wk fx wi la da we))) (vp_Si (fun r_ => r_ = (nI false.toNat))) 0 0 (fun _ => False) := by
  refine rd_start (cc := cX9_isPerson) (maxL := 2) (ret := (some .boolean)) RX9 ⟨by decide +kernel, rfl⟩ rfl (Nat.le_of_ble_eq_true rfl) ?_
  intro p0 e0 s0 m0 a0 b0 t0 c0 S hr hlocks hP hK ls hl
  have hl : lv_has ls 2 [(0, .ref (q 0)), (1, .int x)] := hl
  obtain ⟨hn, hcl, hfb, hrn, hnd, hper⟩ := id hwf
  refine lv_iload_n S.1 S.2.1 dX9_isPerson_0 rfl (lv_at hl 1 rfl) ?_
  refine lv_iconst (v := (nI 0)) S.1 S.2.1 dX9_isPerson_1 (by decide) ?_
  refine lv_aload_n S.1 S.2.1 dX9_isPerson_2 rfl (lv_at hl 0 rfl) ?_
  refine g_get (C := RX9) (T := TX9) (N := 15) (v := .int (nI n)) S 0 7 1 in_X9_isPerson_X9 hK hP rfl rfl (by decide) w_X9_isPerson_0 rfl dX9_isPerson_3 ?_
  refine lv_iconst (v := (nI 1)) S.1 S.2.1 dX9_isPerson_6 (by decide) ?_
  refine lv_isub S.1 S.2.1 dX9_isPerson_7 ?_
  refine rd_callS (rest := []) S (r_X9_in l D cT x (nI 0) ((nI n) - (nI 1)) ) gX9_isPerson_X9_in rfl pd_X9_in ⟨rfl, rfl, Nat.le_of_ble_eq_true rfl, Nat.le_of_ble_eq_true rfl⟩ (sx_P0 D _) hK hl rfl rfl (Nat.le_of_ble_eq_true rfl) ⟨Nat.zero_le _, Nat.zero_le _⟩ dX9_isPerson_8 ?_
  refine n_top (show (nI (inb x (nI 0) ((nI n) - (nI 1))).toNat) = (nI false.toNat) from by rw [inb_f (px_n hx hn)]) ?_
  exact rd_iret S hr (sx_bt _) hlocks (rfl) dX9_isPerson_11

theorem pd_X9_countEntries : yX9_countEntries.cls = RX9 ∧ yX9_countEntries.cls ≠ "java/lang/invoke/MethodHandle" ∧ yX9_countEntries.cls ≠ "java/lang/invoke/VarHandle" ∧ (parseMethodDescriptor yX9_countEntries.desc).map (fun d => d.parameters.length) = some 3 := by decide +kernel
theorem w_X9_countEntries_0 : Cond.fieldLink RX9 47 "CoverSheetModel" "many" "I" ∈ wsX9_countEntries := by decide +kernel
theorem w_X9_countEntries_1 : Cond.fieldLink RX9 26 "CoverSheetModel" "entries" "[I" ∈ wsX9_countEntries := by decide +kernel
theorem in_X9_countEntries_X9 : ∀ w ∈ u_ws RX9 TX9 15, w ∈ wsX9_countEntries := by decide +kernel
set_option maxHeartbeats 4000000 in
set_option maxRecDepth 100000 in
theorem r_X9_countEntries (l : Launch) (D : va_G) (cT : ClassId × ClassId × ClassId) (q : Nat → Nat) (bd th n ro cl fb rn : Nat) (nd sk mo wk fx wi la da we : Nat → Nat) (d e : Nat) (hwf : wfC n bd fb rn nd sk mo wk fx wi la da we) (hz : ∀ b, b < 4 → bit fb (4 * b) = 0) (hd : d < 7) (he : 1 ≤ e ∧ e < 4) : Met l yX9_countEntries wsX9_countEntries ({ frames := 0, cells := 0, slots := 0, locals := 0 }) (va_Pc [.ref (q 0), .int (nI d), .int (nI e), .int (-1)] (sx_R D (TY cT) (mX cT q th n ro cl fb rn nd sk mo wk fx wi la da we))) (vp_Si (fun r_ => r_ = (nI (cg n wk 99 d e 8)))) 0 0 (fun _ => False) := by
  refine rd_start (cc := cX9_countEntries) (maxL := 6) (ret := (some .int)) RX9 ⟨by decide +kernel, rfl⟩ rfl (Nat.le_of_ble_eq_true rfl) ?_
  intro p0 e0 s0 m0 a0 b0 t0 c0 S hr hlocks hP hK ls hl
  have hl : lv_has ls 6 [(0, .ref (q 0)), (1, .int (nI d)), (2, .int (nI e)), (3, .int (-1))] := hl
  obtain ⟨hn, hcl, hfb, hrn, hnd, hper⟩ := id hwf
  refine lv_iconst (v := (nI 0)) S.1 S.2.1 dX9_countEntries_0 (by decide) ?_
  refine lv_istore (lv' := [(4, .int (nI 0)), (0, .ref (q 0)), (1, .int (nI d)), (2, .int (nI e)), (3, .int (-1))]) S.1 S.2.1 dX9_countEntries_1 hl (by decide) rfl (fun ls hl => ?_)
  refine lv_iconst (v := (nI 0)) S.1 S.2.1 dX9_countEntries_3 (by decide) ?_
  refine lv_istore (lv' := [(5, .int (nI 0)), (4, .int (nI 0)), (0, .ref (q 0)), (1, .int (nI d)), (2, .int (nI e)), (3, .int (-1))]) S.1 S.2.1 dX9_countEntries_4 hl (by decide) rfl (fun ls hl => ?_)
  have lp6 : ∀ (fu : Nat) (k : Nat) (i : Nat), (i ≤ n) → (k = cg n wk 99 d e i) → (n - i) < fu → ∀ ls : Array Slot, lv_has ls 6 [(0, .ref (q 0)), (1, .int (nI d)), (2, .int (nI e)), (3, .int (-1)), (4, .int (nI k)), (5, .int (nI i))] → W p0 l e0 ({ frames := 0, cells := 0, slots := 0, locals := 0 } : Room) s0 m0 a0 b0 t0 c0 s0.heap [] 0 0 (MQ b0 (vp_Si (fun r_ => r_ = (nI (cg n wk 99 d e 8)))) a0 s0 0 0 (fun _ => False)) (F0 m0 6 ls []) := by
    intro fu
    induction fu with
    | zero =>
      intro k i h2 hk hm
      exact absurd hm (Nat.not_lt_zero _)
    | succ fu ih6 =>
      intro k i h2 hk hm ls hl
      refine lv_iload S.1 S.2.1 dX9_countEntries_6 (lv_at hl 5 rfl) ?_
      refine lv_aload_n S.1 S.2.1 dX9_countEntries_8 rfl (lv_at hl 0 rfl) ?_
      refine g_get (C := RX9) (T := TX9) (N := 15) (v := .int (nI n)) S 0 7 1 in_X9_countEntries_X9 hK hP rfl rfl (by decide) w_X9_countEntries_0 rfl dX9_countEntries_9 ?_
      refine n_cge S (tgt := 53) (by omega) dX9_countEntries_12 (by decide) (fun c12 => ?_) (fun c12 => ?_)
      · refine lv_iload S.1 S.2.1 dX9_countEntries_53 (lv_at hl 4 rfl) ?_
        exact rd_iret S hr rfl hlocks (by rw [hk, show i = n by omega, cg_8 hn]) dX9_countEntries_55
      · refine lv_iload S.1 S.2.1 dX9_countEntries_15 (lv_at hl 4 rfl) ?_
        refine lv_iload S.1 S.2.1 dX9_countEntries_17 (lv_at hl 5 rfl) ?_
        refine lv_iload_n S.1 S.2.1 dX9_countEntries_19 rfl (lv_at hl 3 rfl) ?_
        refine lv_icmp_eq (tgt := 43) S.1 S.2.1 dX9_countEntries_20 (by decide) (fun c20 => ?_) (fun c20 => ?_)
        · exact absurd c20 (nI_m1 (by omega))
        refine lv_aload_n S.1 S.2.1 dX9_countEntries_23 rfl (lv_at hl 0 rfl) ?_
        refine g_get (C := RX9) (T := TX9) (N := 15) (v := .ref (q 5)) S 0 7 9 in_X9_countEntries_X9 hK hP rfl rfl (by decide) w_X9_countEntries_1 rfl dX9_countEntries_24 ?_
        refine lv_bipush (v := (nI 7)) S.1 S.2.1 dX9_countEntries_27 (by decide) ?_
        refine lv_iload S.1 S.2.1 dX9_countEntries_29 (lv_at hl 5 rfl) ?_
        refine n_mul S dX9_countEntries_31 ?_
        refine lv_iload_n S.1 S.2.1 dX9_countEntries_32 rfl (lv_at hl 1 rfl) ?_
        refine n_add S dX9_countEntries_33 ?_
        refine g_iald S 5 hK hP rfl (by omega) dX9_countEntries_34 ?_
        refine n_top (show (nI (enf wk ((7 * i) + d))) = (nI (ent (wk i) d)) from congrArg nI (en_at (by omega))) ?_
        refine lv_iload_n S.1 S.2.1 dX9_countEntries_35 rfl (lv_at hl 2 rfl) ?_
        refine n_cne S (tgt := 43) (⟨Nat.lt_trans (ent_lt _ _) (by decide), by omega⟩) dX9_countEntries_36 (by decide) (fun c36 => ?_) (fun c36 => ?_)
        · refine lv_iconst (v := (nI 0)) S.1 S.2.1 dX9_countEntries_43 (by decide) ?_
          refine n_add S dX9_countEntries_44 ?_
          refine lv_istore (lv' := [(4, .int (nI (k + 0))), (0, .ref (q 0)), (1, .int (nI d)), (2, .int (nI e)), (3, .int (-1)), (5, .int (nI i))]) S.1 S.2.1 dX9_countEntries_45 hl (by decide) rfl (fun ls hl => ?_)
          refine lv_iinc (v := (nI (i + 1))) (lv' := [(5, .int (nI (i + 1))), (4, .int (nI (k + 0))), (0, .ref (q 0)), (1, .int (nI d)), (2, .int (nI e)), (3, .int (-1))]) S.1 S.2.1 dX9_countEntries_47 hl (k := 5) rfl (nI_1 _) (by decide) rfl (fun ls hl => ?_)
          refine lv_goto (tgt := 6) S.1 S.2.1 dX9_countEntries_50 (by decide) ?_
          exact ih6 (k + 0) (i + 1) (by omega) (by first | (rw [hk]; exact (cg_1 ⟨c12, by omega, c36⟩).symm) | (rw [hk]; exact (cg_0 (fun q => c36 q.2.2)).symm)) (by omega) ls (lv_sub hl [2, 3, 4, 5, 1, 0] rfl)
        · refine lv_iconst (v := (nI 1)) S.1 S.2.1 dX9_countEntries_39 (by decide) ?_
          refine lv_goto (tgt := 44) S.1 S.2.1 dX9_countEntries_40 (by decide) ?_
          refine n_add S dX9_countEntries_44 ?_
          refine lv_istore (lv' := [(4, .int (nI (k + 1))), (0, .ref (q 0)), (1, .int (nI d)), (2, .int (nI e)), (3, .int (-1)), (5, .int (nI i))]) S.1 S.2.1 dX9_countEntries_45 hl (by decide) rfl (fun ls hl => ?_)
          refine lv_iinc (v := (nI (i + 1))) (lv' := [(5, .int (nI (i + 1))), (4, .int (nI (k + 1))), (0, .ref (q 0)), (1, .int (nI d)), (2, .int (nI e)), (3, .int (-1))]) S.1 S.2.1 dX9_countEntries_47 hl (k := 5) rfl (nI_1 _) (by decide) rfl (fun ls hl => ?_)
          refine lv_goto (tgt := 6) S.1 S.2.1 dX9_countEntries_50 (by decide) ?_
          exact ih6 (k + 1) (i + 1) (by omega) (by first | (rw [hk]; exact (cg_1 ⟨c12, by omega, c36⟩).symm) | (rw [hk]; exact (cg_0 (fun q => c36 q.2.2)).symm)) (by omega) ls (lv_sub hl [2, 3, 4, 5, 1, 0] rfl)
  exact lp6 _ 0 0 (Nat.zero_le _) (rfl) (Nat.lt_succ_self _) ls (lv_sub hl [2, 3, 4, 5, 1, 0] rfl)

theorem pd_X9_gapOf : yX9_gapOf.cls = RX9 ∧ yX9_gapOf.cls ≠ "java/lang/invoke/MethodHandle" ∧ yX9_gapOf.cls ≠ "java/lang/invoke/VarHandle" ∧ (parseMethodDescriptor yX9_gapOf.desc).map (fun d => d.parameters.length) = some 3 := by decide +kernel
theorem w_X9_gapOf_0 : Cond.fieldLink RX9 20 "CoverSheetModel" "need" "[I" ∈ wsX9_gapOf := by decide +kernel
theorem in_X9_gapOf_X9 : ∀ w ∈ u_ws RX9 TX9 15, w ∈ wsX9_gapOf := by decide +kernel
set_option maxHeartbeats 4000000 in
set_option maxRecDepth 100000 in
theorem r_X9_gapOf (l : Launch) (D : va_G) (cT : ClassId × ClassId × ClassId) (q : Nat → Nat) (bd th n ro cl fb rn : Nat) (nd sk mo wk fx wi la da we : Nat → Nat) (d e : Nat) (hwf : wfC n bd fb rn nd sk mo wk fx wi la da we) (hz : ∀ b, b < 4 → bit fb (4 * b) = 0) (hd : d < 7) (he : 1 ≤ e ∧ e < 4) : Met l yX9_gapOf wsX9_gapOf ({ frames := 1, cells := 0, slots := 0, locals := 25 }) (va_Pc [.ref (q 0), .int (nI d), .int (nI e), .int (-1)] (sx_R D (TY cT) (mX cT q th n ro cl fb rn nd sk mo wk fx wi la da we))) (vp_Si (fun r_ => r_ = (nI (gpw n nd wk 99 d e)))) 0 0 (fun _ => False) := by
  refine rd_start (cc := cX9_gapOf) (maxL := 5) (ret := (some .int)) RX9 ⟨by decide +kernel, rfl⟩ rfl (Nat.le_of_ble_eq_true rfl) ?_
  intro p0 e0 s0 m0 a0 b0 t0 c0 S hr hlocks hP hK ls hl
  have hl : lv_has ls 5 [(0, .ref (q 0)), (1, .int (nI d)), (2, .int (nI e)), (3, .int (-1))] := hl
  obtain ⟨hn, hcl, hfb, hrn, hnd, hper⟩ := id hwf
  have hcg := cg_le n wk 99 d e 8
  have hq := hnd (d * 4 + e)
  refine lv_aload_n S.1 S.2.1 dX9_gapOf_0 rfl (lv_at hl 0 rfl) ?_
  refine g_get (C := RX9) (T := TX9) (N := 15) (v := .ref (q 3)) S 0 7 7 in_X9_gapOf_X9 hK hP rfl rfl (by decide) w_X9_gapOf_0 rfl dX9_gapOf_1 ?_
  refine lv_iconst (v := (nI 4)) S.1 S.2.1 dX9_gapOf_4 (by decide) ?_
  refine lv_iload_n S.1 S.2.1 dX9_gapOf_5 rfl (lv_at hl 1 rfl) ?_
  refine n_mul S dX9_gapOf_6 ?_
  refine lv_iload_n S.1 S.2.1 dX9_gapOf_7 rfl (lv_at hl 2 rfl) ?_
  refine n_add S dX9_gapOf_8 ?_
  refine g_iald S 3 hK hP rfl (by omega) dX9_gapOf_9 ?_
  refine n_top (show (nI (nd ((4 * d) + e))) = (nI (nd (d * 4 + e))) from by rw [Nat.mul_comm 4 d]) ?_
  refine lv_aload_n S.1 S.2.1 dX9_gapOf_10 rfl (lv_at hl 0 rfl) ?_
  refine lv_iload_n S.1 S.2.1 dX9_gapOf_11 rfl (lv_at hl 1 rfl) ?_
  refine lv_iload_n S.1 S.2.1 dX9_gapOf_12 rfl (lv_at hl 2 rfl) ?_
  refine lv_iload_n S.1 S.2.1 dX9_gapOf_13 rfl (lv_at hl 3 rfl) ?_
  refine rd_callV (rest := [.int (nI (nd (d * 4 + e)))]) S (r_X9_countEntries l D cT q bd th n ro cl fb rn nd sk mo wk fx wi la da we d e (hwf) (hz) (by omega) (by omega)) gX9_gapOf_X9_countEntries rfl pd_X9_countEntries ⟨rfl, rfl, Nat.le_of_ble_eq_true rfl, Nat.le_of_ble_eq_true rfl⟩ hP hK (va_recv hK.1 hP (ci := 7) (q0 := 0) rfl rfl) hl rfl rfl (Nat.le_of_ble_eq_true rfl) ⟨Nat.zero_le _, Nat.zero_le _⟩ dX9_gapOf_14 ?_
  refine lv_isub S.1 S.2.1 dX9_gapOf_17 ?_
  refine lv_istore (lv' := [(4, .int ((nI (nd (d * 4 + e))) - (nI (cg n wk 99 d e 8)))), (0, .ref (q 0)), (1, .int (nI d)), (2, .int (nI e)), (3, .int (-1))]) S.1 S.2.1 dX9_gapOf_18 hl (by decide) rfl (fun ls hl => ?_)
  refine lv_iload S.1 S.2.1 dX9_gapOf_20 (lv_at hl 0 rfl) ?_
  refine lv_if_le (tgt := 30) S.1 S.2.1 dX9_gapOf_22 (by decide) (fun c22 => ?_) (fun c22 => ?_)
  · refine lv_iconst (v := (nI 0)) S.1 S.2.1 dX9_gapOf_30 (by decide) ?_
    exact rd_iret S hr rfl hlocks (by show nI 0 = nI (nd (d * 4 + e) - cg n wk 99 d e 8); rw [Nat.sub_eq_zero_of_le ((dif_le0 ⟨by omega, by omega⟩).mp c22)]) dX9_gapOf_31
  · refine lv_iload S.1 S.2.1 dX9_gapOf_25 (lv_at hl 0 rfl) ?_
    refine lv_goto (tgt := 31) S.1 S.2.1 dX9_gapOf_27 (by decide) ?_
    exact rd_iret S hr rfl hlocks (sx_sub (Nat.le_of_lt (Nat.lt_of_not_le (fun z => c22 ((dif_le0 ⟨by omega, by omega⟩).mpr z))))) dX9_gapOf_31

set_option maxHeartbeats 4000000 in
set_option maxRecDepth 100000 in
theorem r_X9_countEntries_w (l : Launch) (D : va_G) (cT : ClassId × ClassId × ClassId) (q : Nat → Nat) (bd th n ro cl fb rn : Nat) (nd sk mo wk fx wi la da we : Nat → Nat) (w d e : Nat) (hwf : wfC n bd fb rn nd sk mo wk fx wi la da we) (hz : ∀ b, b < 4 → bit fb (4 * b) = 0) (hd : d < 7) (he : 1 ≤ e ∧ e < 4) (hw : w < n) : Met l yX9_countEntries wsX9_countEntries ({ frames := 0, cells := 0, slots := 0, locals := 0 }) (va_Pc [.ref (q 0), .int (nI d), .int (nI e), .int (nI w)] (sx_R D (TY cT) (mX cT q th n ro cl fb rn nd sk mo wk fx wi la da we))) (vp_Si (fun r_ => r_ = (nI (cg n wk w d e 8)))) 0 0 (fun _ => False) := by
  refine rd_start (cc := cX9_countEntries) (maxL := 6) (ret := (some .int)) RX9 ⟨by decide +kernel, rfl⟩ rfl (Nat.le_of_ble_eq_true rfl) ?_
  intro p0 e0 s0 m0 a0 b0 t0 c0 S hr hlocks hP hK ls hl
  have hl : lv_has ls 6 [(0, .ref (q 0)), (1, .int (nI d)), (2, .int (nI e)), (3, .int (nI w))] := hl
  obtain ⟨hn, hcl, hfb, hrn, hnd, hper⟩ := id hwf
  refine lv_iconst (v := (nI 0)) S.1 S.2.1 dX9_countEntries_0 (by decide) ?_
  refine lv_istore (lv' := [(4, .int (nI 0)), (0, .ref (q 0)), (1, .int (nI d)), (2, .int (nI e)), (3, .int (nI w))]) S.1 S.2.1 dX9_countEntries_1 hl (by decide) rfl (fun ls hl => ?_)
  refine lv_iconst (v := (nI 0)) S.1 S.2.1 dX9_countEntries_3 (by decide) ?_
  refine lv_istore (lv' := [(5, .int (nI 0)), (4, .int (nI 0)), (0, .ref (q 0)), (1, .int (nI d)), (2, .int (nI e)), (3, .int (nI w))]) S.1 S.2.1 dX9_countEntries_4 hl (by decide) rfl (fun ls hl => ?_)
  have lp6 : ∀ (fu : Nat) (k : Nat) (i : Nat), (i ≤ n) → (k = cg n wk w d e i) → (n - i) < fu → ∀ ls : Array Slot, lv_has ls 6 [(0, .ref (q 0)), (1, .int (nI d)), (2, .int (nI e)), (3, .int (nI w)), (4, .int (nI k)), (5, .int (nI i))] → W p0 l e0 ({ frames := 0, cells := 0, slots := 0, locals := 0 } : Room) s0 m0 a0 b0 t0 c0 s0.heap [] 0 0 (MQ b0 (vp_Si (fun r_ => r_ = (nI (cg n wk w d e 8)))) a0 s0 0 0 (fun _ => False)) (F0 m0 6 ls []) := by
    intro fu
    induction fu with
    | zero =>
      intro k i h2 hk hm
      exact absurd hm (Nat.not_lt_zero _)
    | succ fu ih6 =>
      intro k i h2 hk hm ls hl
      refine lv_iload S.1 S.2.1 dX9_countEntries_6 (lv_at hl 5 rfl) ?_
      refine lv_aload_n S.1 S.2.1 dX9_countEntries_8 rfl (lv_at hl 0 rfl) ?_
      refine g_get (C := RX9) (T := TX9) (N := 15) (v := .int (nI n)) S 0 7 1 in_X9_countEntries_X9 hK hP rfl rfl (by decide) w_X9_countEntries_0 rfl dX9_countEntries_9 ?_
      refine n_cge S (tgt := 53) (by omega) dX9_countEntries_12 (by decide) (fun c12 => ?_) (fun c12 => ?_)
      · refine lv_iload S.1 S.2.1 dX9_countEntries_53 (lv_at hl 4 rfl) ?_
        exact rd_iret S hr rfl hlocks (by rw [hk, show i = n by omega, cg_8 hn]) dX9_countEntries_55
      · refine lv_iload S.1 S.2.1 dX9_countEntries_15 (lv_at hl 4 rfl) ?_
        refine lv_iload S.1 S.2.1 dX9_countEntries_17 (lv_at hl 5 rfl) ?_
        refine lv_iload_n S.1 S.2.1 dX9_countEntries_19 rfl (lv_at hl 3 rfl) ?_
        refine n_ceq S (tgt := 43) (by omega) dX9_countEntries_20 (by decide) (fun c20 => ?_) (fun c20 => ?_)
        · refine lv_iconst (v := (nI 0)) S.1 S.2.1 dX9_countEntries_43 (by decide) ?_
          refine n_add S dX9_countEntries_44 ?_
          refine lv_istore (lv' := [(4, .int (nI (k + 0))), (0, .ref (q 0)), (1, .int (nI d)), (2, .int (nI e)), (3, .int (nI w)), (5, .int (nI i))]) S.1 S.2.1 dX9_countEntries_45 hl (by decide) rfl (fun ls hl => ?_)
          refine lv_iinc (v := (nI (i + 1))) (lv' := [(5, .int (nI (i + 1))), (4, .int (nI (k + 0))), (0, .ref (q 0)), (1, .int (nI d)), (2, .int (nI e)), (3, .int (nI w))]) S.1 S.2.1 dX9_countEntries_47 hl (k := 5) rfl (nI_1 _) (by decide) rfl (fun ls hl => ?_)
          refine lv_goto (tgt := 6) S.1 S.2.1 dX9_countEntries_50 (by decide) ?_
          exact ih6 (k + 0) (i + 1) (by omega) (by first | (rw [hk]; exact (cg_1 ⟨c12, c20, c36⟩).symm) | (rw [hk]; exact (cg_0 (fun q => c36 q.2.2)).symm) | (rw [hk]; exact (cg_0 (fun q => q.2.1 c20)).symm)) (by omega) ls (lv_sub hl [2, 3, 4, 5, 1, 0] rfl)
        · refine lv_aload_n S.1 S.2.1 dX9_countEntries_23 rfl (lv_at hl 0 rfl) ?_
          refine g_get (C := RX9) (T := TX9) (N := 15) (v := .ref (q 5)) S 0 7 9 in_X9_countEntries_X9 hK hP rfl rfl (by decide) w_X9_countEntries_1 rfl dX9_countEntries_24 ?_
          refine lv_bipush (v := (nI 7)) S.1 S.2.1 dX9_countEntries_27 (by decide) ?_
          refine lv_iload S.1 S.2.1 dX9_countEntries_29 (lv_at hl 5 rfl) ?_
          refine n_mul S dX9_countEntries_31 ?_
          refine lv_iload_n S.1 S.2.1 dX9_countEntries_32 rfl (lv_at hl 1 rfl) ?_
          refine n_add S dX9_countEntries_33 ?_
          refine g_iald S 5 hK hP rfl (by omega) dX9_countEntries_34 ?_
          refine n_top (show (nI (enf wk ((7 * i) + d))) = (nI (ent (wk i) d)) from congrArg nI (en_at (by omega))) ?_
          refine lv_iload_n S.1 S.2.1 dX9_countEntries_35 rfl (lv_at hl 2 rfl) ?_
          refine n_cne S (tgt := 43) (⟨Nat.lt_trans (ent_lt _ _) (by decide), by omega⟩) dX9_countEntries_36 (by decide) (fun c36 => ?_) (fun c36 => ?_)
          · refine lv_iconst (v := (nI 0)) S.1 S.2.1 dX9_countEntries_43 (by decide) ?_
            refine n_add S dX9_countEntries_44 ?_
            refine lv_istore (lv' := [(4, .int (nI (k + 0))), (0, .ref (q 0)), (1, .int (nI d)), (2, .int (nI e)), (3, .int (nI w)), (5, .int (nI i))]) S.1 S.2.1 dX9_countEntries_45 hl (by decide) rfl (fun ls hl => ?_)
            refine lv_iinc (v := (nI (i + 1))) (lv' := [(5, .int (nI (i + 1))), (4, .int (nI (k + 0))), (0, .ref (q 0)), (1, .int (nI d)), (2, .int (nI e)), (3, .int (nI w))]) S.1 S.2.1 dX9_countEntries_47 hl (k := 5) rfl (nI_1 _) (by decide) rfl (fun ls hl => ?_)
            refine lv_goto (tgt := 6) S.1 S.2.1 dX9_countEntries_50 (by decide) ?_
            exact ih6 (k + 0) (i + 1) (by omega) (by first | (rw [hk]; exact (cg_1 ⟨c12, c20, c36⟩).symm) | (rw [hk]; exact (cg_0 (fun q => c36 q.2.2)).symm) | (rw [hk]; exact (cg_0 (fun q => q.2.1 c20)).symm)) (by omega) ls (lv_sub hl [2, 3, 4, 5, 1, 0] rfl)
          · refine lv_iconst (v := (nI 1)) S.1 S.2.1 dX9_countEntries_39 (by decide) ?_
            refine lv_goto (tgt := 44) S.1 S.2.1 dX9_countEntries_40 (by decide) ?_
            refine n_add S dX9_countEntries_44 ?_
            refine lv_istore (lv' := [(4, .int (nI (k + 1))), (0, .ref (q 0)), (1, .int (nI d)), (2, .int (nI e)), (3, .int (nI w)), (5, .int (nI i))]) S.1 S.2.1 dX9_countEntries_45 hl (by decide) rfl (fun ls hl => ?_)
            refine lv_iinc (v := (nI (i + 1))) (lv' := [(5, .int (nI (i + 1))), (4, .int (nI (k + 1))), (0, .ref (q 0)), (1, .int (nI d)), (2, .int (nI e)), (3, .int (nI w))]) S.1 S.2.1 dX9_countEntries_47 hl (k := 5) rfl (nI_1 _) (by decide) rfl (fun ls hl => ?_)
            refine lv_goto (tgt := 6) S.1 S.2.1 dX9_countEntries_50 (by decide) ?_
            exact ih6 (k + 1) (i + 1) (by omega) (by first | (rw [hk]; exact (cg_1 ⟨c12, c20, c36⟩).symm) | (rw [hk]; exact (cg_0 (fun q => c36 q.2.2)).symm) | (rw [hk]; exact (cg_0 (fun q => q.2.1 c20)).symm)) (by omega) ls (lv_sub hl [2, 3, 4, 5, 1, 0] rfl)
  exact lp6 _ 0 0 (Nat.zero_le _) (rfl) (Nat.lt_succ_self _) ls (lv_sub hl [2, 3, 4, 5, 1, 0] rfl)

set_option maxHeartbeats 4000000 in
set_option maxRecDepth 100000 in
theorem r_X9_gapOf_w (l : Launch) (D : va_G) (cT : ClassId × ClassId × ClassId) (q : Nat → Nat) (bd th n ro cl fb rn : Nat) (nd sk mo wk fx wi la da we : Nat → Nat) (w d e : Nat) (hwf : wfC n bd fb rn nd sk mo wk fx wi la da we) (hz : ∀ b, b < 4 → bit fb (4 * b) = 0) (hd : d < 7) (he : 1 ≤ e ∧ e < 4) (hw : w < n) : Met l yX9_gapOf wsX9_gapOf ({ frames := 1, cells := 0, slots := 0, locals := 25 }) (va_Pc [.ref (q 0), .int (nI d), .int (nI e), .int (nI w)] (sx_R D (TY cT) (mX cT q th n ro cl fb rn nd sk mo wk fx wi la da we))) (vp_Si (fun r_ => r_ = (nI (gpw n nd wk w d e)))) 0 0 (fun _ => False) := by
  refine rd_start (cc := cX9_gapOf) (maxL := 5) (ret := (some .int)) RX9 ⟨by decide +kernel, rfl⟩ rfl (Nat.le_of_ble_eq_true rfl) ?_
  intro p0 e0 s0 m0 a0 b0 t0 c0 S hr hlocks hP hK ls hl
  have hl : lv_has ls 5 [(0, .ref (q 0)), (1, .int (nI d)), (2, .int (nI e)), (3, .int (nI w))] := hl
  obtain ⟨hn, hcl, hfb, hrn, hnd, hper⟩ := id hwf
  have hcg := cg_le n wk w d e 8
  have hq := hnd (d * 4 + e)
  refine lv_aload_n S.1 S.2.1 dX9_gapOf_0 rfl (lv_at hl 0 rfl) ?_
  refine g_get (C := RX9) (T := TX9) (N := 15) (v := .ref (q 3)) S 0 7 7 in_X9_gapOf_X9 hK hP rfl rfl (by decide) w_X9_gapOf_0 rfl dX9_gapOf_1 ?_
  refine lv_iconst (v := (nI 4)) S.1 S.2.1 dX9_gapOf_4 (by decide) ?_
  refine lv_iload_n S.1 S.2.1 dX9_gapOf_5 rfl (lv_at hl 1 rfl) ?_
  refine n_mul S dX9_gapOf_6 ?_
  refine lv_iload_n S.1 S.2.1 dX9_gapOf_7 rfl (lv_at hl 2 rfl) ?_
  refine n_add S dX9_gapOf_8 ?_
  refine g_iald S 3 hK hP rfl (by omega) dX9_gapOf_9 ?_
  refine n_top (show (nI (nd ((4 * d) + e))) = (nI (nd (d * 4 + e))) from by rw [Nat.mul_comm 4 d]) ?_
  refine lv_aload_n S.1 S.2.1 dX9_gapOf_10 rfl (lv_at hl 0 rfl) ?_
  refine lv_iload_n S.1 S.2.1 dX9_gapOf_11 rfl (lv_at hl 1 rfl) ?_
  refine lv_iload_n S.1 S.2.1 dX9_gapOf_12 rfl (lv_at hl 2 rfl) ?_
  refine lv_iload_n S.1 S.2.1 dX9_gapOf_13 rfl (lv_at hl 3 rfl) ?_
  refine rd_callV (rest := [.int (nI (nd (d * 4 + e)))]) S (r_X9_countEntries_w l D cT q bd th n ro cl fb rn nd sk mo wk fx wi la da we w d e (hwf) (hz) (by omega) (by omega) (by omega)) gX9_gapOf_X9_countEntries rfl pd_X9_countEntries ⟨rfl, rfl, Nat.le_of_ble_eq_true rfl, Nat.le_of_ble_eq_true rfl⟩ hP hK (va_recv hK.1 hP (ci := 7) (q0 := 0) rfl rfl) hl rfl rfl (Nat.le_of_ble_eq_true rfl) ⟨Nat.zero_le _, Nat.zero_le _⟩ dX9_gapOf_14 ?_
  refine lv_isub S.1 S.2.1 dX9_gapOf_17 ?_
  refine lv_istore (lv' := [(4, .int ((nI (nd (d * 4 + e))) - (nI (cg n wk w d e 8)))), (0, .ref (q 0)), (1, .int (nI d)), (2, .int (nI e)), (3, .int (nI w))]) S.1 S.2.1 dX9_gapOf_18 hl (by decide) rfl (fun ls hl => ?_)
  refine lv_iload S.1 S.2.1 dX9_gapOf_20 (lv_at hl 0 rfl) ?_
  refine lv_if_le (tgt := 30) S.1 S.2.1 dX9_gapOf_22 (by decide) (fun c22 => ?_) (fun c22 => ?_)
  · refine lv_iconst (v := (nI 0)) S.1 S.2.1 dX9_gapOf_30 (by decide) ?_
    exact rd_iret S hr rfl hlocks (by show nI 0 = nI (nd (d * 4 + e) - cg n wk w d e 8); rw [Nat.sub_eq_zero_of_le ((dif_le0 ⟨by omega, by omega⟩).mp c22)]) dX9_gapOf_31
  · refine lv_iload S.1 S.2.1 dX9_gapOf_25 (lv_at hl 0 rfl) ?_
    refine lv_goto (tgt := 31) S.1 S.2.1 dX9_gapOf_27 (by decide) ?_
    exact rd_iret S hr rfl hlocks (sx_sub (Nat.le_of_lt (Nat.lt_of_not_le (fun z => c22 ((dif_le0 ⟨by omega, by omega⟩).mpr z))))) dX9_gapOf_31

theorem pd_X9_allGaps : yX9_allGaps.cls = RX9 ∧ yX9_allGaps.cls ≠ "java/lang/invoke/MethodHandle" ∧ yX9_allGaps.cls ≠ "java/lang/invoke/VarHandle" ∧ (parseMethodDescriptor yX9_allGaps.desc).map (fun d => d.parameters.length) = some 0 := by decide +kernel
set_option maxHeartbeats 4000000 in
set_option maxRecDepth 100000 in
theorem r_X9_allGaps (l : Launch) (D : va_G) (cT : ClassId × ClassId × ClassId) (q : Nat → Nat) (bd th n ro cl fb rn : Nat) (nd sk mo wk fx wi la da we : Nat → Nat) (hwf : wfC n bd fb rn nd sk mo wk fx wi la da we) (hz : ∀ b, b < 4 → bit fb (4 * b) = 0) : Met l yX9_allGaps wsX9_allGaps ({ frames := 2, cells := 0, slots := 0, locals := 49 }) (va_Pc [.ref (q 0)] (sx_R D (TY cT) (mX cT q th n ro cl fb rn nd sk mo wk fx wi la da we))) (vp_Si (fun r_ => r_ = (nI (gpd n nd wk 7)))) 0 0 (fun _ => False) := by
  refine rd_start (cc := cX9_allGaps) (maxL := 4) (ret := (some .int)) RX9 ⟨by decide +kernel, rfl⟩ rfl (Nat.le_of_ble_eq_true rfl) ?_
  intro p0 e0 s0 m0 a0 b0 t0 c0 S hr hlocks hP hK ls hl
  have hl : lv_has ls 4 [(0, .ref (q 0))] := hl
  obtain ⟨hn, hcl, hfb, hrn, hnd, hper⟩ := id hwf
  refine lv_iconst (v := (nI 0)) S.1 S.2.1 dX9_allGaps_0 (by decide) ?_
  refine lv_istore_n (lv' := [(1, .int (nI 0)), (0, .ref (q 0))]) S.1 S.2.1 dX9_allGaps_1 rfl hl (by decide) rfl (fun ls hl => ?_)
  refine lv_iconst (v := (nI 0)) S.1 S.2.1 dX9_allGaps_2 (by decide) ?_
  refine lv_istore_n (lv' := [(2, .int (nI 0)), (1, .int (nI 0)), (0, .ref (q 0))]) S.1 S.2.1 dX9_allGaps_3 rfl hl (by decide) rfl (fun ls hl => ?_)
  have lp4 : ∀ (fu : Nat) (su : Nat) (d : Nat), (d ≤ 7) → (su = gpd n nd wk d) → (7 - d) < fu → ∀ ls : Array Slot, lv_has ls 4 [(0, .ref (q 0)), (1, .int (nI su)), (2, .int (nI d))] → W p0 l e0 ({ frames := 2, cells := 0, slots := 0, locals := 49 } : Room) s0 m0 a0 b0 t0 c0 s0.heap [] 0 0 (MQ b0 (vp_Si (fun r_ => r_ = (nI (gpd n nd wk 7)))) a0 s0 0 0 (fun _ => False)) (F0 m0 4 ls []) := by
    intro fu
    induction fu with
    | zero =>
      intro su d h2 hs hm
      exact absurd hm (Nat.not_lt_zero _)
    | succ fu ih4 =>
      intro su d h2 hs hm ls hl
      refine lv_iload_n S.1 S.2.1 dX9_allGaps_4 rfl (lv_at hl 2 rfl) ?_
      refine lv_bipush (v := (nI 7)) S.1 S.2.1 dX9_allGaps_5 (by decide) ?_
      refine n_cge S (tgt := 39) (by omega) dX9_allGaps_7 (by decide) (fun c7 => ?_) (fun c7 => ?_)
      · refine lv_iload_n S.1 S.2.1 dX9_allGaps_39 rfl (lv_at hl 1 rfl) ?_
        exact rd_iret S hr rfl hlocks (by rw [hs, show d = 7 by omega]) dX9_allGaps_40
      · refine lv_iconst (v := (nI 1)) S.1 S.2.1 dX9_allGaps_10 (by decide) ?_
        refine lv_istore_n (lv' := [(3, .int (nI 1)), (0, .ref (q 0)), (1, .int (nI su)), (2, .int (nI d))]) S.1 S.2.1 dX9_allGaps_11 rfl hl (by decide) rfl (fun ls hl => ?_)
        have lp12 : ∀ (fu : Nat) (sv : Nat) (j : Nat), (j ≤ 3) → (sv = gpd n nd wk d + gpk n nd wk d j) → (3 - j) < fu → ∀ ls : Array Slot, lv_has ls 4 [(0, .ref (q 0)), (1, .int (nI sv)), (2, .int (nI d)), (3, .int (nI (j + 1)))] → W p0 l e0 ({ frames := 2, cells := 0, slots := 0, locals := 49 } : Room) s0 m0 a0 b0 t0 c0 s0.heap [] 0 0 (MQ b0 (vp_Si (fun r_ => r_ = (nI (gpd n nd wk 7)))) a0 s0 0 0 (fun _ => False)) (F0 m0 12 ls []) := by
          intro fu
          induction fu with
          | zero =>
            intro sv j h3 hs2 hm
            exact absurd hm (Nat.not_lt_zero _)
          | succ fu ih12 =>
            intro sv j h3 hs2 hm ls hl
            refine lv_iload_n S.1 S.2.1 dX9_allGaps_12 rfl (lv_at hl 3 rfl) ?_
            refine lv_iconst (v := (nI 3)) S.1 S.2.1 dX9_allGaps_13 (by decide) ?_
            refine n_cgt S (tgt := 33) (by omega) dX9_allGaps_14 (by decide) (fun c14 => ?_) (fun c14 => ?_)
            · refine lv_iinc (v := (nI (d + 1))) (lv' := [(2, .int (nI (d + 1))), (0, .ref (q 0)), (1, .int (nI sv)), (3, .int (nI (j + 1)))]) S.1 S.2.1 dX9_allGaps_33 hl (k := 2) rfl (nI_1 _) (by decide) rfl (fun ls hl => ?_)
              refine lv_goto (tgt := 4) S.1 S.2.1 dX9_allGaps_36 (by decide) ?_
              exact ih4 sv (d + 1) (by omega) (by rw [hs2, show j = 3 by omega]; rfl) (by omega) ls (lv_sub hl [1, 2, 0] rfl)
            · refine lv_iload_n S.1 S.2.1 dX9_allGaps_17 rfl (lv_at hl 1 rfl) ?_
              refine lv_aload_n S.1 S.2.1 dX9_allGaps_18 rfl (lv_at hl 0 rfl) ?_
              refine lv_iload_n S.1 S.2.1 dX9_allGaps_19 rfl (lv_at hl 2 rfl) ?_
              refine lv_iload_n S.1 S.2.1 dX9_allGaps_20 rfl (lv_at hl 3 rfl) ?_
              refine lv_iconst (v := (-1)) S.1 S.2.1 dX9_allGaps_21 (by decide) ?_
              refine rd_callV (rest := [.int (nI sv)]) S (r_X9_gapOf l D cT q bd th n ro cl fb rn nd sk mo wk fx wi la da we d (j + 1) (hwf) (hz) (by omega) (by omega)) gX9_allGaps_X9_gapOf rfl pd_X9_gapOf ⟨rfl, rfl, Nat.le_of_ble_eq_true rfl, Nat.le_of_ble_eq_true rfl⟩ hP hK (va_recv hK.1 hP (ci := 7) (q0 := 0) rfl rfl) hl rfl rfl (Nat.le_of_ble_eq_true rfl) ⟨Nat.zero_le _, Nat.zero_le _⟩ dX9_allGaps_22 ?_
              refine n_add S dX9_allGaps_25 ?_
              refine lv_istore_n (lv' := [(1, .int (nI (sv + (gpw n nd wk 99 d (j + 1))))), (0, .ref (q 0)), (2, .int (nI d)), (3, .int (nI (j + 1)))]) S.1 S.2.1 dX9_allGaps_26 rfl hl (by decide) rfl (fun ls hl => ?_)
              refine lv_iinc (v := (nI (j + 1 + 1))) (lv' := [(3, .int (nI (j + 1 + 1))), (1, .int (nI (sv + (gpw n nd wk 99 d (j + 1))))), (0, .ref (q 0)), (2, .int (nI d))]) S.1 S.2.1 dX9_allGaps_27 hl (k := 3) rfl (nI_1 _) (by decide) rfl (fun ls hl => ?_)
              refine lv_goto (tgt := 12) S.1 S.2.1 dX9_allGaps_30 (by decide) ?_
              exact ih12 (sv + (gpw n nd wk 99 d (j + 1))) (j + 1) (by omega) (by rw [hs2, Nat.add_assoc]; rfl) (by omega) ls (lv_sub hl [2, 1, 3, 0] rfl)
        exact lp12 _ su 0 (Nat.zero_le _) (hs) (Nat.lt_succ_self _) ls (lv_sub hl [1, 2, 3, 0] rfl)
  exact lp4 _ 0 0 (Nat.zero_le _) (rfl) (Nat.lt_succ_self _) ls (lv_sub hl [2, 1, 0] rfl)

theorem pd_X9_fills : yX9_fills.cls = RX9 ∧ yX9_fills.cls ≠ "java/lang/invoke/MethodHandle" ∧ yX9_fills.cls ≠ "java/lang/invoke/VarHandle" ∧ (parseMethodDescriptor yX9_fills.desc).map (fun d => d.parameters.length) = some 1 := by decide +kernel
set_option maxHeartbeats 4000000 in
set_option maxRecDepth 100000 in
theorem r_X9_fills (l : Launch) (D : va_G) (cT : ClassId × ClassId × ClassId) (q : Nat → Nat) (bd th n ro cl fb rn : Nat) (nd sk mo wk fx wi la da we : Nat → Nat) (w : Nat) (hwf : wfC n bd fb rn nd sk mo wk fx wi la da we) (hz : ∀ b, b < 4 → bit fb (4 * b) = 0) (hw : w < n) : Met l yX9_fills wsX9_fills ({ frames := 2, cells := 0, slots := 0, locals := 49 }) (va_Pc [.ref (q 0), .int (nI w)] (sx_R D (TY cT) (mX cT q th n ro cl fb rn nd sk mo wk fx wi la da we))) (vp_Si (fun r_ => r_ = (nI (fl n nd wk w 21)))) 0 0 (fun _ => False) := by
  refine rd_start (cc := cX9_fills) (maxL := 5) (ret := (some .int)) RX9 ⟨by decide +kernel, rfl⟩ rfl (Nat.le_of_ble_eq_true rfl) ?_
  intro p0 e0 s0 m0 a0 b0 t0 c0 S hr hlocks hP hK ls hl
  have hl : lv_has ls 5 [(0, .ref (q 0)), (1, .int (nI w))] := hl
  obtain ⟨hn, hcl, hfb, hrn, hnd, hper⟩ := id hwf
  refine lv_iconst (v := (nI 0)) S.1 S.2.1 dX9_fills_0 (by decide) ?_
  refine lv_istore_n (lv' := [(2, .int (nI 0)), (0, .ref (q 0)), (1, .int (nI w))]) S.1 S.2.1 dX9_fills_1 rfl hl (by decide) rfl (fun ls hl => ?_)
  refine lv_iconst (v := (nI 0)) S.1 S.2.1 dX9_fills_2 (by decide) ?_
  refine lv_istore_n (lv' := [(3, .int (nI 0)), (2, .int (nI 0)), (0, .ref (q 0)), (1, .int (nI w))]) S.1 S.2.1 dX9_fills_3 rfl hl (by decide) rfl (fun ls hl => ?_)
  have lp4 : ∀ (fu : Nat) (su : Nat) (d : Nat), (d ≤ 7) → (su = fl n nd wk w (3 * d)) → (7 - d) < fu → ∀ ls : Array Slot, lv_has ls 5 [(0, .ref (q 0)), (1, .int (nI w)), (2, .int (nI su)), (3, .int (nI d))] → W p0 l e0 ({ frames := 2, cells := 0, slots := 0, locals := 49 } : Room) s0 m0 a0 b0 t0 c0 s0.heap [] 0 0 (MQ b0 (vp_Si (fun r_ => r_ = (nI (fl n nd wk w 21)))) a0 s0 0 0 (fun _ => False)) (F0 m0 4 ls []) := by
    intro fu
    induction fu with
    | zero =>
      intro su d h2 hs hm
      exact absurd hm (Nat.not_lt_zero _)
    | succ fu ih4 =>
      intro su d h2 hs hm ls hl
      refine lv_iload_n S.1 S.2.1 dX9_fills_4 rfl (lv_at hl 3 rfl) ?_
      refine lv_bipush (v := (nI 7)) S.1 S.2.1 dX9_fills_5 (by decide) ?_
      refine n_cge S (tgt := 57) (by omega) dX9_fills_7 (by decide) (fun c7 => ?_) (fun c7 => ?_)
      · refine lv_iload_n S.1 S.2.1 dX9_fills_57 rfl (lv_at hl 2 rfl) ?_
        exact rd_iret S hr rfl hlocks (by rw [hs, show d = 7 by omega]) dX9_fills_58
      · refine lv_iconst (v := (nI 1)) S.1 S.2.1 dX9_fills_10 (by decide) ?_
        refine lv_istore (lv' := [(4, .int (nI 1)), (0, .ref (q 0)), (1, .int (nI w)), (2, .int (nI su)), (3, .int (nI d))]) S.1 S.2.1 dX9_fills_11 hl (by decide) rfl (fun ls hl => ?_)
        have lp13 : ∀ (fu : Nat) (sv : Nat) (j : Nat), (j ≤ 3) → (sv = fl n nd wk w (3 * d + j)) → (3 - j) < fu → ∀ ls : Array Slot, lv_has ls 5 [(0, .ref (q 0)), (1, .int (nI w)), (2, .int (nI sv)), (3, .int (nI d)), (4, .int (nI (j + 1)))] → W p0 l e0 ({ frames := 2, cells := 0, slots := 0, locals := 49 } : Room) s0 m0 a0 b0 t0 c0 s0.heap [] 0 0 (MQ b0 (vp_Si (fun r_ => r_ = (nI (fl n nd wk w 21)))) a0 s0 0 0 (fun _ => False)) (F0 m0 13 ls []) := by
          intro fu
          induction fu with
          | zero =>
            intro sv j h3 hs2 hm
            exact absurd hm (Nat.not_lt_zero _)
          | succ fu ih13 =>
            intro sv j h3 hs2 hm ls hl
            refine lv_iload S.1 S.2.1 dX9_fills_13 (lv_at hl 4 rfl) ?_
            refine lv_iconst (v := (nI 3)) S.1 S.2.1 dX9_fills_15 (by decide) ?_
            refine n_cgt S (tgt := 51) (by omega) dX9_fills_16 (by decide) (fun c16 => ?_) (fun c16 => ?_)
            · refine lv_iinc (v := (nI (d + 1))) (lv' := [(3, .int (nI (d + 1))), (0, .ref (q 0)), (1, .int (nI w)), (2, .int (nI sv)), (4, .int (nI (j + 1)))]) S.1 S.2.1 dX9_fills_51 hl (k := 3) rfl (nI_1 _) (by decide) rfl (fun ls hl => ?_)
              refine lv_goto (tgt := 4) S.1 S.2.1 dX9_fills_54 (by decide) ?_
              exact ih4 sv (d + 1) (by omega) (by rw [hs2, show j = 3 by omega]; rfl) (by omega) ls (lv_sub hl [1, 2, 3, 0] rfl)
            · refine lv_iload_n S.1 S.2.1 dX9_fills_19 rfl (lv_at hl 2 rfl) ?_
              refine lv_aload_n S.1 S.2.1 dX9_fills_20 rfl (lv_at hl 0 rfl) ?_
              refine lv_iload_n S.1 S.2.1 dX9_fills_21 rfl (lv_at hl 3 rfl) ?_
              refine lv_iload S.1 S.2.1 dX9_fills_22 (lv_at hl 4 rfl) ?_
              refine lv_iload_n S.1 S.2.1 dX9_fills_24 rfl (lv_at hl 1 rfl) ?_
              refine rd_callV (rest := [.int (nI sv)]) S (r_X9_gapOf_w l D cT q bd th n ro cl fb rn nd sk mo wk fx wi la da we w d (j + 1) (hwf) (hz) (by omega) (by omega) (by omega)) gX9_fills_X9_gapOf rfl pd_X9_gapOf ⟨rfl, rfl, Nat.le_of_ble_eq_true rfl, Nat.le_of_ble_eq_true rfl⟩ hP hK (va_recv hK.1 hP (ci := 7) (q0 := 0) rfl rfl) hl rfl rfl (Nat.le_of_ble_eq_true rfl) ⟨Nat.zero_le _, Nat.zero_le _⟩ dX9_fills_25 ?_
              refine n_zle S (tgt := 42) (by have := hnd (d * 4 + (j + 1)); show nd (d * 4 + (j + 1)) - _ < _; omega) dX9_fills_28 (by decide) (fun c28 => ?_) (fun c28 => ?_)
              · refine lv_iconst (v := (nI 0)) S.1 S.2.1 dX9_fills_42 (by decide) ?_
                refine n_or S dX9_fills_43 ?_
                refine lv_istore_n (lv' := [(2, .int (nI (sv ||| 0))), (0, .ref (q 0)), (1, .int (nI w)), (3, .int (nI d)), (4, .int (nI (j + 1)))]) S.1 S.2.1 dX9_fills_44 rfl hl (by decide) rfl (fun ls hl => ?_)
                refine lv_iinc (v := (nI (j + 1 + 1))) (lv' := [(4, .int (nI (j + 1 + 1))), (2, .int (nI (sv ||| 0))), (0, .ref (q 0)), (1, .int (nI w)), (3, .int (nI d))]) S.1 S.2.1 dX9_fills_45 hl (k := 4) rfl (nI_1 _) (by decide) rfl (fun ls hl => ?_)
                refine lv_goto (tgt := 13) S.1 S.2.1 dX9_fills_48 (by decide) ?_
                exact ih13 (sv ||| 0) (j + 1) (by omega) (by first | (rw [hs2]; exact fl_1 (by omega) c28) | (rw [hs2]; exact fl_0 (by omega) c28)) (by omega) ls (lv_sub hl [2, 3, 1, 4, 0] rfl)
              · refine lv_iconst (v := (nI 1)) S.1 S.2.1 dX9_fills_31 (by decide) ?_
                refine lv_iconst (v := (nI 4)) S.1 S.2.1 dX9_fills_32 (by decide) ?_
                refine lv_iload_n S.1 S.2.1 dX9_fills_33 rfl (lv_at hl 3 rfl) ?_
                refine n_mul S dX9_fills_34 ?_
                refine lv_iload S.1 S.2.1 dX9_fills_35 (lv_at hl 4 rfl) ?_
                refine n_add S dX9_fills_37 ?_
                refine n_shl S (by omega) dX9_fills_38 ?_
                refine lv_goto (tgt := 43) S.1 S.2.1 dX9_fills_39 (by decide) ?_
                refine n_or S dX9_fills_43 ?_
                refine lv_istore_n (lv' := [(2, .int (nI (sv ||| (1 * 2 ^ ((4 * d) + (j + 1)))))), (0, .ref (q 0)), (1, .int (nI w)), (3, .int (nI d)), (4, .int (nI (j + 1)))]) S.1 S.2.1 dX9_fills_44 rfl hl (by decide) rfl (fun ls hl => ?_)
                refine lv_iinc (v := (nI (j + 1 + 1))) (lv' := [(4, .int (nI (j + 1 + 1))), (2, .int (nI (sv ||| (1 * 2 ^ ((4 * d) + (j + 1)))))), (0, .ref (q 0)), (1, .int (nI w)), (3, .int (nI d))]) S.1 S.2.1 dX9_fills_45 hl (k := 4) rfl (nI_1 _) (by decide) rfl (fun ls hl => ?_)
                refine lv_goto (tgt := 13) S.1 S.2.1 dX9_fills_48 (by decide) ?_
                exact ih13 (sv ||| (1 * 2 ^ ((4 * d) + (j + 1)))) (j + 1) (by omega) (by first | (rw [hs2]; exact fl_1 (by omega) c28) | (rw [hs2]; exact fl_0 (by omega) c28)) (by omega) ls (lv_sub hl [2, 3, 1, 4, 0] rfl)
        exact lp13 _ su 0 (Nat.zero_le _) (hs) (Nat.lt_succ_self _) ls (lv_sub hl [1, 2, 3, 4, 0] rfl)
  exact lp4 _ 0 0 (Nat.zero_le _) (rfl) (Nat.lt_succ_self _) ls (lv_sub hl [2, 3, 1, 0] rfl)

theorem pd_X9_price : yX9_price.cls = RX9 ∧ yX9_price.cls ≠ "java/lang/invoke/MethodHandle" ∧ yX9_price.cls ≠ "java/lang/invoke/VarHandle" ∧ (parseMethodDescriptor yX9_price.desc).map (fun d => d.parameters.length) = some 3 := by decide +kernel
theorem w_X9_price_0 : Cond.fieldLink RX9 41 "CoverSheetModel" "ends" "[I" ∈ wsX9_price := by decide +kernel
theorem w_X9_price_1 : Cond.constant RX9 85 ((nI 100000)) ∈ wsX9_price := by decide +kernel
theorem in_X9_price_X9 : ∀ w ∈ u_ws RX9 TX9 15, w ∈ wsX9_price := by decide +kernel
set_option maxHeartbeats 4000000 in
set_option maxRecDepth 100000 in
theorem r_X9_price (l : Launch) (D : va_G) (cT : ClassId × ClassId × ClassId) (q : Nat → Nat) (bd th n ro cl fb rn : Nat) (nd sk mo wk fx wi la da we : Nat → Nat) (i w f : Nat) (hwf : wfC n bd fb rn nd sk mo wk fx wi la da we) (hz : ∀ b, b < 4 → bit fb (4 * b) = 0) (hi : i < 8) (hw : w < 16384) (hf : f < 2 ^ 28) : Met l yX9_price wsX9_price ({ frames := 2, cells := 0, slots := 0, locals := 45 }) (va_Pc [.ref (q 0), .int (nI i), .int (nI w), .int (nI f)] (sx_R D (TY cT) (mX cT q th n ro cl fb rn nd sk mo wk fx wi la da we))) (vp_Si (fun r_ => r_ = (nI (prM (we i) (wi i) f w)))) 0 0 (fun _ => False) := by
  refine rd_start (cc := cX9_price) (maxL := 7) (ret := (some .int)) RX9 ⟨by decide +kernel, rfl⟩ rfl (Nat.le_of_ble_eq_true rfl) ?_
  intro p0 e0 s0 m0 a0 b0 t0 c0 S hr hlocks hP hK ls hl
  have hl : lv_has ls 7 [(0, .ref (q 0)), (1, .int (nI i)), (2, .int (nI w)), (3, .int (nI f))] := hl
  obtain ⟨hn, hcl, hfb, hrn, hnd, hper⟩ := id hwf
  refine lv_bipush (v := (nI 7)) S.1 S.2.1 dX9_price_0 (by decide) ?_
  refine lv_istore (lv' := [(4, .int (nI 7)), (0, .ref (q 0)), (1, .int (nI i)), (2, .int (nI w)), (3, .int (nI f))]) S.1 S.2.1 dX9_price_2 hl (by decide) rfl (fun ls hl => ?_)
  refine lv_iconst (v := (nI 0)) S.1 S.2.1 dX9_price_4 (by decide) ?_
  refine lv_istore (lv' := [(5, .int (nI 0)), (4, .int (nI 7)), (0, .ref (q 0)), (1, .int (nI i)), (2, .int (nI w)), (3, .int (nI f))]) S.1 S.2.1 dX9_price_5 hl (by decide) rfl (fun ls hl => ?_)
  have lp7 : ∀ (fu : Nat) (k : Nat) (d : Nat), (d ≤ 7) → (k = fc f w d) → (7 - d) < fu → ∀ ls : Array Slot, lv_has ls 7 [(0, .ref (q 0)), (1, .int (nI i)), (2, .int (nI w)), (3, .int (nI f)), (4, .int (nI (7 - k))), (5, .int (nI d))] → W p0 l e0 ({ frames := 2, cells := 0, slots := 0, locals := 45 } : Room) s0 m0 a0 b0 t0 c0 s0.heap [] 0 0 (MQ b0 (vp_Si (fun r_ => r_ = (nI (prM (we i) (wi i) f w)))) a0 s0 0 0 (fun _ => False)) (F0 m0 7 ls []) := by
    intro fu
    induction fu with
    | zero =>
      intro k d h2 hk hm
      exact absurd hm (Nat.not_lt_zero _)
    | succ fu ih7 =>
      intro k d h2 hk hm ls hl
      have hkl := fc_le f w d
      refine lv_iload S.1 S.2.1 dX9_price_7 (lv_at hl 5 rfl) ?_
      refine lv_bipush (v := (nI 7)) S.1 S.2.1 dX9_price_9 (by decide) ?_
      refine n_cge S (tgt := 58) (by omega) dX9_price_11 (by decide) (fun c11 => ?_) (fun c11 => ?_)
      · refine lv_iload_n S.1 S.2.1 dX9_price_58 rfl (lv_at hl 2 rfl) ?_
        refine rd_callS (rest := []) S (r_X9_weekendOf l D cT w (by omega)) gX9_price_X9_weekendOf rfl pd_X9_weekendOf ⟨rfl, rfl, Nat.le_of_ble_eq_true rfl, Nat.le_of_ble_eq_true rfl⟩ (sx_P0 D _) hK hl rfl rfl (Nat.le_of_ble_eq_true rfl) ⟨Nat.zero_le _, Nat.zero_le _⟩ dX9_price_59 ?_
        refine lv_aload_n S.1 S.2.1 dX9_price_62 rfl (lv_at hl 0 rfl) ?_
        refine g_get (C := RX9) (T := TX9) (N := 15) (v := .ref (q 10)) S 0 7 14 in_X9_price_X9 hK hP rfl rfl (by decide) w_X9_price_0 rfl dX9_price_63 ?_
        refine lv_iload_n S.1 S.2.1 dX9_price_66 rfl (lv_at hl 1 rfl) ?_
        refine g_iald S 10 hK hP rfl (by omega) dX9_price_67 ?_
        refine n_mul S dX9_price_68 ?_
        refine lv_istore (lv' := [(5, .int (nI ((shc w 5 2) * (we i)))), (0, .ref (q 0)), (1, .int (nI i)), (2, .int (nI w)), (3, .int (nI f)), (4, .int (nI (7 - k)))]) S.1 S.2.1 dX9_price_69 hl (by decide) rfl (fun ls hl => ?_)
        refine lv_iload S.1 S.2.1 dX9_price_71 (lv_at hl 5 rfl) ?_
        refine lv_bipush (v := (nI 8)) S.1 S.2.1 dX9_price_73 (by decide) ?_
        refine n_mul S dX9_price_75 ?_
        refine lv_iload_n S.1 S.2.1 dX9_price_76 rfl (lv_at hl 3 rfl) ?_
        refine rd_callS (rest := [.int (nI ((7 - k) * 8))]) S (r_X9_countShifts l D cT w (by omega)) gX9_price_X9_countShifts rfl pd_X9_countShifts ⟨rfl, rfl, Nat.le_of_ble_eq_true rfl, Nat.le_of_ble_eq_true rfl⟩ (sx_P0 D _) hK hl rfl rfl (Nat.le_of_ble_eq_true rfl) ⟨Nat.zero_le _, Nat.zero_le _⟩ dX9_price_77 ?_
        refine n_add S dX9_price_80 ?_
        refine lv_ldc S.1 S.2.1 (own := RX9) S.2.2.2.1 (S.2.2.2.2 _ w_X9_price_1) dX9_price_81 ?_
        refine n_mul S dX9_price_83 ?_
        refine lv_iload S.1 S.2.1 dX9_price_84 (lv_at hl 0 rfl) ?_
        refine n_add S dX9_price_86 ?_
        refine lv_bipush (v := (nI 8)) S.1 S.2.1 dX9_price_87 (by decide) ?_
        refine n_mul S dX9_price_89 ?_
        refine lv_aload_n S.1 S.2.1 dX9_price_90 rfl (lv_at hl 1 rfl) ?_
        refine lv_iload_n S.1 S.2.1 dX9_price_91 rfl (lv_at hl 2 rfl) ?_
        refine lv_iload_n S.1 S.2.1 dX9_price_92 rfl (lv_at hl 3 rfl) ?_
        refine rd_callV (rest := [.int (nI ((((((7 - k) * 8) + (shc w 0 7)) * 100000) + ((shc w 5 2) * (we i))) * 8))]) S (r_X9_brokenBy l D cT q bd th n ro cl fb rn nd sk mo wk fx wi la da we i w (hwf) (hz) (by omega) (by omega)) gX9_price_X9_brokenBy rfl pd_X9_brokenBy ⟨rfl, rfl, Nat.le_of_ble_eq_true rfl, Nat.le_of_ble_eq_true rfl⟩ hP hK (va_recv hK.1 hP (ci := 7) (q0 := 0) rfl rfl) hl rfl rfl (Nat.le_of_ble_eq_true rfl) ⟨Nat.zero_le _, Nat.zero_le _⟩ dX9_price_93 ?_
        refine n_add S dX9_price_96 ?_
        exact rd_iret S hr rfl hlocks (by rw [hk, show d = 7 by omega]; rfl) dX9_price_97
      · refine lv_iload_n S.1 S.2.1 dX9_price_14 rfl (lv_at hl 2 rfl) ?_
        refine lv_iload S.1 S.2.1 dX9_price_15 (lv_at hl 5 rfl) ?_
        refine rd_callS (rest := []) S (r_X9_entryOf l D cT w d (by omega) (by omega)) gX9_price_X9_entryOf rfl pd_X9_entryOf ⟨rfl, rfl, Nat.le_of_ble_eq_true rfl, Nat.le_of_ble_eq_true rfl⟩ (sx_P0 D _) hK hl rfl rfl (Nat.le_of_ble_eq_true rfl) ⟨Nat.zero_le _, Nat.zero_le _⟩ dX9_price_17 ?_
        refine lv_istore (lv' := [(6, .int (nI (ent w d))), (0, .ref (q 0)), (1, .int (nI i)), (2, .int (nI w)), (3, .int (nI f)), (4, .int (nI (7 - k))), (5, .int (nI d))]) S.1 S.2.1 dX9_price_20 hl (by decide) rfl (fun ls hl => ?_)
        have jn49 : ∀ (b1 : Nat) , (7 - k - b1 = 7 - fc f w (d + 1) ∧ b1 ≤ 7 - k) → ∀ ls : Array Slot, lv_has ls 7 [(0, .ref (q 0)), (1, .int (nI i)), (2, .int (nI w)), (3, .int (nI f)), (5, .int (nI d))] → W p0 l e0 ({ frames := 2, cells := 0, slots := 0, locals := 45 } : Room) s0 m0 a0 b0 t0 c0 s0.heap [] 0 0 (MQ b0 (vp_Si (fun r_ => r_ = (nI (prM (we i) (wi i) f w)))) a0 s0 0 0 (fun _ => False)) (F0 m0 49 ls [.int (nI b1), .int (nI (7 - k))]) := by
          intro b1 hb1 ls hl
          refine n_sub S (hb1.2) dX9_price_49 ?_
          refine n_top (show (nI ((7 - k) - b1)) = (nI (7 - fc f w (d + 1))) from congrArg nI hb1.1) ?_
          refine lv_istore (lv' := [(4, .int (nI (7 - fc f w (d + 1)))), (0, .ref (q 0)), (1, .int (nI i)), (2, .int (nI w)), (3, .int (nI f)), (5, .int (nI d))]) S.1 S.2.1 dX9_price_50 hl (by decide) rfl (fun ls hl => ?_)
          refine lv_iinc (v := (nI (d + 1))) (lv' := [(5, .int (nI (d + 1))), (4, .int (nI (7 - fc f w (d + 1)))), (0, .ref (q 0)), (1, .int (nI i)), (2, .int (nI w)), (3, .int (nI f))]) S.1 S.2.1 dX9_price_52 hl (k := 5) rfl (nI_1 _) (by decide) rfl (fun ls hl => ?_)
          refine lv_goto (tgt := 7) S.1 S.2.1 dX9_price_55 (by decide) ?_
          exact ih7 (fc f w (d + 1)) (d + 1) (by omega) (rfl) (by omega) ls (lv_sub hl [2, 3, 4, 5, 1, 0] rfl)
        refine lv_iload S.1 S.2.1 dX9_price_22 (lv_at hl 5 rfl) ?_
        refine lv_iload S.1 S.2.1 dX9_price_24 (lv_at hl 0 rfl) ?_
        refine n_zle S (tgt := 48) (Nat.lt_trans (ent_lt _ _) (by decide)) dX9_price_26 (by decide) (fun c26 => ?_) (fun c26 => ?_)
        · refine lv_iconst (v := (nI 0)) S.1 S.2.1 dX9_price_48 (by decide) ?_
          exact jn49 0 (by first | (rw [fc_1 c26 c41]; omega) | (rw [fc_0 (Or.inl c26)]; omega) | (rw [fc_0 (Or.inr c41)]; omega)) ls (lv_sub hl [1, 2, 3, 4, 6] rfl)
        · refine lv_iload_n S.1 S.2.1 dX9_price_29 rfl (lv_at hl 4 rfl) ?_
          refine lv_iconst (v := (nI 4)) S.1 S.2.1 dX9_price_30 (by decide) ?_
          refine lv_iload S.1 S.2.1 dX9_price_31 (lv_at hl 6 rfl) ?_
          refine n_mul S dX9_price_33 ?_
          refine lv_iload S.1 S.2.1 dX9_price_34 (lv_at hl 0 rfl) ?_
          refine n_add S dX9_price_36 ?_
          refine n_shr S (by have := ent_lt w d; omega) dX9_price_37 ?_
          refine lv_iconst (v := (nI 1)) S.1 S.2.1 dX9_price_38 (by decide) ?_
          refine n_and S dX9_price_39 ?_
          refine n_top (show (nI ((f / 2 ^ ((4 * d) + (ent w d))) &&& 1)) = (nI (bit f (4 * d + ent w d))) from congrArg nI (Nat.and_one_is_mod _)) ?_
          refine lv_iconst (v := (nI 1)) S.1 S.2.1 dX9_price_40 (by decide) ?_
          refine n_cne S (tgt := 48) (⟨Nat.lt_trans (bit_lt _ _) (by decide), by decide⟩) dX9_price_41 (by decide) (fun c41 => ?_) (fun c41 => ?_)
          · refine lv_iconst (v := (nI 0)) S.1 S.2.1 dX9_price_48 (by decide) ?_
            exact jn49 0 (by first | (rw [fc_1 c26 c41]; omega) | (rw [fc_0 (Or.inl c26)]; omega) | (rw [fc_0 (Or.inr c41)]; omega)) ls (lv_sub hl [1, 2, 3, 4, 6] rfl)
          · refine lv_iconst (v := (nI 1)) S.1 S.2.1 dX9_price_44 (by decide) ?_
            refine lv_goto (tgt := 49) S.1 S.2.1 dX9_price_45 (by decide) ?_
            exact jn49 1 (by first | (rw [fc_1 c26 c41]; omega) | (rw [fc_0 (Or.inl c26)]; omega) | (rw [fc_0 (Or.inr c41)]; omega)) ls (lv_sub hl [1, 2, 3, 4, 6] rfl)
  exact lp7 _ 0 0 (Nat.zero_le _) (rfl) (Nat.lt_succ_self _) ls (lv_sub hl [2, 3, 4, 5, 1, 0] rfl)

theorem pd_X9_choice : yX9_choice.cls = RX9 ∧ yX9_choice.cls ≠ "java/lang/invoke/MethodHandle" ∧ yX9_choice.cls ≠ "java/lang/invoke/VarHandle" ∧ (parseMethodDescriptor yX9_choice.desc).map (fun d => d.parameters.length) = some 1 := by decide +kernel
set_option maxHeartbeats 4000000 in
set_option maxRecDepth 100000 in
theorem r_X9_choice (l : Launch) (D : va_G) (cT : ClassId × ClassId × ClassId) (q : Nat → Nat) (bd th n ro cl fb rn : Nat) (nd sk mo wk fx wi la da we : Nat → Nat) (i : Nat) (hwf : wfC n bd fb rn nd sk mo wk fx wi la da we) (hz : ∀ b, b < 4 → bit fb (4 * b) = 0) (hi : i < n) : Met l yX9_choice wsX9_choice ({ frames := 3, cells := 0, slots := 0, locals := 73 }) (va_Pc [.ref (q 0), .int (nI i)] (sx_R D (TY cT) (mX cT q th n ro cl fb rn nd sk mo wk fx wi la da we))) (vp_Si (fun r_ => r_ = (nI ((cst (fun w => prM (we i) (wi i) (fl n nd wk i 21) w) (fe sk mo fx la da fb rn i) 16384).1)))) 0 0 (fun _ => False) := by
  refine rd_start (cc := cX9_choice) (maxL := 7) (ret := (some .int)) RX9 ⟨by decide +kernel, rfl⟩ rfl (Nat.le_of_ble_eq_true rfl) ?_
  intro p0 e0 s0 m0 a0 b0 t0 c0 S hr hlocks hP hK ls hl
  have hl : lv_has ls 7 [(0, .ref (q 0)), (1, .int (nI i))] := hl
  obtain ⟨hn, hcl, hfb, hrn, hnd, hper⟩ := id hwf
  have hpl : ∀ w, prM (we i) (wi i) (fl n nd wk i 21) w < 2 ^ 30 := fun w => prM_lt (by have := hper i; omega) _ _ _
  refine lv_aload_n S.1 S.2.1 dX9_choice_0 rfl (lv_at hl 0 rfl) ?_
  refine lv_iload_n S.1 S.2.1 dX9_choice_1 rfl (lv_at hl 1 rfl) ?_
  refine rd_callV (rest := []) S (r_X9_fills l D cT q bd th n ro cl fb rn nd sk mo wk fx wi la da we i (hwf) (hz) (by omega)) gX9_choice_X9_fills rfl pd_X9_fills ⟨rfl, rfl, Nat.le_of_ble_eq_true rfl, Nat.le_of_ble_eq_true rfl⟩ hP hK (va_recv hK.1 hP (ci := 7) (q0 := 0) rfl rfl) hl rfl rfl (Nat.le_of_ble_eq_true rfl) ⟨Nat.zero_le _, Nat.zero_le _⟩ dX9_choice_2 ?_
  refine lv_istore_n (lv' := [(2, .int (nI (fl n nd wk i 21))), (0, .ref (q 0)), (1, .int (nI i))]) S.1 S.2.1 dX9_choice_5 rfl hl (by decide) rfl (fun ls hl => ?_)
  refine lv_iconst (v := (nI 0)) S.1 S.2.1 dX9_choice_6 (by decide) ?_
  refine lv_istore_n (lv' := [(3, .int (nI 0)), (2, .int (nI (fl n nd wk i 21))), (0, .ref (q 0)), (1, .int (nI i))]) S.1 S.2.1 dX9_choice_7 rfl hl (by decide) rfl (fun ls hl => ?_)
  refine lv_iconst (v := (-1)) S.1 S.2.1 dX9_choice_8 (by decide) ?_
  refine n_top (show (-1 : Int32) = nI 0 - nI 1 from by decide) ?_
  refine lv_istore (lv' := [(4, .int (nI 0 - nI 1)), (3, .int (nI 0)), (2, .int (nI (fl n nd wk i 21))), (0, .ref (q 0)), (1, .int (nI i))]) S.1 S.2.1 dX9_choice_9 hl (by decide) rfl (fun ls hl => ?_)
  refine lv_iconst (v := (nI 0)) S.1 S.2.1 dX9_choice_11 (by decide) ?_
  refine lv_istore (lv' := [(5, .int (nI 0)), (4, .int (nI 0 - nI 1)), (3, .int (nI 0)), (2, .int (nI (fl n nd wk i 21))), (0, .ref (q 0)), (1, .int (nI i))]) S.1 S.2.1 dX9_choice_12 hl (by decide) rfl (fun ls hl => ?_)
  have lp14 : ∀ (fu : Nat) (b : Nat) (le : Nat) (k : Nat), (k ≤ 16384) → (b = (cst (fun w => prM (we i) (wi i) (fl n nd wk i 21) w) (fe sk mo fx la da fb rn i) k).1) → (le = (cst (fun w => prM (we i) (wi i) (fl n nd wk i 21) w) (fe sk mo fx la da fb rn i) k).2) → (le ≤ 2 ^ 30) → (16384 - k) < fu → ∀ ls : Array Slot, lv_has ls 7 [(0, .ref (q 0)), (1, .int (nI i)), (2, .int (nI (fl n nd wk i 21))), (3, .int (nI b)), (4, .int (nI le - nI 1)), (5, .int (nI k))] → W p0 l e0 ({ frames := 3, cells := 0, slots := 0, locals := 73 } : Room) s0 m0 a0 b0 t0 c0 s0.heap [] 0 0 (MQ b0 (vp_Si (fun r_ => r_ = (nI ((cst (fun w => prM (we i) (wi i) (fl n nd wk i 21) w) (fe sk mo fx la da fb rn i) 16384).1)))) a0 s0 0 0 (fun _ => False)) (F0 m0 14 ls []) := by
    intro fu
    induction fu with
    | zero =>
      intro b le k h2 hb hle hll hm
      exact absurd hm (Nat.not_lt_zero _)
    | succ fu ih14 =>
      intro b le k h2 hb hle hll hm ls hl
      have hpk := hpl k
      refine lv_iload S.1 S.2.1 dX9_choice_14 (lv_at hl 5 rfl) ?_
      refine lv_sipush (v := (nI 16384)) S.1 S.2.1 dX9_choice_16 (by decide) ?_
      refine n_cge S (tgt := 90) (by omega) dX9_choice_19 (by decide) (fun c19 => ?_) (fun c19 => ?_)
      · refine lv_iload_n S.1 S.2.1 dX9_choice_90 rfl (lv_at hl 3 rfl) ?_
        exact rd_iret S hr rfl hlocks (by rw [hb, show k = 16384 by omega]) dX9_choice_91
      · refine lv_aload_n S.1 S.2.1 dX9_choice_22 rfl (lv_at hl 0 rfl) ?_
        refine lv_iload_n S.1 S.2.1 dX9_choice_23 rfl (lv_at hl 1 rfl) ?_
        refine lv_iload S.1 S.2.1 dX9_choice_24 (lv_at hl 5 rfl) ?_
        refine rd_callV (rest := []) S (r_X9_isPossible l D cT q bd th n ro cl fb rn nd sk mo wk fx wi la da we i k (hwf) (hz) (by omega) (by omega)) gX9_choice_X9_isPossible rfl pd_X9_isPossible ⟨rfl, rfl, Nat.le_of_ble_eq_true rfl, Nat.le_of_ble_eq_true rfl⟩ hP hK (va_recv hK.1 hP (ci := 7) (q0 := 0) rfl rfl) hl rfl rfl (Nat.le_of_ble_eq_true rfl) ⟨Nat.zero_le _, Nat.zero_le _⟩ dX9_choice_26 ?_
        refine n_beq S (tgt := 84) dX9_choice_29 (by decide) (fun c29 => ?_) (fun c29 => ?_)
        · refine lv_iinc (v := (nI (k + 1))) (lv' := [(5, .int (nI (k + 1))), (0, .ref (q 0)), (1, .int (nI i)), (2, .int (nI (fl n nd wk i 21))), (3, .int (nI b)), (4, .int (nI le - nI 1))]) S.1 S.2.1 dX9_choice_84 hl (k := 5) rfl (nI_1 _) (by decide) rfl (fun ls hl => ?_)
          refine lv_goto (tgt := 14) S.1 S.2.1 dX9_choice_87 (by decide) ?_
          exact ih14 b le (k + 1) (by omega) (by rw [hb, cst_n (Or.inl c29)]) (by rw [hle, cst_n (Or.inl c29)]) (hll) (by omega) ls (lv_sub hl [1, 2, 3, 4, 5, 0] rfl)
        · refine lv_aload_n S.1 S.2.1 dX9_choice_32 rfl (lv_at hl 0 rfl) ?_
          refine lv_iload_n S.1 S.2.1 dX9_choice_33 rfl (lv_at hl 1 rfl) ?_
          refine lv_iload S.1 S.2.1 dX9_choice_34 (lv_at hl 5 rfl) ?_
          refine lv_iload_n S.1 S.2.1 dX9_choice_36 rfl (lv_at hl 2 rfl) ?_
          refine rd_callV (rest := []) S (r_X9_price l D cT q bd th n ro cl fb rn nd sk mo wk fx wi la da we i k (fl n nd wk i 21) (hwf) (hz) (by omega) (by omega) (fl_lt n nd wk i 21 (by decide))) gX9_choice_X9_price rfl pd_X9_price ⟨rfl, rfl, Nat.le_of_ble_eq_true rfl, Nat.le_of_ble_eq_true rfl⟩ hP hK (va_recv hK.1 hP (ci := 7) (q0 := 0) rfl rfl) hl rfl rfl (Nat.le_of_ble_eq_true rfl) ⟨Nat.zero_le _, Nat.zero_le _⟩ dX9_choice_37 ?_
          refine lv_istore (lv' := [(6, .int (nI (prM (we i) (wi i) (fl n nd wk i 21) k))), (0, .ref (q 0)), (1, .int (nI i)), (2, .int (nI (fl n nd wk i 21))), (3, .int (nI b)), (4, .int (nI le - nI 1)), (5, .int (nI k))]) S.1 S.2.1 dX9_choice_40 hl (by decide) rfl (fun ls hl => ?_)
          refine lv_iload S.1 S.2.1 dX9_choice_42 (lv_at hl 5 rfl) ?_
          refine lv_iconst (v := (-1)) S.1 S.2.1 dX9_choice_44 (by decide) ?_
          refine lv_icmp_eq (tgt := 55) S.1 S.2.1 dX9_choice_45 (by decide) (fun c45 => ?_) (fun c45 => ?_)
          · refine lv_iload S.1 S.2.1 dX9_choice_55 (lv_at hl 6 rfl) ?_
            refine lv_goto (tgt := 61) S.1 S.2.1 dX9_choice_57 (by decide) ?_
            refine lv_istore_n (lv' := [(3, .int (nI k)), (6, .int (nI (prM (we i) (wi i) (fl n nd wk i 21) k))), (0, .ref (q 0)), (1, .int (nI i)), (2, .int (nI (fl n nd wk i 21))), (4, .int (nI le - nI 1)), (5, .int (nI k))]) S.1 S.2.1 dX9_choice_61 rfl hl (by decide) rfl (fun ls hl => ?_)
            refine lv_iload S.1 S.2.1 dX9_choice_62 (lv_at hl 5 rfl) ?_
            refine lv_iconst (v := (-1)) S.1 S.2.1 dX9_choice_64 (by decide) ?_
            refine lv_icmp_eq (tgt := 75) S.1 S.2.1 dX9_choice_65 (by decide) (fun c65 => ?_) (fun c65 => ?_)
            · refine lv_iload S.1 S.2.1 dX9_choice_75 (lv_at hl 1 rfl) ?_
              refine lv_goto (tgt := 82) S.1 S.2.1 dX9_choice_77 (by decide) ?_
              refine n_top (show (nI (prM (we i) (wi i) (fl n nd wk i 21) k)) = nI (prM (we i) (wi i) (fl n nd wk i 21) k + 1) - nI 1 from by rw [sx_sub (by omega), Nat.add_sub_cancel]) ?_
              refine lv_istore (lv' := [(4, .int (nI (prM (we i) (wi i) (fl n nd wk i 21) k + 1) - nI 1)), (3, .int (nI k)), (6, .int (nI (prM (we i) (wi i) (fl n nd wk i 21) k))), (0, .ref (q 0)), (1, .int (nI i)), (2, .int (nI (fl n nd wk i 21))), (5, .int (nI k))]) S.1 S.2.1 dX9_choice_82 hl (by decide) rfl (fun ls hl => ?_)
              refine lv_iinc (v := (nI (k + 1))) (lv' := [(5, .int (nI (k + 1))), (4, .int (nI (prM (we i) (wi i) (fl n nd wk i 21) k + 1) - nI 1)), (3, .int (nI k)), (6, .int (nI (prM (we i) (wi i) (fl n nd wk i 21) k))), (0, .ref (q 0)), (1, .int (nI i)), (2, .int (nI (fl n nd wk i 21)))]) S.1 S.2.1 dX9_choice_84 hl (k := 6) rfl (nI_1 _) (by decide) rfl (fun ls hl => ?_)
              refine lv_goto (tgt := 14) S.1 S.2.1 dX9_choice_87 (by decide) ?_
              exact ih14 k (prM (we i) (wi i) (fl n nd wk i 21) k + 1) (k + 1) (by omega) (ch_1 (pr := fun w => prM (we i) (wi i) (fl n nd wk i 21) w) (fs := fe sk mo fx la da fb rn i) (b1 := k) (l1 := prM (we i) (wi i) (fl n nd wk i 21) k + 1) hpk hll c29 hb hle (Or.inl ⟨rfl, rfl, Or.inl c45⟩)) (ch_2 (pr := fun w => prM (we i) (wi i) (fl n nd wk i 21) w) (fs := fe sk mo fx la da fb rn i) (b1 := k) (l1 := prM (we i) (wi i) (fl n nd wk i 21) k + 1) hpk hll c29 hb hle (Or.inl ⟨rfl, rfl, Or.inl c45⟩)) (by omega) (by omega) ls (lv_sub hl [4, 5, 6, 2, 1, 0] rfl)
            · refine lv_iload S.1 S.2.1 dX9_choice_68 (lv_at hl 1 rfl) ?_
              refine lv_iload S.1 S.2.1 dX9_choice_70 (lv_at hl 5 rfl) ?_
              refine lv_icmp_ge (tgt := 80) S.1 S.2.1 dX9_choice_72 (by decide) (fun c72 => ?_) (fun c72 => ?_)
              · refine lv_iload S.1 S.2.1 dX9_choice_80 (lv_at hl 5 rfl) ?_
                refine lv_istore (lv' := [(4, .int (nI le - nI 1)), (3, .int (nI k)), (6, .int (nI (prM (we i) (wi i) (fl n nd wk i 21) k))), (0, .ref (q 0)), (1, .int (nI i)), (2, .int (nI (fl n nd wk i 21))), (5, .int (nI k))]) S.1 S.2.1 dX9_choice_82 hl (by decide) rfl (fun ls hl => ?_)
                refine lv_iinc (v := (nI (k + 1))) (lv' := [(5, .int (nI (k + 1))), (4, .int (nI le - nI 1)), (3, .int (nI k)), (6, .int (nI (prM (we i) (wi i) (fl n nd wk i 21) k))), (0, .ref (q 0)), (1, .int (nI i)), (2, .int (nI (fl n nd wk i 21)))]) S.1 S.2.1 dX9_choice_84 hl (k := 6) rfl (nI_1 _) (by decide) rfl (fun ls hl => ?_)
                refine lv_goto (tgt := 14) S.1 S.2.1 dX9_choice_87 (by decide) ?_
                exact ih14 k le (k + 1) (by omega) (ch_1 (pr := fun w => prM (we i) (wi i) (fl n nd wk i 21) w) (fs := fe sk mo fx la da fb rn i) (b1 := k) (l1 := le) hpk hll c29 hb hle (((Or.inl c45 : _ ∨ _).elim (fun z => absurd z c65) (fun z => absurd c72 z)))) (ch_2 (pr := fun w => prM (we i) (wi i) (fl n nd wk i 21) w) (fs := fe sk mo fx la da fb rn i) (b1 := k) (l1 := le) hpk hll c29 hb hle (((Or.inl c45 : _ ∨ _).elim (fun z => absurd z c65) (fun z => absurd c72 z)))) (by omega) (by omega) ls (lv_sub hl [4, 5, 6, 2, 1, 0] rfl)
              · refine lv_iload S.1 S.2.1 dX9_choice_75 (lv_at hl 1 rfl) ?_
                refine lv_goto (tgt := 82) S.1 S.2.1 dX9_choice_77 (by decide) ?_
                refine n_top (show (nI (prM (we i) (wi i) (fl n nd wk i 21) k)) = nI (prM (we i) (wi i) (fl n nd wk i 21) k + 1) - nI 1 from by rw [sx_sub (by omega), Nat.add_sub_cancel]) ?_
                refine lv_istore (lv' := [(4, .int (nI (prM (we i) (wi i) (fl n nd wk i 21) k + 1) - nI 1)), (3, .int (nI k)), (6, .int (nI (prM (we i) (wi i) (fl n nd wk i 21) k))), (0, .ref (q 0)), (1, .int (nI i)), (2, .int (nI (fl n nd wk i 21))), (5, .int (nI k))]) S.1 S.2.1 dX9_choice_82 hl (by decide) rfl (fun ls hl => ?_)
                refine lv_iinc (v := (nI (k + 1))) (lv' := [(5, .int (nI (k + 1))), (4, .int (nI (prM (we i) (wi i) (fl n nd wk i 21) k + 1) - nI 1)), (3, .int (nI k)), (6, .int (nI (prM (we i) (wi i) (fl n nd wk i 21) k))), (0, .ref (q 0)), (1, .int (nI i)), (2, .int (nI (fl n nd wk i 21)))]) S.1 S.2.1 dX9_choice_84 hl (k := 6) rfl (nI_1 _) (by decide) rfl (fun ls hl => ?_)
                refine lv_goto (tgt := 14) S.1 S.2.1 dX9_choice_87 (by decide) ?_
                exact ih14 k (prM (we i) (wi i) (fl n nd wk i 21) k + 1) (k + 1) (by omega) (ch_1 (pr := fun w => prM (we i) (wi i) (fl n nd wk i 21) w) (fs := fe sk mo fx la da fb rn i) (b1 := k) (l1 := prM (we i) (wi i) (fl n nd wk i 21) k + 1) hpk hll c29 hb hle (Or.inl ⟨rfl, rfl, Or.inl c45⟩)) (ch_2 (pr := fun w => prM (we i) (wi i) (fl n nd wk i 21) w) (fs := fe sk mo fx la da fb rn i) (b1 := k) (l1 := prM (we i) (wi i) (fl n nd wk i 21) k + 1) hpk hll c29 hb hle (Or.inl ⟨rfl, rfl, Or.inl c45⟩)) (by omega) (by omega) ls (lv_sub hl [4, 5, 6, 2, 1, 0] rfl)
          · refine lv_iload S.1 S.2.1 dX9_choice_48 (lv_at hl 0 rfl) ?_
            refine lv_iload S.1 S.2.1 dX9_choice_50 (lv_at hl 5 rfl) ?_
            refine lv_icmp_ge (tgt := 60) S.1 S.2.1 dX9_choice_52 (by decide) (fun c52 => ?_) (fun c52 => ?_)
            · refine lv_iload_n S.1 S.2.1 dX9_choice_60 rfl (lv_at hl 4 rfl) ?_
              refine lv_istore_n (lv' := [(3, .int (nI b)), (6, .int (nI (prM (we i) (wi i) (fl n nd wk i 21) k))), (0, .ref (q 0)), (1, .int (nI i)), (2, .int (nI (fl n nd wk i 21))), (4, .int (nI le - nI 1)), (5, .int (nI k))]) S.1 S.2.1 dX9_choice_61 rfl hl (by decide) rfl (fun ls hl => ?_)
              refine lv_iload S.1 S.2.1 dX9_choice_62 (lv_at hl 5 rfl) ?_
              refine lv_iconst (v := (-1)) S.1 S.2.1 dX9_choice_64 (by decide) ?_
              refine lv_icmp_eq (tgt := 75) S.1 S.2.1 dX9_choice_65 (by decide) (fun c65 => ?_) (fun c65 => ?_)
              · refine lv_iload S.1 S.2.1 dX9_choice_75 (lv_at hl 1 rfl) ?_
                refine lv_goto (tgt := 82) S.1 S.2.1 dX9_choice_77 (by decide) ?_
                refine n_top (show (nI (prM (we i) (wi i) (fl n nd wk i 21) k)) = nI (prM (we i) (wi i) (fl n nd wk i 21) k + 1) - nI 1 from by rw [sx_sub (by omega), Nat.add_sub_cancel]) ?_
                refine lv_istore (lv' := [(4, .int (nI (prM (we i) (wi i) (fl n nd wk i 21) k + 1) - nI 1)), (3, .int (nI b)), (6, .int (nI (prM (we i) (wi i) (fl n nd wk i 21) k))), (0, .ref (q 0)), (1, .int (nI i)), (2, .int (nI (fl n nd wk i 21))), (5, .int (nI k))]) S.1 S.2.1 dX9_choice_82 hl (by decide) rfl (fun ls hl => ?_)
                refine lv_iinc (v := (nI (k + 1))) (lv' := [(5, .int (nI (k + 1))), (4, .int (nI (prM (we i) (wi i) (fl n nd wk i 21) k + 1) - nI 1)), (3, .int (nI b)), (6, .int (nI (prM (we i) (wi i) (fl n nd wk i 21) k))), (0, .ref (q 0)), (1, .int (nI i)), (2, .int (nI (fl n nd wk i 21)))]) S.1 S.2.1 dX9_choice_84 hl (k := 6) rfl (nI_1 _) (by decide) rfl (fun ls hl => ?_)
                refine lv_goto (tgt := 14) S.1 S.2.1 dX9_choice_87 (by decide) ?_
                exact ih14 b (prM (we i) (wi i) (fl n nd wk i 21) k + 1) (k + 1) (by omega) (ch_1 (pr := fun w => prM (we i) (wi i) (fl n nd wk i 21) w) (fs := fe sk mo fx la da fb rn i) (b1 := b) (l1 := prM (we i) (wi i) (fl n nd wk i 21) k + 1) hpk hll c29 hb hle (((Or.inl c65 : _ ∨ _).elim (fun z => absurd z c45) (fun z => absurd c52 z)))) (ch_2 (pr := fun w => prM (we i) (wi i) (fl n nd wk i 21) w) (fs := fe sk mo fx la da fb rn i) (b1 := b) (l1 := prM (we i) (wi i) (fl n nd wk i 21) k + 1) hpk hll c29 hb hle (((Or.inl c65 : _ ∨ _).elim (fun z => absurd z c45) (fun z => absurd c52 z)))) (by omega) (by omega) ls (lv_sub hl [4, 5, 6, 2, 1, 0] rfl)
              · refine lv_iload S.1 S.2.1 dX9_choice_68 (lv_at hl 1 rfl) ?_
                refine lv_iload S.1 S.2.1 dX9_choice_70 (lv_at hl 5 rfl) ?_
                refine lv_icmp_ge (tgt := 80) S.1 S.2.1 dX9_choice_72 (by decide) (fun c72 => ?_) (fun c72 => ?_)
                · refine lv_iload S.1 S.2.1 dX9_choice_80 (lv_at hl 5 rfl) ?_
                  refine lv_istore (lv' := [(4, .int (nI le - nI 1)), (3, .int (nI b)), (6, .int (nI (prM (we i) (wi i) (fl n nd wk i 21) k))), (0, .ref (q 0)), (1, .int (nI i)), (2, .int (nI (fl n nd wk i 21))), (5, .int (nI k))]) S.1 S.2.1 dX9_choice_82 hl (by decide) rfl (fun ls hl => ?_)
                  refine lv_iinc (v := (nI (k + 1))) (lv' := [(5, .int (nI (k + 1))), (4, .int (nI le - nI 1)), (3, .int (nI b)), (6, .int (nI (prM (we i) (wi i) (fl n nd wk i 21) k))), (0, .ref (q 0)), (1, .int (nI i)), (2, .int (nI (fl n nd wk i 21)))]) S.1 S.2.1 dX9_choice_84 hl (k := 6) rfl (nI_1 _) (by decide) rfl (fun ls hl => ?_)
                  refine lv_goto (tgt := 14) S.1 S.2.1 dX9_choice_87 (by decide) ?_
                  exact ih14 b le (k + 1) (by omega) (ch_1 (pr := fun w => prM (we i) (wi i) (fl n nd wk i 21) w) (fs := fe sk mo fx la da fb rn i) (b1 := b) (l1 := le) hpk hll c29 hb hle (Or.inr (Or.inl ⟨rfl, rfl, c45, c52⟩))) (ch_2 (pr := fun w => prM (we i) (wi i) (fl n nd wk i 21) w) (fs := fe sk mo fx la da fb rn i) (b1 := b) (l1 := le) hpk hll c29 hb hle (Or.inr (Or.inl ⟨rfl, rfl, c45, c52⟩))) (by omega) (by omega) ls (lv_sub hl [4, 5, 6, 2, 1, 0] rfl)
                · refine lv_iload S.1 S.2.1 dX9_choice_75 (lv_at hl 1 rfl) ?_
                  refine lv_goto (tgt := 82) S.1 S.2.1 dX9_choice_77 (by decide) ?_
                  refine n_top (show (nI (prM (we i) (wi i) (fl n nd wk i 21) k)) = nI (prM (we i) (wi i) (fl n nd wk i 21) k + 1) - nI 1 from by rw [sx_sub (by omega), Nat.add_sub_cancel]) ?_
                  refine lv_istore (lv' := [(4, .int (nI (prM (we i) (wi i) (fl n nd wk i 21) k + 1) - nI 1)), (3, .int (nI b)), (6, .int (nI (prM (we i) (wi i) (fl n nd wk i 21) k))), (0, .ref (q 0)), (1, .int (nI i)), (2, .int (nI (fl n nd wk i 21))), (5, .int (nI k))]) S.1 S.2.1 dX9_choice_82 hl (by decide) rfl (fun ls hl => ?_)
                  refine lv_iinc (v := (nI (k + 1))) (lv' := [(5, .int (nI (k + 1))), (4, .int (nI (prM (we i) (wi i) (fl n nd wk i 21) k + 1) - nI 1)), (3, .int (nI b)), (6, .int (nI (prM (we i) (wi i) (fl n nd wk i 21) k))), (0, .ref (q 0)), (1, .int (nI i)), (2, .int (nI (fl n nd wk i 21)))]) S.1 S.2.1 dX9_choice_84 hl (k := 6) rfl (nI_1 _) (by decide) rfl (fun ls hl => ?_)
                  refine lv_goto (tgt := 14) S.1 S.2.1 dX9_choice_87 (by decide) ?_
                  exact ih14 b (prM (we i) (wi i) (fl n nd wk i 21) k + 1) (k + 1) (by omega) (ch_1 (pr := fun w => prM (we i) (wi i) (fl n nd wk i 21) w) (fs := fe sk mo fx la da fb rn i) (b1 := b) (l1 := prM (we i) (wi i) (fl n nd wk i 21) k + 1) hpk hll c29 hb hle (((Or.inr c72 : _ ∨ _).elim (fun z => absurd z c45) (fun z => absurd c52 z)))) (ch_2 (pr := fun w => prM (we i) (wi i) (fl n nd wk i 21) w) (fs := fe sk mo fx la da fb rn i) (b1 := b) (l1 := prM (we i) (wi i) (fl n nd wk i 21) k + 1) hpk hll c29 hb hle (((Or.inr c72 : _ ∨ _).elim (fun z => absurd z c45) (fun z => absurd c52 z)))) (by omega) (by omega) ls (lv_sub hl [4, 5, 6, 2, 1, 0] rfl)
            · refine lv_iload S.1 S.2.1 dX9_choice_55 (lv_at hl 6 rfl) ?_
              refine lv_goto (tgt := 61) S.1 S.2.1 dX9_choice_57 (by decide) ?_
              refine lv_istore_n (lv' := [(3, .int (nI k)), (6, .int (nI (prM (we i) (wi i) (fl n nd wk i 21) k))), (0, .ref (q 0)), (1, .int (nI i)), (2, .int (nI (fl n nd wk i 21))), (4, .int (nI le - nI 1)), (5, .int (nI k))]) S.1 S.2.1 dX9_choice_61 rfl hl (by decide) rfl (fun ls hl => ?_)
              refine lv_iload S.1 S.2.1 dX9_choice_62 (lv_at hl 5 rfl) ?_
              refine lv_iconst (v := (-1)) S.1 S.2.1 dX9_choice_64 (by decide) ?_
              refine lv_icmp_eq (tgt := 75) S.1 S.2.1 dX9_choice_65 (by decide) (fun c65 => ?_) (fun c65 => ?_)
              · refine lv_iload S.1 S.2.1 dX9_choice_75 (lv_at hl 1 rfl) ?_
                refine lv_goto (tgt := 82) S.1 S.2.1 dX9_choice_77 (by decide) ?_
                refine n_top (show (nI (prM (we i) (wi i) (fl n nd wk i 21) k)) = nI (prM (we i) (wi i) (fl n nd wk i 21) k + 1) - nI 1 from by rw [sx_sub (by omega), Nat.add_sub_cancel]) ?_
                refine lv_istore (lv' := [(4, .int (nI (prM (we i) (wi i) (fl n nd wk i 21) k + 1) - nI 1)), (3, .int (nI k)), (6, .int (nI (prM (we i) (wi i) (fl n nd wk i 21) k))), (0, .ref (q 0)), (1, .int (nI i)), (2, .int (nI (fl n nd wk i 21))), (5, .int (nI k))]) S.1 S.2.1 dX9_choice_82 hl (by decide) rfl (fun ls hl => ?_)
                refine lv_iinc (v := (nI (k + 1))) (lv' := [(5, .int (nI (k + 1))), (4, .int (nI (prM (we i) (wi i) (fl n nd wk i 21) k + 1) - nI 1)), (3, .int (nI k)), (6, .int (nI (prM (we i) (wi i) (fl n nd wk i 21) k))), (0, .ref (q 0)), (1, .int (nI i)), (2, .int (nI (fl n nd wk i 21)))]) S.1 S.2.1 dX9_choice_84 hl (k := 6) rfl (nI_1 _) (by decide) rfl (fun ls hl => ?_)
                refine lv_goto (tgt := 14) S.1 S.2.1 dX9_choice_87 (by decide) ?_
                exact ih14 k (prM (we i) (wi i) (fl n nd wk i 21) k + 1) (k + 1) (by omega) (ch_1 (pr := fun w => prM (we i) (wi i) (fl n nd wk i 21) w) (fs := fe sk mo fx la da fb rn i) (b1 := k) (l1 := prM (we i) (wi i) (fl n nd wk i 21) k + 1) hpk hll c29 hb hle (Or.inl ⟨rfl, rfl, Or.inr c52⟩)) (ch_2 (pr := fun w => prM (we i) (wi i) (fl n nd wk i 21) w) (fs := fe sk mo fx la da fb rn i) (b1 := k) (l1 := prM (we i) (wi i) (fl n nd wk i 21) k + 1) hpk hll c29 hb hle (Or.inl ⟨rfl, rfl, Or.inr c52⟩)) (by omega) (by omega) ls (lv_sub hl [4, 5, 6, 2, 1, 0] rfl)
              · refine lv_iload S.1 S.2.1 dX9_choice_68 (lv_at hl 1 rfl) ?_
                refine lv_iload S.1 S.2.1 dX9_choice_70 (lv_at hl 5 rfl) ?_
                refine lv_icmp_ge (tgt := 80) S.1 S.2.1 dX9_choice_72 (by decide) (fun c72 => ?_) (fun c72 => ?_)
                · refine lv_iload S.1 S.2.1 dX9_choice_80 (lv_at hl 5 rfl) ?_
                  refine lv_istore (lv' := [(4, .int (nI le - nI 1)), (3, .int (nI k)), (6, .int (nI (prM (we i) (wi i) (fl n nd wk i 21) k))), (0, .ref (q 0)), (1, .int (nI i)), (2, .int (nI (fl n nd wk i 21))), (5, .int (nI k))]) S.1 S.2.1 dX9_choice_82 hl (by decide) rfl (fun ls hl => ?_)
                  refine lv_iinc (v := (nI (k + 1))) (lv' := [(5, .int (nI (k + 1))), (4, .int (nI le - nI 1)), (3, .int (nI k)), (6, .int (nI (prM (we i) (wi i) (fl n nd wk i 21) k))), (0, .ref (q 0)), (1, .int (nI i)), (2, .int (nI (fl n nd wk i 21)))]) S.1 S.2.1 dX9_choice_84 hl (k := 6) rfl (nI_1 _) (by decide) rfl (fun ls hl => ?_)
                  refine lv_goto (tgt := 14) S.1 S.2.1 dX9_choice_87 (by decide) ?_
                  exact ih14 k le (k + 1) (by omega) (ch_1 (pr := fun w => prM (we i) (wi i) (fl n nd wk i 21) w) (fs := fe sk mo fx la da fb rn i) (b1 := k) (l1 := le) hpk hll c29 hb hle (((Or.inr c52 : _ ∨ _).elim (fun z => absurd z c65) (fun z => absurd c72 z)))) (ch_2 (pr := fun w => prM (we i) (wi i) (fl n nd wk i 21) w) (fs := fe sk mo fx la da fb rn i) (b1 := k) (l1 := le) hpk hll c29 hb hle (((Or.inr c52 : _ ∨ _).elim (fun z => absurd z c65) (fun z => absurd c72 z)))) (by omega) (by omega) ls (lv_sub hl [4, 5, 6, 2, 1, 0] rfl)
                · refine lv_iload S.1 S.2.1 dX9_choice_75 (lv_at hl 1 rfl) ?_
                  refine lv_goto (tgt := 82) S.1 S.2.1 dX9_choice_77 (by decide) ?_
                  refine n_top (show (nI (prM (we i) (wi i) (fl n nd wk i 21) k)) = nI (prM (we i) (wi i) (fl n nd wk i 21) k + 1) - nI 1 from by rw [sx_sub (by omega), Nat.add_sub_cancel]) ?_
                  refine lv_istore (lv' := [(4, .int (nI (prM (we i) (wi i) (fl n nd wk i 21) k + 1) - nI 1)), (3, .int (nI k)), (6, .int (nI (prM (we i) (wi i) (fl n nd wk i 21) k))), (0, .ref (q 0)), (1, .int (nI i)), (2, .int (nI (fl n nd wk i 21))), (5, .int (nI k))]) S.1 S.2.1 dX9_choice_82 hl (by decide) rfl (fun ls hl => ?_)
                  refine lv_iinc (v := (nI (k + 1))) (lv' := [(5, .int (nI (k + 1))), (4, .int (nI (prM (we i) (wi i) (fl n nd wk i 21) k + 1) - nI 1)), (3, .int (nI k)), (6, .int (nI (prM (we i) (wi i) (fl n nd wk i 21) k))), (0, .ref (q 0)), (1, .int (nI i)), (2, .int (nI (fl n nd wk i 21)))]) S.1 S.2.1 dX9_choice_84 hl (k := 6) rfl (nI_1 _) (by decide) rfl (fun ls hl => ?_)
                  refine lv_goto (tgt := 14) S.1 S.2.1 dX9_choice_87 (by decide) ?_
                  exact ih14 k (prM (we i) (wi i) (fl n nd wk i 21) k + 1) (k + 1) (by omega) (ch_1 (pr := fun w => prM (we i) (wi i) (fl n nd wk i 21) w) (fs := fe sk mo fx la da fb rn i) (b1 := k) (l1 := prM (we i) (wi i) (fl n nd wk i 21) k + 1) hpk hll c29 hb hle (Or.inl ⟨rfl, rfl, Or.inr c52⟩)) (ch_2 (pr := fun w => prM (we i) (wi i) (fl n nd wk i 21) w) (fs := fe sk mo fx la da fb rn i) (b1 := k) (l1 := prM (we i) (wi i) (fl n nd wk i 21) k + 1) hpk hll c29 hb hle (Or.inl ⟨rfl, rfl, Or.inr c52⟩)) (by omega) (by omega) ls (lv_sub hl [4, 5, 6, 2, 1, 0] rfl)
  exact lp14 _ 0 0 0 (Nat.zero_le _) (rfl) (rfl) (by decide) (Nat.lt_succ_self _) ls (lv_sub hl [4, 5, 3, 2, 1, 0] rfl)

theorem pd_X9_canSwap : yX9_canSwap.cls = RX9 ∧ yX9_canSwap.cls ≠ "java/lang/invoke/MethodHandle" ∧ yX9_canSwap.cls ≠ "java/lang/invoke/VarHandle" ∧ (parseMethodDescriptor yX9_canSwap.desc).map (fun d => d.parameters.length) = some 3 := by decide +kernel
theorem w_X9_canSwap_0 : Cond.fieldLink RX9 26 "CoverSheetModel" "entries" "[I" ∈ wsX9_canSwap := by decide +kernel
theorem in_X9_canSwap_X9 : ∀ w ∈ u_ws RX9 TX9 15, w ∈ wsX9_canSwap := by decide +kernel
set_option maxHeartbeats 4000000 in
set_option maxRecDepth 100000 in
theorem r_X9_canSwap (l : Launch) (D : va_G) (cT : ClassId × ClassId × ClassId) (q : Nat → Nat) (bd th n ro cl fb rn : Nat) (nd sk mo wk fx wi la da we : Nat → Nat) (i j d : Nat) (hwf : wfC n bd fb rn nd sk mo wk fx wi la da we) (hz : ∀ b, b < 4 → bit fb (4 * b) = 0) (hi : i < n) (hj : j < n) (hd : d < 7) : Met l yX9_canSwap wsX9_canSwap ({ frames := 3, cells := 0, slots := 0, locals := 71 }) (va_Pc [.ref (q 0), .int (nI i), .int (nI j), .int (nI d)] (sx_R D (TY cT) (mX cT q th n ro cl fb rn nd sk mo wk fx wi la da we))) (vp_Si (fun r_ => r_ = (nI (i != j && csw sk mo wk fx la da fb rn i j d).toNat))) 0 0 (fun _ => False) := by
  refine rd_start (cc := cX9_canSwap) (maxL := 6) (ret := (some .boolean)) RX9 ⟨by decide +kernel, rfl⟩ rfl (Nat.le_of_ble_eq_true rfl) ?_
  intro p0 e0 s0 m0 a0 b0 t0 c0 S hr hlocks hP hK ls hl
  have hl : lv_has ls 6 [(0, .ref (q 0)), (1, .int (nI i)), (2, .int (nI j)), (3, .int (nI d))] := hl
  obtain ⟨hn, hcl, hfb, hrn, hnd, hper⟩ := id hwf
  have hpii := hper i
  have hpij := hper j
  refine lv_aload_n S.1 S.2.1 dX9_canSwap_0 rfl (lv_at hl 0 rfl) ?_
  refine g_get (C := RX9) (T := TX9) (N := 15) (v := .ref (q 5)) S 0 7 9 in_X9_canSwap_X9 hK hP rfl rfl (by decide) w_X9_canSwap_0 rfl dX9_canSwap_1 ?_
  refine lv_bipush (v := (nI 7)) S.1 S.2.1 dX9_canSwap_4 (by decide) ?_
  refine lv_iload_n S.1 S.2.1 dX9_canSwap_6 rfl (lv_at hl 1 rfl) ?_
  refine n_mul S dX9_canSwap_7 ?_
  refine lv_iload_n S.1 S.2.1 dX9_canSwap_8 rfl (lv_at hl 3 rfl) ?_
  refine n_add S dX9_canSwap_9 ?_
  refine g_iald S 5 hK hP rfl (by omega) dX9_canSwap_10 ?_
  refine n_top (show (nI (enf wk ((7 * i) + d))) = (nI (ent (wk i) d)) from congrArg nI (en_at hd)) ?_
  refine lv_istore (lv' := [(4, .int (nI (ent (wk i) d))), (0, .ref (q 0)), (1, .int (nI i)), (2, .int (nI j)), (3, .int (nI d))]) S.1 S.2.1 dX9_canSwap_11 hl (by decide) rfl (fun ls hl => ?_)
  refine lv_aload_n S.1 S.2.1 dX9_canSwap_13 rfl (lv_at hl 1 rfl) ?_
  refine g_get (C := RX9) (T := TX9) (N := 15) (v := .ref (q 5)) S 0 7 9 in_X9_canSwap_X9 hK hP rfl rfl (by decide) w_X9_canSwap_0 rfl dX9_canSwap_14 ?_
  refine lv_bipush (v := (nI 7)) S.1 S.2.1 dX9_canSwap_17 (by decide) ?_
  refine lv_iload_n S.1 S.2.1 dX9_canSwap_19 rfl (lv_at hl 3 rfl) ?_
  refine n_mul S dX9_canSwap_20 ?_
  refine lv_iload_n S.1 S.2.1 dX9_canSwap_21 rfl (lv_at hl 4 rfl) ?_
  refine n_add S dX9_canSwap_22 ?_
  refine g_iald S 5 hK hP rfl (by omega) dX9_canSwap_23 ?_
  refine n_top (show (nI (enf wk ((7 * j) + d))) = (nI (ent (wk j) d)) from congrArg nI (en_at hd)) ?_
  refine lv_istore (lv' := [(5, .int (nI (ent (wk j) d))), (4, .int (nI (ent (wk i) d))), (0, .ref (q 0)), (1, .int (nI i)), (2, .int (nI j)), (3, .int (nI d))]) S.1 S.2.1 dX9_canSwap_24 hl (by decide) rfl (fun ls hl => ?_)
  refine lv_iload_n S.1 S.2.1 dX9_canSwap_26 rfl (lv_at hl 3 rfl) ?_
  refine lv_iload_n S.1 S.2.1 dX9_canSwap_27 rfl (lv_at hl 4 rfl) ?_
  refine n_ceq S (tgt := 73) (by omega) dX9_canSwap_28 (by decide) (fun c28 => ?_) (fun c28 => ?_)
  · refine lv_iconst (v := (nI 0)) S.1 S.2.1 dX9_canSwap_73 (by decide) ?_
    exact rd_iret S hr (by decide) hlocks (r_f (fun h => by have h2 : (i != j && (fe _ _ _ _ _ _ _ _ _ && fe _ _ _ _ _ _ _ _ _)) = true := h; rw [Bool.and_eq_true, Bool.and_eq_true, bne_iff_ne] at h2; first | exact h2.1 c28 | (rw [c47] at h2; exact absurd h2.2.1 (by decide)) | (rw [c66] at h2; exact absurd h2.2.2 (by decide)))) dX9_canSwap_74
  · refine lv_aload_n S.1 S.2.1 dX9_canSwap_31 rfl (lv_at hl 2 rfl) ?_
    refine lv_iload_n S.1 S.2.1 dX9_canSwap_32 rfl (lv_at hl 3 rfl) ?_
    refine lv_aload_n S.1 S.2.1 dX9_canSwap_33 rfl (lv_at hl 2 rfl) ?_
    refine lv_iload_n S.1 S.2.1 dX9_canSwap_34 rfl (lv_at hl 3 rfl) ?_
    refine rd_callV (rest := [.int (nI i), .ref (q 0)]) S (r_X9_weekOf l D cT q bd th n ro cl fb rn nd sk mo wk fx wi la da we i (hwf) (hz) (by omega)) gX9_canSwap_X9_weekOf rfl pd_X9_weekOf ⟨rfl, rfl, Nat.le_of_ble_eq_true rfl, Nat.le_of_ble_eq_true rfl⟩ hP hK (va_recv hK.1 hP (ci := 7) (q0 := 0) rfl rfl) hl rfl rfl (Nat.le_of_ble_eq_true rfl) ⟨Nat.zero_le _, Nat.zero_le _⟩ dX9_canSwap_35 ?_
    refine lv_iload_n S.1 S.2.1 dX9_canSwap_38 rfl (lv_at hl 5 rfl) ?_
    refine lv_iload S.1 S.2.1 dX9_canSwap_39 (lv_at hl 0 rfl) ?_
    refine rd_callS (rest := [.int (nI i), .ref (q 0)]) S (r_X9_with l D cT (wk i) d (ent (wk j) d) (by omega) (hd) (ent_lt _ _)) gX9_canSwap_X9_with rfl pd_X9_with ⟨rfl, rfl, Nat.le_of_ble_eq_true rfl, Nat.le_of_ble_eq_true rfl⟩ (sx_P0 D _) hK hl rfl rfl (Nat.le_of_ble_eq_true rfl) ⟨Nat.zero_le _, Nat.zero_le _⟩ dX9_canSwap_41 ?_
    refine rd_callV (rest := []) S (r_X9_isPossible l D cT q bd th n ro cl fb rn nd sk mo wk fx wi la da we i (wset (wk i) d (ent (wk j) d)) (hwf) (hz) (by omega) (wset_lt (by omega) hd (ent_lt _ _))) gX9_canSwap_X9_isPossible rfl pd_X9_isPossible ⟨rfl, rfl, Nat.le_of_ble_eq_true rfl, Nat.le_of_ble_eq_true rfl⟩ hP hK (va_recv hK.1 hP (ci := 7) (q0 := 0) rfl rfl) hl rfl rfl (Nat.le_of_ble_eq_true rfl) ⟨Nat.zero_le _, Nat.zero_le _⟩ dX9_canSwap_44 ?_
    refine n_beq S (tgt := 73) dX9_canSwap_47 (by decide) (fun c47 => ?_) (fun c47 => ?_)
    · refine lv_iconst (v := (nI 0)) S.1 S.2.1 dX9_canSwap_73 (by decide) ?_
      exact rd_iret S hr (by decide) hlocks (r_f (fun h => by have h2 : (i != j && (fe _ _ _ _ _ _ _ _ _ && fe _ _ _ _ _ _ _ _ _)) = true := h; rw [Bool.and_eq_true, Bool.and_eq_true, bne_iff_ne] at h2; first | exact h2.1 c28 | (rw [c47] at h2; exact absurd h2.2.1 (by decide)) | (rw [c66] at h2; exact absurd h2.2.2 (by decide)))) dX9_canSwap_74
    · refine lv_aload_n S.1 S.2.1 dX9_canSwap_50 rfl (lv_at hl 2 rfl) ?_
      refine lv_iload_n S.1 S.2.1 dX9_canSwap_51 rfl (lv_at hl 4 rfl) ?_
      refine lv_aload_n S.1 S.2.1 dX9_canSwap_52 rfl (lv_at hl 2 rfl) ?_
      refine lv_iload_n S.1 S.2.1 dX9_canSwap_53 rfl (lv_at hl 4 rfl) ?_
      refine rd_callV (rest := [.int (nI j), .ref (q 0)]) S (r_X9_weekOf l D cT q bd th n ro cl fb rn nd sk mo wk fx wi la da we j (hwf) (hz) (by omega)) gX9_canSwap_X9_weekOf rfl pd_X9_weekOf ⟨rfl, rfl, Nat.le_of_ble_eq_true rfl, Nat.le_of_ble_eq_true rfl⟩ hP hK (va_recv hK.1 hP (ci := 7) (q0 := 0) rfl rfl) hl rfl rfl (Nat.le_of_ble_eq_true rfl) ⟨Nat.zero_le _, Nat.zero_le _⟩ dX9_canSwap_54 ?_
      refine lv_iload_n S.1 S.2.1 dX9_canSwap_57 rfl (lv_at hl 5 rfl) ?_
      refine lv_iload S.1 S.2.1 dX9_canSwap_58 (lv_at hl 1 rfl) ?_
      refine rd_callS (rest := [.int (nI j), .ref (q 0)]) S (r_X9_with l D cT (wk j) d (ent (wk i) d) (by omega) (hd) (ent_lt _ _)) gX9_canSwap_X9_with rfl pd_X9_with ⟨rfl, rfl, Nat.le_of_ble_eq_true rfl, Nat.le_of_ble_eq_true rfl⟩ (sx_P0 D _) hK hl rfl rfl (Nat.le_of_ble_eq_true rfl) ⟨Nat.zero_le _, Nat.zero_le _⟩ dX9_canSwap_60 ?_
      refine rd_callV (rest := []) S (r_X9_isPossible l D cT q bd th n ro cl fb rn nd sk mo wk fx wi la da we j (wset (wk j) d (ent (wk i) d)) (hwf) (hz) (by omega) (wset_lt (by omega) hd (ent_lt _ _))) gX9_canSwap_X9_isPossible rfl pd_X9_isPossible ⟨rfl, rfl, Nat.le_of_ble_eq_true rfl, Nat.le_of_ble_eq_true rfl⟩ hP hK (va_recv hK.1 hP (ci := 7) (q0 := 0) rfl rfl) hl rfl rfl (Nat.le_of_ble_eq_true rfl) ⟨Nat.zero_le _, Nat.zero_le _⟩ dX9_canSwap_63 ?_
      refine n_beq S (tgt := 73) dX9_canSwap_66 (by decide) (fun c66 => ?_) (fun c66 => ?_)
      · refine lv_iconst (v := (nI 0)) S.1 S.2.1 dX9_canSwap_73 (by decide) ?_
        exact rd_iret S hr (by decide) hlocks (r_f (fun h => by have h2 : (i != j && (fe _ _ _ _ _ _ _ _ _ && fe _ _ _ _ _ _ _ _ _)) = true := h; rw [Bool.and_eq_true, Bool.and_eq_true, bne_iff_ne] at h2; first | exact h2.1 c28 | (rw [c47] at h2; exact absurd h2.2.1 (by decide)) | (rw [c66] at h2; exact absurd h2.2.2 (by decide)))) dX9_canSwap_74
      · refine lv_iconst (v := (nI 1)) S.1 S.2.1 dX9_canSwap_69 (by decide) ?_
        refine lv_goto (tgt := 74) S.1 S.2.1 dX9_canSwap_70 (by decide) ?_
        exact rd_iret S hr (by decide) hlocks (r_t (by show (i != j && (_ && _)) = true; rw [c47, c66, show (i != j) = true from bne_iff_ne.mpr c28]; rfl)) dX9_canSwap_74

theorem pd_X9_countWeeks : yX9_countWeeks.cls = RX9 ∧ yX9_countWeeks.cls ≠ "java/lang/invoke/MethodHandle" ∧ yX9_countWeeks.cls ≠ "java/lang/invoke/VarHandle" ∧ (parseMethodDescriptor yX9_countWeeks.desc).map (fun d => d.parameters.length) = some 1 := by decide +kernel
set_option maxHeartbeats 4000000 in
set_option maxRecDepth 100000 in
theorem r_X9_countWeeks (l : Launch) (D : va_G) (cT : ClassId × ClassId × ClassId) (q : Nat → Nat) (bd th n ro cl fb rn : Nat) (nd sk mo wk fx wi la da we : Nat → Nat) (i : Nat) (hwf : wfC n bd fb rn nd sk mo wk fx wi la da we) (hz : ∀ b, b < 4 → bit fb (4 * b) = 0) (hi : i < n) : Met l yX9_countWeeks wsX9_countWeeks ({ frames := 3, cells := 0, slots := 0, locals := 71 }) (va_Pc [.ref (q 0), .int (nI i)] (sx_R D (TY cT) (mX cT q th n ro cl fb rn nd sk mo wk fx wi la da we))) (vp_Si (fun r_ => r_ = (nI (cnw (fe sk mo fx la da fb rn i) 16384)))) 0 0 (fun _ => False) := by
  refine rd_start (cc := cX9_countWeeks) (maxL := 4) (ret := (some .int)) RX9 ⟨by decide +kernel, rfl⟩ rfl (Nat.le_of_ble_eq_true rfl) ?_
  intro p0 e0 s0 m0 a0 b0 t0 c0 S hr hlocks hP hK ls hl
  have hl : lv_has ls 4 [(0, .ref (q 0)), (1, .int (nI i))] := hl
  obtain ⟨hn, hcl, hfb, hrn, hnd, hper⟩ := id hwf
  refine lv_iconst (v := (nI 0)) S.1 S.2.1 dX9_countWeeks_0 (by decide) ?_
  refine lv_istore_n (lv' := [(2, .int (nI 0)), (0, .ref (q 0)), (1, .int (nI i))]) S.1 S.2.1 dX9_countWeeks_1 rfl hl (by decide) rfl (fun ls hl => ?_)
  refine lv_iconst (v := (nI 0)) S.1 S.2.1 dX9_countWeeks_2 (by decide) ?_
  refine lv_istore_n (lv' := [(3, .int (nI 0)), (2, .int (nI 0)), (0, .ref (q 0)), (1, .int (nI i))]) S.1 S.2.1 dX9_countWeeks_3 rfl hl (by decide) rfl (fun ls hl => ?_)
  have lp4 : ∀ (fu : Nat) (f : Nat) (w : Nat), (w ≤ 16384) → (f = cnw (fe sk mo fx la da fb rn i) w) → (16384 - w) < fu → ∀ ls : Array Slot, lv_has ls 4 [(0, .ref (q 0)), (1, .int (nI i)), (2, .int (nI f)), (3, .int (nI w))] → W p0 l e0 ({ frames := 3, cells := 0, slots := 0, locals := 71 } : Room) s0 m0 a0 b0 t0 c0 s0.heap [] 0 0 (MQ b0 (vp_Si (fun r_ => r_ = (nI (cnw (fe sk mo fx la da fb rn i) 16384)))) a0 s0 0 0 (fun _ => False)) (F0 m0 4 ls []) := by
    intro fu
    induction fu with
    | zero =>
      intro f w h2 hf hm
      exact absurd hm (Nat.not_lt_zero _)
    | succ fu ih4 =>
      intro f w h2 hf hm ls hl
      refine lv_iload_n S.1 S.2.1 dX9_countWeeks_4 rfl (lv_at hl 3 rfl) ?_
      refine lv_sipush (v := (nI 16384)) S.1 S.2.1 dX9_countWeeks_5 (by decide) ?_
      refine n_cge S (tgt := 34) (by omega) dX9_countWeeks_8 (by decide) (fun c8 => ?_) (fun c8 => ?_)
      · refine lv_iload_n S.1 S.2.1 dX9_countWeeks_34 rfl (lv_at hl 2 rfl) ?_
        exact rd_iret S hr rfl hlocks (by rw [hf, show w = 16384 by omega]) dX9_countWeeks_35
      · refine lv_iload_n S.1 S.2.1 dX9_countWeeks_11 rfl (lv_at hl 2 rfl) ?_
        refine lv_aload_n S.1 S.2.1 dX9_countWeeks_12 rfl (lv_at hl 0 rfl) ?_
        refine lv_iload_n S.1 S.2.1 dX9_countWeeks_13 rfl (lv_at hl 1 rfl) ?_
        refine lv_iload_n S.1 S.2.1 dX9_countWeeks_14 rfl (lv_at hl 3 rfl) ?_
        refine rd_callV (rest := [.int (nI f)]) S (r_X9_isPossible l D cT q bd th n ro cl fb rn nd sk mo wk fx wi la da we i w (hwf) (hz) (by omega) (by omega)) gX9_countWeeks_X9_isPossible rfl pd_X9_isPossible ⟨rfl, rfl, Nat.le_of_ble_eq_true rfl, Nat.le_of_ble_eq_true rfl⟩ hP hK (va_recv hK.1 hP (ci := 7) (q0 := 0) rfl rfl) hl rfl rfl (Nat.le_of_ble_eq_true rfl) ⟨Nat.zero_le _, Nat.zero_le _⟩ dX9_countWeeks_15 ?_
        refine n_beq S (tgt := 25) dX9_countWeeks_18 (by decide) (fun c18 => ?_) (fun c18 => ?_)
        · refine lv_iconst (v := (nI 0)) S.1 S.2.1 dX9_countWeeks_25 (by decide) ?_
          refine n_add S dX9_countWeeks_26 ?_
          refine lv_istore_n (lv' := [(2, .int (nI (f + 0))), (0, .ref (q 0)), (1, .int (nI i)), (3, .int (nI w))]) S.1 S.2.1 dX9_countWeeks_27 rfl hl (by decide) rfl (fun ls hl => ?_)
          refine lv_iinc (v := (nI (w + 1))) (lv' := [(3, .int (nI (w + 1))), (2, .int (nI (f + 0))), (0, .ref (q 0)), (1, .int (nI i))]) S.1 S.2.1 dX9_countWeeks_28 hl (k := 3) rfl (nI_1 _) (by decide) rfl (fun ls hl => ?_)
          refine lv_goto (tgt := 4) S.1 S.2.1 dX9_countWeeks_31 (by decide) ?_
          exact ih4 (f + 0) (w + 1) (by omega) (by first | (rw [hf]; exact (cnw_1 c18).symm) | (rw [hf]; exact (cnw_0 c18).symm)) (by omega) ls (lv_sub hl [2, 3, 1, 0] rfl)
        · refine lv_iconst (v := (nI 1)) S.1 S.2.1 dX9_countWeeks_21 (by decide) ?_
          refine lv_goto (tgt := 26) S.1 S.2.1 dX9_countWeeks_22 (by decide) ?_
          refine n_add S dX9_countWeeks_26 ?_
          refine lv_istore_n (lv' := [(2, .int (nI (f + 1))), (0, .ref (q 0)), (1, .int (nI i)), (3, .int (nI w))]) S.1 S.2.1 dX9_countWeeks_27 rfl hl (by decide) rfl (fun ls hl => ?_)
          refine lv_iinc (v := (nI (w + 1))) (lv' := [(3, .int (nI (w + 1))), (2, .int (nI (f + 1))), (0, .ref (q 0)), (1, .int (nI i))]) S.1 S.2.1 dX9_countWeeks_28 hl (k := 3) rfl (nI_1 _) (by decide) rfl (fun ls hl => ?_)
          refine lv_goto (tgt := 4) S.1 S.2.1 dX9_countWeeks_31 (by decide) ?_
          exact ih4 (f + 1) (w + 1) (by omega) (by first | (rw [hf]; exact (cnw_1 c18).symm) | (rw [hf]; exact (cnw_0 c18).symm)) (by omega) ls (lv_sub hl [2, 3, 1, 0] rfl)
  exact lp4 _ 0 0 (Nat.zero_le _) (rfl) (Nat.lt_succ_self _) ls (lv_sub hl [2, 3, 1, 0] rfl)

theorem pd_X9_lacking : yX9_lacking.cls = RX9 ∧ yX9_lacking.cls ≠ "java/lang/invoke/MethodHandle" ∧ yX9_lacking.cls ≠ "java/lang/invoke/VarHandle" ∧ (parseMethodDescriptor yX9_lacking.desc).map (fun d => d.parameters.length) = some 1 := by decide +kernel
theorem w_X9_lacking_0 : Cond.fieldLink RX9 47 "CoverSheetModel" "many" "I" ∈ wsX9_lacking := by decide +kernel
theorem w_X9_lacking_1 : Cond.fieldLink RX9 13 "CoverSheetModel" "skills" "[I" ∈ wsX9_lacking := by decide +kernel
theorem w_X9_lacking_2 : Cond.fieldLink RX9 20 "CoverSheetModel" "need" "[I" ∈ wsX9_lacking := by decide +kernel
theorem in_X9_lacking_X9 : ∀ w ∈ u_ws RX9 TX9 15, w ∈ wsX9_lacking := by decide +kernel
set_option maxHeartbeats 4000000 in
set_option maxRecDepth 100000 in
theorem r_X9_lacking (l : Launch) (D : va_G) (cT : ClassId × ClassId × ClassId) (q : Nat → Nat) (bd th n ro cl fb rn : Nat) (nd sk mo wk fx wi la da we : Nat → Nat) (d : Nat) (hwf : wfC n bd fb rn nd sk mo wk fx wi la da we) (hz : ∀ b, b < 4 → bit fb (4 * b) = 0) (hd : d < 7) : Met l yX9_lacking wsX9_lacking ({ frames := 0, cells := 0, slots := 0, locals := 0 }) (va_Pc [.ref (q 0), .int (nI d)] (sx_R D (TY cT) (mX cT q th n ro cl fb rn nd sk mo wk fx wi la da we))) (vp_Si (fun r_ => r_ = (nI (lks n nd sk d 8)))) 0 0 (fun _ => False) := by
  refine rd_start (cc := cX9_lacking) (maxL := 6) (ret := (some .int)) RX9 ⟨by decide +kernel, rfl⟩ rfl (Nat.le_of_ble_eq_true rfl) ?_
  intro p0 e0 s0 m0 a0 b0 t0 c0 S hr hlocks hP hK ls hl
  have hl : lv_has ls 6 [(0, .ref (q 0)), (1, .int (nI d))] := hl
  obtain ⟨hn, hcl, hfb, hrn, hnd, hper⟩ := id hwf
  refine lv_iconst (v := (nI 0)) S.1 S.2.1 dX9_lacking_0 (by decide) ?_
  refine lv_istore_n (lv' := [(2, .int (nI 0)), (0, .ref (q 0)), (1, .int (nI d))]) S.1 S.2.1 dX9_lacking_1 rfl hl (by decide) rfl (fun ls hl => ?_)
  refine lv_iconst (v := (nI 0)) S.1 S.2.1 dX9_lacking_2 (by decide) ?_
  refine lv_istore_n (lv' := [(3, .int (nI 0)), (2, .int (nI 0)), (0, .ref (q 0)), (1, .int (nI d))]) S.1 S.2.1 dX9_lacking_3 rfl hl (by decide) rfl (fun ls hl => ?_)
  have lp4 : ∀ (fu : Nat) (le : Nat) (j : Nat), (j ≤ 8) → (le = lks n nd sk d j) → (8 - j) < fu → ∀ ls : Array Slot, lv_has ls 6 [(0, .ref (q 0)), (1, .int (nI d)), (2, .int (nI le)), (3, .int (nI (2 * j)))] → W p0 l e0 ({ frames := 0, cells := 0, slots := 0, locals := 0 } : Room) s0 m0 a0 b0 t0 c0 s0.heap [] 0 0 (MQ b0 (vp_Si (fun r_ => r_ = (nI (lks n nd sk d 8)))) a0 s0 0 0 (fun _ => False)) (F0 m0 4 ls []) := by
    intro fu
    induction fu with
    | zero =>
      intro le j h2 hle hm
      exact absurd hm (Nat.not_lt_zero _)
    | succ fu ih4 =>
      intro le j h2 hle hm ls hl
      have hlq := lks_le (n := n) (sk := sk) hnd d j
      refine lv_iload_n S.1 S.2.1 dX9_lacking_4 rfl (lv_at hl 3 rfl) ?_
      refine lv_bipush (v := (nI 16)) S.1 S.2.1 dX9_lacking_5 (by decide) ?_
      refine n_cge S (tgt := 110) (by omega) dX9_lacking_7 (by decide) (fun c7 => ?_) (fun c7 => ?_)
      · refine lv_iload_n S.1 S.2.1 dX9_lacking_110 rfl (lv_at hl 2 rfl) ?_
        exact rd_iret S hr rfl hlocks (by rw [hle, show j = 8 by omega]) dX9_lacking_111
      · refine lv_iconst (v := (nI 0)) S.1 S.2.1 dX9_lacking_10 (by decide) ?_
        refine lv_istore (lv' := [(4, .int (nI 0)), (0, .ref (q 0)), (1, .int (nI d)), (2, .int (nI le)), (3, .int (nI (2 * j)))]) S.1 S.2.1 dX9_lacking_11 hl (by decide) rfl (fun ls hl => ?_)
        refine lv_iconst (v := (nI 1)) S.1 S.2.1 dX9_lacking_13 (by decide) ?_
        refine lv_istore (lv' := [(5, .int (nI 1)), (4, .int (nI 0)), (0, .ref (q 0)), (1, .int (nI d)), (2, .int (nI le)), (3, .int (nI (2 * j)))]) S.1 S.2.1 dX9_lacking_14 hl (by decide) rfl (fun ls hl => ?_)
        have lp16 : ∀ (fu : Nat) (x : Nat) (i : Nat), (i ≤ 3) → (x = nks nd d (2 * j) i) → (3 - i) < fu → ∀ ls : Array Slot, lv_has ls 6 [(0, .ref (q 0)), (1, .int (nI d)), (2, .int (nI le)), (3, .int (nI (2 * j))), (4, .int (nI x)), (5, .int (nI (i + 1)))] → W p0 l e0 ({ frames := 0, cells := 0, slots := 0, locals := 0 } : Room) s0 m0 a0 b0 t0 c0 s0.heap [] 0 0 (MQ b0 (vp_Si (fun r_ => r_ = (nI (lks n nd sk d 8)))) a0 s0 0 0 (fun _ => False)) (F0 m0 16 ls []) := by
          intro fu
          induction fu with
          | zero =>
            intro x i h3 hx hm
            exact absurd hm (Nat.not_lt_zero _)
          | succ fu ih16 =>
            intro x i h3 hx hm ls hl
            have hnk := nks_le hnd d (2 * j) i
            refine lv_iload S.1 S.2.1 dX9_lacking_16 (lv_at hl 5 rfl) ?_
            refine lv_iconst (v := (nI 3)) S.1 S.2.1 dX9_lacking_18 (by decide) ?_
            refine n_cgt S (tgt := 51) (by omega) dX9_lacking_19 (by decide) (fun c19 => ?_) (fun c19 => ?_)
            · rw [show nI x = nI x - nI 0 from (Int32.sub_zero _).symm] at hl
              refine lv_iconst (v := (nI 0)) S.1 S.2.1 dX9_lacking_51 (by decide) ?_
              refine lv_istore (lv' := [(5, .int (nI 0)), (0, .ref (q 0)), (1, .int (nI d)), (2, .int (nI le)), (3, .int (nI (2 * j))), (4, .int (nI x - nI 0))]) S.1 S.2.1 dX9_lacking_52 hl (by decide) rfl (fun ls hl => ?_)
              have lp54 : ∀ (fu : Nat) (k : Nat) (v : Nat), (v ≤ n) → (k = pw n sk (2 * j) v) → (n - v) < fu → ∀ ls : Array Slot, lv_has ls 6 [(0, .ref (q 0)), (1, .int (nI d)), (2, .int (nI le)), (3, .int (nI (2 * j))), (4, .int (nI x - nI k)), (5, .int (nI v))] → W p0 l e0 ({ frames := 0, cells := 0, slots := 0, locals := 0 } : Room) s0 m0 a0 b0 t0 c0 s0.heap [] 0 0 (MQ b0 (vp_Si (fun r_ => r_ = (nI (lks n nd sk d 8)))) a0 s0 0 0 (fun _ => False)) (F0 m0 54 ls []) := by
                intro fu
                induction fu with
                | zero =>
                  intro k v h4 hk hm
                  exact absurd hm (Nat.not_lt_zero _)
                | succ fu ih54 =>
                  intro k v h4 hk hm ls hl
                  have hpv := hper v
                  have hpw := pw_le n sk (2 * j) v
                  refine lv_iload S.1 S.2.1 dX9_lacking_54 (lv_at hl 5 rfl) ?_
                  refine lv_aload_n S.1 S.2.1 dX9_lacking_56 rfl (lv_at hl 0 rfl) ?_
                  refine g_get (C := RX9) (T := TX9) (N := 15) (v := .int (nI n)) S 0 7 1 in_X9_lacking_X9 hK hP rfl rfl (by decide) w_X9_lacking_0 rfl dX9_lacking_57 ?_
                  refine n_cge S (tgt := 91) (by omega) dX9_lacking_60 (by decide) (fun c60 => ?_) (fun c60 => ?_)
                  · refine lv_iload S.1 S.2.1 dX9_lacking_91 (lv_at hl 4 rfl) ?_
                    refine lv_iload_n S.1 S.2.1 dX9_lacking_93 rfl (lv_at hl 2 rfl) ?_
                    refine lv_icmp_le (tgt := 102) S.1 S.2.1 dX9_lacking_94 (by decide) (fun c94 => ?_) (fun c94 => ?_)
                    · refine lv_iload_n S.1 S.2.1 dX9_lacking_102 rfl (lv_at hl 2 rfl) ?_
                      refine n_top (show (nI le) = nI (lks n nd sk d (j + 1)) from by rw [mx_1 ⟨by omega, by omega, by omega⟩ c94, hk, show v = n by omega, pw_8 hn, hx, show i = 3 by omega, hle]; rfl) ?_
                      refine lv_istore_n (lv' := [(2, .int (nI (lks n nd sk d (j + 1)))), (0, .ref (q 0)), (1, .int (nI d)), (3, .int (nI (2 * j))), (4, .int (nI x - nI k)), (5, .int (nI v))]) S.1 S.2.1 dX9_lacking_103 rfl hl (by decide) rfl (fun ls hl => ?_)
                      refine lv_iinc (v := (nI (2 * (j + 1)))) (lv' := [(3, .int (nI (2 * (j + 1)))), (2, .int (nI (lks n nd sk d (j + 1)))), (0, .ref (q 0)), (1, .int (nI d)), (4, .int (nI x - nI k)), (5, .int (nI v))]) S.1 S.2.1 dX9_lacking_104 hl (k := 3) rfl (nI_add (2 * j) 2) (by decide) rfl (fun ls hl => ?_)
                      refine lv_goto (tgt := 4) S.1 S.2.1 dX9_lacking_107 (by decide) ?_
                      exact ih4 (lks n nd sk d (j + 1)) (j + 1) (by omega) (rfl) (by omega) ls (lv_sub hl [2, 3, 1, 0] rfl)
                    · refine lv_iload S.1 S.2.1 dX9_lacking_97 (lv_at hl 4 rfl) ?_
                      refine lv_goto (tgt := 103) S.1 S.2.1 dX9_lacking_99 (by decide) ?_
                      refine n_top (show (nI x - nI k) = nI (lks n nd sk d (j + 1)) from by rw [mx_2 ⟨by omega, by omega, by omega⟩ c94, hk, show v = n by omega, pw_8 hn, hx, show i = 3 by omega, hle]; rfl) ?_
                      refine lv_istore_n (lv' := [(2, .int (nI (lks n nd sk d (j + 1)))), (0, .ref (q 0)), (1, .int (nI d)), (3, .int (nI (2 * j))), (4, .int (nI x - nI k)), (5, .int (nI v))]) S.1 S.2.1 dX9_lacking_103 rfl hl (by decide) rfl (fun ls hl => ?_)
                      refine lv_iinc (v := (nI (2 * (j + 1)))) (lv' := [(3, .int (nI (2 * (j + 1)))), (2, .int (nI (lks n nd sk d (j + 1)))), (0, .ref (q 0)), (1, .int (nI d)), (4, .int (nI x - nI k)), (5, .int (nI v))]) S.1 S.2.1 dX9_lacking_104 hl (k := 3) rfl (nI_add (2 * j) 2) (by decide) rfl (fun ls hl => ?_)
                      refine lv_goto (tgt := 4) S.1 S.2.1 dX9_lacking_107 (by decide) ?_
                      exact ih4 (lks n nd sk d (j + 1)) (j + 1) (by omega) (rfl) (by omega) ls (lv_sub hl [2, 3, 1, 0] rfl)
                  · refine lv_iload S.1 S.2.1 dX9_lacking_63 (lv_at hl 4 rfl) ?_
                    refine lv_aload_n S.1 S.2.1 dX9_lacking_65 rfl (lv_at hl 0 rfl) ?_
                    refine g_get (C := RX9) (T := TX9) (N := 15) (v := .ref (q 1)) S 0 7 5 in_X9_lacking_X9 hK hP rfl rfl (by decide) w_X9_lacking_1 rfl dX9_lacking_66 ?_
                    refine lv_iload S.1 S.2.1 dX9_lacking_69 (lv_at hl 5 rfl) ?_
                    refine g_iald S 1 hK hP rfl (by omega) dX9_lacking_71 ?_
                    refine lv_iload_n S.1 S.2.1 dX9_lacking_72 rfl (lv_at hl 3 rfl) ?_
                    refine n_and S dX9_lacking_73 ?_
                    refine n_zeq S (tgt := 81) (Nat.lt_of_le_of_lt Nat.and_le_left (by omega)) dX9_lacking_74 (by decide) (fun c74 => ?_) (fun c74 => ?_)
                    · refine lv_iconst (v := (nI 0)) S.1 S.2.1 dX9_lacking_81 (by decide) ?_
                      refine lv_isub S.1 S.2.1 dX9_lacking_82 ?_
                      refine n_top (show ((nI x - nI k) - (nI 0)) = (nI x - nI k) from Int32.sub_zero _) ?_
                      refine lv_istore (lv' := [(4, .int (nI x - nI k)), (0, .ref (q 0)), (1, .int (nI d)), (2, .int (nI le)), (3, .int (nI (2 * j))), (5, .int (nI v))]) S.1 S.2.1 dX9_lacking_83 hl (by decide) rfl (fun ls hl => ?_)
                      refine lv_iinc (v := (nI (v + 1))) (lv' := [(5, .int (nI (v + 1))), (4, .int (nI x - nI k)), (0, .ref (q 0)), (1, .int (nI d)), (2, .int (nI le)), (3, .int (nI (2 * j)))]) S.1 S.2.1 dX9_lacking_85 hl (k := 5) rfl (nI_1 _) (by decide) rfl (fun ls hl => ?_)
                      refine lv_goto (tgt := 54) S.1 S.2.1 dX9_lacking_88 (by decide) ?_
                      exact ih54 k (v + 1) (by omega) (by first | (rw [hk]; exact (pw_1 ⟨c60, c74⟩).symm) | (rw [hk]; exact (pw_0 (fun q => q.2 c74)).symm)) (by omega) ls (lv_sub hl [2, 3, 4, 5, 1, 0] rfl)
                    · refine lv_iconst (v := (nI 1)) S.1 S.2.1 dX9_lacking_77 (by decide) ?_
                      refine lv_goto (tgt := 82) S.1 S.2.1 dX9_lacking_78 (by decide) ?_
                      refine lv_isub S.1 S.2.1 dX9_lacking_82 ?_
                      refine n_top (show ((nI x - nI k) - (nI 1)) = (nI x - nI (k + 1)) from dif_sub _ 1 _) ?_
                      refine lv_istore (lv' := [(4, .int (nI x - nI (k + 1))), (0, .ref (q 0)), (1, .int (nI d)), (2, .int (nI le)), (3, .int (nI (2 * j))), (5, .int (nI v))]) S.1 S.2.1 dX9_lacking_83 hl (by decide) rfl (fun ls hl => ?_)
                      refine lv_iinc (v := (nI (v + 1))) (lv' := [(5, .int (nI (v + 1))), (4, .int (nI x - nI (k + 1))), (0, .ref (q 0)), (1, .int (nI d)), (2, .int (nI le)), (3, .int (nI (2 * j)))]) S.1 S.2.1 dX9_lacking_85 hl (k := 5) rfl (nI_1 _) (by decide) rfl (fun ls hl => ?_)
                      refine lv_goto (tgt := 54) S.1 S.2.1 dX9_lacking_88 (by decide) ?_
                      exact ih54 (k + 1) (v + 1) (by omega) (by first | (rw [hk]; exact (pw_1 ⟨c60, c74⟩).symm) | (rw [hk]; exact (pw_0 (fun q => q.2 c74)).symm)) (by omega) ls (lv_sub hl [2, 3, 4, 5, 1, 0] rfl)
              exact lp54 _ 0 0 (Nat.zero_le _) (rfl) (Nat.lt_succ_self _) ls (lv_sub hl [1, 2, 3, 4, 5, 0] rfl)
            · refine lv_iload S.1 S.2.1 dX9_lacking_22 (lv_at hl 4 rfl) ?_
              refine lv_iload_n S.1 S.2.1 dX9_lacking_24 rfl (lv_at hl 3 rfl) ?_
              refine lv_iload S.1 S.2.1 dX9_lacking_25 (lv_at hl 5 rfl) ?_
              refine n_shr S (by omega) dX9_lacking_27 ?_
              refine lv_iconst (v := (nI 1)) S.1 S.2.1 dX9_lacking_28 (by decide) ?_
              refine n_and S dX9_lacking_29 ?_
              refine n_top (show (nI (((2 * j) / 2 ^ (i + 1)) &&& 1)) = (nI (bit (2 * j) (i + 1))) from congrArg nI (Nat.and_one_is_mod _)) ?_
              refine lv_aload_n S.1 S.2.1 dX9_lacking_30 rfl (lv_at hl 0 rfl) ?_
              refine g_get (C := RX9) (T := TX9) (N := 15) (v := .ref (q 3)) S 0 7 7 in_X9_lacking_X9 hK hP rfl rfl (by decide) w_X9_lacking_2 rfl dX9_lacking_31 ?_
              refine lv_iconst (v := (nI 4)) S.1 S.2.1 dX9_lacking_34 (by decide) ?_
              refine lv_iload_n S.1 S.2.1 dX9_lacking_35 rfl (lv_at hl 1 rfl) ?_
              refine n_mul S dX9_lacking_36 ?_
              refine lv_iload S.1 S.2.1 dX9_lacking_37 (lv_at hl 5 rfl) ?_
              refine n_add S dX9_lacking_39 ?_
              refine g_iald S 3 hK hP rfl (by omega) dX9_lacking_40 ?_
              refine n_top (show (nI (nd ((4 * d) + (i + 1)))) = (nI (nd (d * 4 + (i + 1)))) from by rw [Nat.mul_comm 4 d]) ?_
              refine n_mul S dX9_lacking_41 ?_
              refine n_add S dX9_lacking_42 ?_
              refine lv_istore (lv' := [(4, .int (nI (x + ((bit (2 * j) (i + 1)) * (nd (d * 4 + (i + 1))))))), (0, .ref (q 0)), (1, .int (nI d)), (2, .int (nI le)), (3, .int (nI (2 * j))), (5, .int (nI (i + 1)))]) S.1 S.2.1 dX9_lacking_43 hl (by decide) rfl (fun ls hl => ?_)
              refine lv_iinc (v := (nI (i + 1 + 1))) (lv' := [(5, .int (nI (i + 1 + 1))), (4, .int (nI (x + ((bit (2 * j) (i + 1)) * (nd (d * 4 + (i + 1))))))), (0, .ref (q 0)), (1, .int (nI d)), (2, .int (nI le)), (3, .int (nI (2 * j)))]) S.1 S.2.1 dX9_lacking_45 hl (k := 5) rfl (nI_1 _) (by decide) rfl (fun ls hl => ?_)
              refine lv_goto (tgt := 16) S.1 S.2.1 dX9_lacking_48 (by decide) ?_
              exact ih16 (x + ((bit (2 * j) (i + 1)) * (nd (d * 4 + (i + 1))))) (i + 1) (by omega) (by rw [hx]; rfl) (by omega) ls (lv_sub hl [2, 3, 4, 5, 1, 0] rfl)
        exact lp16 _ 0 0 (Nat.zero_le _) (rfl) (Nat.lt_succ_self _) ls (lv_sub hl [2, 3, 4, 5, 1, 0] rfl)
  exact lp4 _ 0 0 (Nat.zero_le _) (rfl) (Nat.lt_succ_self _) ls (lv_sub hl [2, 3, 1, 0] rfl)

