theorem swc_t {sk mo wk fx la da : Nat → Nat} {fb rn i d k : Nat} (h1 : ent (wk i) d ≠ ent (wk k) d) (h2 : (i != k && csw sk mo wk fx la da fb rn i k d) = true) : swc sk mo wk fx la da fb rn i d k = true := by
  rw [Bool.and_eq_true] at h2
  show (ent (wk i) d != ent (wk k) d && csw sk mo wk fx la da fb rn i k d) = true
  rw [h2.2, show (ent (wk i) d != ent (wk k) d) = true from bne_iff_ne.mpr h1]; rfl
theorem swc_f1 {sk mo wk fx la da : Nat → Nat} {fb rn i d k : Nat} (h1 : ent (wk i) d = ent (wk k) d) : swc sk mo wk fx la da fb rn i d k = false := by
  show (ent (wk i) d != ent (wk k) d && csw sk mo wk fx la da fb rn i k d) = false
  rw [h1, show (ent (wk k) d != ent (wk k) d) = false by simp]; rfl
theorem swc_f2 {sk mo wk fx la da : Nat → Nat} {fb rn i d k : Nat} (h2 : (i != k && csw sk mo wk fx la da fb rn i k d) = false) : swc sk mo wk fx la da fb rn i d k = false := by
  rw [Bool.and_eq_false_iff] at h2
  rcases h2 with q | q
  · have q2 : i = k := by simpa using q
    exact swc_f1 (by rw [q2])
  · show (ent (wk i) d != ent (wk k) d && csw sk mo wk fx la da fb rn i k d) = false
    rw [q, Bool.and_false]
theorem pd_X9_enter : yX9_enter.cls = RX9 ∧ yX9_enter.cls ≠ "java/lang/invoke/MethodHandle" ∧ yX9_enter.cls ≠ "java/lang/invoke/VarHandle" ∧ (parseMethodDescriptor yX9_enter.desc).map (fun d => d.parameters.length) = some 2 := by decide +kernel
theorem w_X9_enter_0 : Cond.fieldLink RX9 26 "CoverSheetModel" "entries" "[I" ∈ wsX9_enter := by decide +kernel
theorem in_X9_enter_X9 : ∀ w ∈ u_ws RX9 TX9 15, w ∈ wsX9_enter := by decide +kernel
set_option maxHeartbeats 4000000 in
set_option maxRecDepth 100000 in
theorem w_X9_enter (l : Launch) (D : va_G) (cT : ClassId × ClassId × ClassId) (sz : Nat) (q : Nat → Nat) (bd th n ro cl fb rn : Nat) (nd sk mo wk fx wi la da we : Nat → Nat) (i w : Nat) (hwf : wfC n bd fb rn nd sk mo wk fx wi la da we) (hz : ∀ b, b < 4 → bit fb (4 * b) = 0) (hi : i < 8) (hw : w < 16384) : Met l yX9_enter wsX9_enter ({ frames := 1, cells := 0, slots := 0, locals := 21 } : Room) (va_Pc [.ref (q 0), .int (nI i), .int (nI w)] (wr_R D (TY cT) (mX cT q th n ro cl fb rn nd sk mo wk fx wi la da we) sz)) (wQv (fun (_ : Unit) => True) D (fun (_ : Unit) => mX cT q th n ro cl fb rn nd sk mo (va_up wk i w) fx wi la da we) (va_A (mX cT q th n ro cl fb rn nd sk mo wk fx wi la da we) sz)) 0 0 (va_A (mX cT q th n ro cl fb rn nd sk mo wk fx wi la da we) sz) := by
  refine wr_start (cc := cX9_enter) (maxL := 4) (ret := none) RX9 ⟨by decide +kernel, rfl⟩ rfl (Nat.le_of_ble_eq_true rfl) ?_
  intro p0 e0 s0 m0 a0 b0 t0 c0 S hr hlocks hin hP hK hA hD hS ls hl
  generalize va_A (mX cT q th n ro cl fb rn nd sk mo wk fx wi la da we) sz = A at hA hD hS ⊢
  have hl : lv_has ls 4 [(0, .ref (q 0)), (1, .int (nI i)), (2, .int (nI w))] := hl
  obtain ⟨hn, hcl, hfb, hrn, hnd, hper⟩ := id hwf
  have hpi := hper i
  refine lv_iconst (v := (nI 0)) S.1 S.2.1 dX9_enter_0 (by decide) ?_
  refine lv_istore_n (lv' := [(3, .int (nI 0)), (0, .ref (q 0)), (1, .int (nI i)), (2, .int (nI w))]) S.1 S.2.1 dX9_enter_1 rfl hl (by decide) rfl (fun ls hl => ?_)
  have lp2 : ∀ (fu : Nat) (w1 : Nat → Nat) (d : Nat), (d ≤ 7) → (w1 = va_up wk i (mxw (wk i) w d)) → (7 - d) < fu → ∀ (H : Heap) (locs : List Loc), va_P D vwCl (mX cT q th n ro cl fb rn nd sk mo w1 fx wi la da we) H → va_D A (mX cT q th n ro cl fb rn nd sk mo w1 fx wi la da we) → va_S A s0.heap H locs → ∀ ls : Array Slot, lv_has ls 4 [(0, .ref (q 0)), (1, .int (nI i)), (2, .int (nI w)), (3, .int (nI d))] → W p0 l e0 ({ frames := 1, cells := 0, slots := 0, locals := 21 } : Room) s0 m0 a0 b0 t0 c0 H locs 0 0 (MQ b0 (wQv (fun (_ : Unit) => True) D (fun (_ : Unit) => mX cT q th n ro cl fb rn nd sk mo (va_up wk i w) fx wi la da we) A) a0 s0 0 0 A) (F0 m0 2 ls []) := by
    intro fu
    induction fu with
    | zero =>
      intro w1 d h2 hw1 hm
      exact absurd hm (Nat.not_lt_zero _)
    | succ fu ih2 =>
      intro w1 d h2 hw1 hm H locs hP hD hS ls hl
      refine lv_iload_n S.1 S.2.1 dX9_enter_2 rfl (lv_at hl 3 rfl) ?_
      refine lv_bipush (v := (nI 7)) S.1 S.2.1 dX9_enter_3 (by decide) ?_
      refine n_cge S (tgt := 30) (by omega) dX9_enter_5 (by decide) (fun c5 => ?_) (fun c5 => ?_)
      · exact wr_vret S (()) hr hlocks (trivial) (by rw [hw1, show d = 7 by omega, mxw_7 (by omega) hw] at hP; exact hP) (by rw [hw1, show d = 7 by omega, mxw_7 (by omega) hw] at hD; exact hD) hS dX9_enter_30
      · refine lv_aload_n S.1 S.2.1 dX9_enter_8 rfl (lv_at hl 0 rfl) ?_
        refine g_get (C := RX9) (T := TX9) (N := 15) (v := .ref (q 5)) S 0 7 9 in_X9_enter_X9 hK hP rfl rfl (by decide) w_X9_enter_0 rfl dX9_enter_9 ?_
        refine lv_bipush (v := (nI 7)) S.1 S.2.1 dX9_enter_12 (by decide) ?_
        refine lv_iload_n S.1 S.2.1 dX9_enter_14 rfl (lv_at hl 1 rfl) ?_
        refine n_mul S dX9_enter_15 ?_
        refine lv_iload_n S.1 S.2.1 dX9_enter_16 rfl (lv_at hl 3 rfl) ?_
        refine n_add S dX9_enter_17 ?_
        refine lv_iload_n S.1 S.2.1 dX9_enter_18 rfl (lv_at hl 2 rfl) ?_
        refine lv_iload_n S.1 S.2.1 dX9_enter_19 rfl (lv_at hl 3 rfl) ?_
        refine rd_callS (rest := [.int (nI ((7 * i) + d)), .ref (q 5)]) S (r_X9_entryOf l D cT w d (by omega) (by omega)) gX9_enter_X9_entryOf rfl pd_X9_entryOf ⟨rfl, rfl, Nat.le_of_ble_eq_true rfl, Nat.le_of_ble_eq_true rfl⟩ (sx_P0 D _) hK hl rfl rfl (Nat.le_of_ble_eq_true rfl) ⟨Nat.zero_le _, Nat.zero_le _⟩ dX9_enter_20 ?_
        refine w_iast S 5 hK hP hD hS rfl (by omega) dX9_enter_23 (fun H locs hP hD hS => ?_)
        have hP : va_P D vwCl (mX cT q th n ro cl fb rn nd sk mo (va_up w1 i (wset (w1 i) d (ent w d))) fx wi la da we) H := by rw [en_up (wk := w1) (i := i) (d := d) (v := ent w d) (by omega) (by first | omega | exact ent_lt _ _)] at hP; exact hP
        have hD : va_D A (mX cT q th n ro cl fb rn nd sk mo (va_up w1 i (wset (w1 i) d (ent w d))) fx wi la da we) := by rw [en_up (wk := w1) (i := i) (d := d) (v := ent w d) (by omega) (by first | omega | exact ent_lt _ _)] at hD; exact hD
        refine lv_iinc (v := (nI (d + 1))) (lv' := [(3, .int (nI (d + 1))), (0, .ref (q 0)), (1, .int (nI i)), (2, .int (nI w))]) S.1 S.2.1 dX9_enter_24 hl (k := 3) rfl (nI_1 _) (by decide) rfl (fun ls hl => ?_)
        refine lv_goto (tgt := 2) S.1 S.2.1 dX9_enter_27 (by decide) ?_
        exact ih2 (va_up w1 i (wset (w1 i) d (ent w d))) (d + 1) (by omega) (by rw [hw1, vu_s, vu_vu]; rfl) (by omega) _ _ hP hD hS ls (lv_sub hl [1, 2, 3, 0] rfl)
  exact lp2 _ wk 0 (Nat.zero_le _) (vu_id.symm) (Nat.lt_succ_self _) _ _ hP hD hS ls (lv_sub hl [1, 2, 3, 0] rfl)

theorem pd_X9_set : yX9_set.cls = RX9 ∧ yX9_set.cls ≠ "java/lang/invoke/MethodHandle" ∧ yX9_set.cls ≠ "java/lang/invoke/VarHandle" ∧ (parseMethodDescriptor yX9_set.desc).map (fun d => d.parameters.length) = some 3 := by decide +kernel
theorem w_X9_set_0 : Cond.fieldLink RX9 44 "CoverSheetModel" "thrown" "I" ∈ wsX9_set := by decide +kernel
theorem in_X9_set_X9 : ∀ w ∈ u_ws RX9 TX9 15, w ∈ wsX9_set := by decide +kernel
set_option maxHeartbeats 4000000 in
set_option maxRecDepth 100000 in
theorem w_X9_set_x0 (l : Launch) (D : va_G) (cT : ClassId × ClassId × ClassId) (sz : Nat) (q : Nat → Nat) (bd th n ro cl fb rn : Nat) (nd sk mo wk fx wi la da we : Nat → Nat) (x : Int32) (zd : Int32) (ze : Int32) (hwf : wfC n bd fb rn nd sk mo wk fx wi la da we) (hz : ∀ b, b < 4 → bit fb (4 * b) = 0) (hx : PX x n) : Met l yX9_set wsX9_set ({ frames := 2, cells := 0, slots := 0, locals := 43 } : Room) (va_Pc [.ref (q 0), .int x, .int zd, .int ze] (wr_R D (TY cT) (mX cT q th n ro cl fb rn nd sk mo wk fx wi la da we) sz)) (wQi (fun (r_ : Int32) (_ : Unit) => r_ = (nI 0)) D (fun (_ : Unit) => mX cT q 1 n ro cl fb rn nd sk mo wk fx wi la da we) (va_A (mX cT q th n ro cl fb rn nd sk mo wk fx wi la da we) sz)) 0 0 (va_A (mX cT q th n ro cl fb rn nd sk mo wk fx wi la da we) sz) := by
  refine wr_start (cc := cX9_set) (maxL := 5) (ret := (some .int)) RX9 ⟨by decide +kernel, rfl⟩ rfl (Nat.le_of_ble_eq_true rfl) ?_
  intro p0 e0 s0 m0 a0 b0 t0 c0 S hr hlocks hin hP hK hA hD hS ls hl
  generalize va_A (mX cT q th n ro cl fb rn nd sk mo wk fx wi la da we) sz = A at hA hD hS ⊢
  have hl : lv_has ls 5 [(0, .ref (q 0)), (1, .int x), (2, .int zd), (3, .int ze)] := hl
  obtain ⟨hn, hcl, hfb, hrn, hnd, hper⟩ := id hwf
  refine lv_aload_n S.1 S.2.1 dX9_set_0 rfl (lv_at hl 0 rfl) ?_
  refine lv_iconst (v := (nI 0)) S.1 S.2.1 dX9_set_1 (by decide) ?_
  refine w_put (C := RX9) (T := TX9) (N := 15) (v := .int (nI 0)) (ty := .int) S 0 7 0 in_X9_set_X9 tyX9 tyX9_ok nmX9 hK hP hD hS rfl rfl (by decide) w_X9_set_0 rfl (by decide +kernel) rfl rfl (Nat.le_of_ble_eq_true rfl) dX9_set_2 (fun H locs hP hD hS => ?_)
  have hP : va_P D vwCl (mX cT q 0 n ro cl fb rn nd sk mo wk fx wi la da we) H := hP
  have hD : va_D A (mX cT q 0 n ro cl fb rn nd sk mo wk fx wi la da we) := hD
  refine lv_aload_n S.1 S.2.1 dX9_set_5 rfl (lv_at hl 0 rfl) ?_
  refine lv_iload_n S.1 S.2.1 dX9_set_6 rfl (lv_at hl 1 rfl) ?_
  refine rd_callV (rest := []) S (r_X9_isPerson_x l D cT q bd 0 n ro cl fb rn nd sk mo wk fx wi la da we x (hwf) (hz) (hx)) gX9_set_X9_isPerson rfl pd_X9_isPerson ⟨rfl, rfl, Nat.le_of_ble_eq_true rfl, Nat.le_of_ble_eq_true rfl⟩ hP hK (va_recv hK.1 hP (ci := 7) (q0 := 0) rfl rfl) hl rfl rfl (Nat.le_of_ble_eq_true rfl) ⟨Nat.zero_le _, Nat.zero_le _⟩ dX9_set_7 ?_
  refine n_beq S (tgt := 20) dX9_set_10 (by decide) (fun _ => ?_) (fun q => absurd q (by decide))
  refine lv_aload_n S.1 S.2.1 dX9_set_20 rfl (lv_at hl 0 rfl) ?_
  refine lv_iconst (v := (nI 1)) S.1 S.2.1 dX9_set_21 (by decide) ?_
  refine wr_callVi (rest := []) S (w_X9_fails l D cT _ q bd 0 n ro cl fb rn nd sk mo wk fx wi la da we 1 (hwf) (hz)) gX9_set_X9_fails rfl pd_X9_fails ⟨rfl, rfl, Nat.le_of_ble_eq_true rfl, Nat.le_of_ble_eq_true rfl⟩ hP hK hD hS hA (va_recv hK.1 hP (ci := 7) (q0 := 0) rfl rfl) hl rfl rfl (Nat.le_of_ble_eq_true rfl) ⟨Nat.zero_le _, Nat.zero_le _⟩ dX9_set_22 (fun r_ u_ H locs hr_ hP hD hS => ?_)
  subst hr_
  have hP : va_P D vwCl (mX cT q 1 n ro cl fb rn nd sk mo wk fx wi la da we) H := hP
  have hD : va_D A (mX cT q 1 n ro cl fb rn nd sk mo wk fx wi la da we) := hD
  exact wr_iret S (()) hr rfl hlocks (rfl) (hP) (hD) hS dX9_set_25

set_option maxHeartbeats 4000000 in
set_option maxRecDepth 100000 in
theorem w_X9_set_x1 (l : Launch) (D : va_G) (cT : ClassId × ClassId × ClassId) (sz : Nat) (q : Nat → Nat) (bd th n ro cl fb rn : Nat) (nd sk mo wk fx wi la da we : Nat → Nat) (i : Nat) (x : Int32) (ze : Int32) (hwf : wfC n bd fb rn nd sk mo wk fx wi la da we) (hz : ∀ b, b < 4 → bit fb (4 * b) = 0) (hi : i < n) (hx : PX x 7) : Met l yX9_set wsX9_set ({ frames := 2, cells := 0, slots := 0, locals := 43 } : Room) (va_Pc [.ref (q 0), .int (nI i), .int x, .int ze] (wr_R D (TY cT) (mX cT q th n ro cl fb rn nd sk mo wk fx wi la da we) sz)) (wQi (fun (r_ : Int32) (_ : Unit) => r_ = (nI 0)) D (fun (_ : Unit) => mX cT q 1 n ro cl fb rn nd sk mo wk fx wi la da we) (va_A (mX cT q th n ro cl fb rn nd sk mo wk fx wi la da we) sz)) 0 0 (va_A (mX cT q th n ro cl fb rn nd sk mo wk fx wi la da we) sz) := by
  refine wr_start (cc := cX9_set) (maxL := 5) (ret := (some .int)) RX9 ⟨by decide +kernel, rfl⟩ rfl (Nat.le_of_ble_eq_true rfl) ?_
  intro p0 e0 s0 m0 a0 b0 t0 c0 S hr hlocks hin hP hK hA hD hS ls hl
  generalize va_A (mX cT q th n ro cl fb rn nd sk mo wk fx wi la da we) sz = A at hA hD hS ⊢
  have hl : lv_has ls 5 [(0, .ref (q 0)), (1, .int (nI i)), (2, .int x), (3, .int ze)] := hl
  obtain ⟨hn, hcl, hfb, hrn, hnd, hper⟩ := id hwf
  refine lv_aload_n S.1 S.2.1 dX9_set_0 rfl (lv_at hl 0 rfl) ?_
  refine lv_iconst (v := (nI 0)) S.1 S.2.1 dX9_set_1 (by decide) ?_
  refine w_put (C := RX9) (T := TX9) (N := 15) (v := .int (nI 0)) (ty := .int) S 0 7 0 in_X9_set_X9 tyX9 tyX9_ok nmX9 hK hP hD hS rfl rfl (by decide) w_X9_set_0 rfl (by decide +kernel) rfl rfl (Nat.le_of_ble_eq_true rfl) dX9_set_2 (fun H locs hP hD hS => ?_)
  have hP : va_P D vwCl (mX cT q 0 n ro cl fb rn nd sk mo wk fx wi la da we) H := hP
  have hD : va_D A (mX cT q 0 n ro cl fb rn nd sk mo wk fx wi la da we) := hD
  refine lv_aload_n S.1 S.2.1 dX9_set_5 rfl (lv_at hl 0 rfl) ?_
  refine lv_iload_n S.1 S.2.1 dX9_set_6 rfl (lv_at hl 1 rfl) ?_
  refine rd_callV (rest := []) S (r_X9_isPerson l D cT q bd 0 n ro cl fb rn nd sk mo wk fx wi la da we i (hwf) (hz) (by omega)) gX9_set_X9_isPerson rfl pd_X9_isPerson ⟨rfl, rfl, Nat.le_of_ble_eq_true rfl, Nat.le_of_ble_eq_true rfl⟩ hP hK (va_recv hK.1 hP (ci := 7) (q0 := 0) rfl rfl) hl rfl rfl (Nat.le_of_ble_eq_true rfl) ⟨Nat.zero_le _, Nat.zero_le _⟩ dX9_set_7 ?_
  refine n_beq S (tgt := 20) dX9_set_10 (by decide) (fun q => absurd q (by decide)) (fun _ => ?_)
  refine lv_iload_n S.1 S.2.1 dX9_set_13 rfl (lv_at hl 2 rfl) ?_
  refine rd_callS (rest := []) S (r_X9_isDay_x l D cT x (hx)) gX9_set_X9_isDay rfl pd_X9_isDay ⟨rfl, rfl, Nat.le_of_ble_eq_true rfl, Nat.le_of_ble_eq_true rfl⟩ (sx_P0 D _) hK hl rfl rfl (Nat.le_of_ble_eq_true rfl) ⟨Nat.zero_le _, Nat.zero_le _⟩ dX9_set_14 ?_
  refine n_bne S (tgt := 26) dX9_set_17 (by decide) (fun q => absurd q (by decide)) (fun _ => ?_)
  refine lv_aload_n S.1 S.2.1 dX9_set_20 rfl (lv_at hl 0 rfl) ?_
  refine lv_iconst (v := (nI 1)) S.1 S.2.1 dX9_set_21 (by decide) ?_
  refine wr_callVi (rest := []) S (w_X9_fails l D cT _ q bd 0 n ro cl fb rn nd sk mo wk fx wi la da we 1 (hwf) (hz)) gX9_set_X9_fails rfl pd_X9_fails ⟨rfl, rfl, Nat.le_of_ble_eq_true rfl, Nat.le_of_ble_eq_true rfl⟩ hP hK hD hS hA (va_recv hK.1 hP (ci := 7) (q0 := 0) rfl rfl) hl rfl rfl (Nat.le_of_ble_eq_true rfl) ⟨Nat.zero_le _, Nat.zero_le _⟩ dX9_set_22 (fun r_ u_ H locs hr_ hP hD hS => ?_)
  subst hr_
  have hP : va_P D vwCl (mX cT q 1 n ro cl fb rn nd sk mo wk fx wi la da we) H := hP
  have hD : va_D A (mX cT q 1 n ro cl fb rn nd sk mo wk fx wi la da we) := hD
  exact wr_iret S (()) hr rfl hlocks (rfl) (hP) (hD) hS dX9_set_25

set_option maxHeartbeats 4000000 in
set_option maxRecDepth 100000 in
theorem w_X9_set_x2 (l : Launch) (D : va_G) (cT : ClassId × ClassId × ClassId) (sz : Nat) (q : Nat → Nat) (bd th n ro cl fb rn : Nat) (nd sk mo wk fx wi la da we : Nat → Nat) (i : Nat) (d : Nat) (x : Int32) (hwf : wfC n bd fb rn nd sk mo wk fx wi la da we) (hz : ∀ b, b < 4 → bit fb (4 * b) = 0) (hi : i < n) (hd : d < 7) (hx : x < nI 0 ∨ nI 3 < x) : Met l yX9_set wsX9_set ({ frames := 2, cells := 0, slots := 0, locals := 43 } : Room) (va_Pc [.ref (q 0), .int (nI i), .int (nI d), .int x] (wr_R D (TY cT) (mX cT q th n ro cl fb rn nd sk mo wk fx wi la da we) sz)) (wQi (fun (r_ : Int32) (_ : Unit) => r_ = (nI 0)) D (fun (_ : Unit) => mX cT q 2 n ro cl fb rn nd sk mo wk fx wi la da we) (va_A (mX cT q th n ro cl fb rn nd sk mo wk fx wi la da we) sz)) 0 0 (va_A (mX cT q th n ro cl fb rn nd sk mo wk fx wi la da we) sz) := by
  refine wr_start (cc := cX9_set) (maxL := 5) (ret := (some .int)) RX9 ⟨by decide +kernel, rfl⟩ rfl (Nat.le_of_ble_eq_true rfl) ?_
  intro p0 e0 s0 m0 a0 b0 t0 c0 S hr hlocks hin hP hK hA hD hS ls hl
  generalize va_A (mX cT q th n ro cl fb rn nd sk mo wk fx wi la da we) sz = A at hA hD hS ⊢
  have hl : lv_has ls 5 [(0, .ref (q 0)), (1, .int (nI i)), (2, .int (nI d)), (3, .int x)] := hl
  obtain ⟨hn, hcl, hfb, hrn, hnd, hper⟩ := id hwf
  refine lv_aload_n S.1 S.2.1 dX9_set_0 rfl (lv_at hl 0 rfl) ?_
  refine lv_iconst (v := (nI 0)) S.1 S.2.1 dX9_set_1 (by decide) ?_
  refine w_put (C := RX9) (T := TX9) (N := 15) (v := .int (nI 0)) (ty := .int) S 0 7 0 in_X9_set_X9 tyX9 tyX9_ok nmX9 hK hP hD hS rfl rfl (by decide) w_X9_set_0 rfl (by decide +kernel) rfl rfl (Nat.le_of_ble_eq_true rfl) dX9_set_2 (fun H locs hP hD hS => ?_)
  have hP : va_P D vwCl (mX cT q 0 n ro cl fb rn nd sk mo wk fx wi la da we) H := hP
  have hD : va_D A (mX cT q 0 n ro cl fb rn nd sk mo wk fx wi la da we) := hD
  refine lv_aload_n S.1 S.2.1 dX9_set_5 rfl (lv_at hl 0 rfl) ?_
  refine lv_iload_n S.1 S.2.1 dX9_set_6 rfl (lv_at hl 1 rfl) ?_
  refine rd_callV (rest := []) S (r_X9_isPerson l D cT q bd 0 n ro cl fb rn nd sk mo wk fx wi la da we i (hwf) (hz) (by omega)) gX9_set_X9_isPerson rfl pd_X9_isPerson ⟨rfl, rfl, Nat.le_of_ble_eq_true rfl, Nat.le_of_ble_eq_true rfl⟩ hP hK (va_recv hK.1 hP (ci := 7) (q0 := 0) rfl rfl) hl rfl rfl (Nat.le_of_ble_eq_true rfl) ⟨Nat.zero_le _, Nat.zero_le _⟩ dX9_set_7 ?_
  refine n_beq S (tgt := 20) dX9_set_10 (by decide) (fun q => absurd q (by decide)) (fun _ => ?_)
  refine lv_iload_n S.1 S.2.1 dX9_set_13 rfl (lv_at hl 2 rfl) ?_
  refine rd_callS (rest := []) S (r_X9_isDay l D cT d (by omega)) gX9_set_X9_isDay rfl pd_X9_isDay ⟨rfl, rfl, Nat.le_of_ble_eq_true rfl, Nat.le_of_ble_eq_true rfl⟩ (sx_P0 D _) hK hl rfl rfl (Nat.le_of_ble_eq_true rfl) ⟨Nat.zero_le _, Nat.zero_le _⟩ dX9_set_14 ?_
  refine n_bne S (tgt := 26) dX9_set_17 (by decide) (fun _ => ?_) (fun q => absurd q (by decide))
  refine lv_iload_n S.1 S.2.1 dX9_set_26 rfl (lv_at hl 3 rfl) ?_
  refine lv_iconst (v := (nI 0)) S.1 S.2.1 dX9_set_27 (by decide) ?_
  refine lv_iconst (v := (nI 3)) S.1 S.2.1 dX9_set_28 (by decide) ?_
  refine rd_callS (rest := []) S (r_X9_in l D cT x (nI 0) (nI 3) ) gX9_set_X9_in rfl pd_X9_in ⟨rfl, rfl, Nat.le_of_ble_eq_true rfl, Nat.le_of_ble_eq_true rfl⟩ (sx_P0 D _) hK hl rfl rfl (Nat.le_of_ble_eq_true rfl) ⟨Nat.zero_le _, Nat.zero_le _⟩ dX9_set_29 ?_
  refine n_top (show (nI (inb x (nI 0) (nI 3)).toNat) = (nI false.toNat) from by rw [inb_f hx]) ?_
  refine n_bne S (tgt := 41) dX9_set_32 (by decide) (fun q => absurd q (by decide)) (fun _ => ?_)
  refine lv_aload_n S.1 S.2.1 dX9_set_35 rfl (lv_at hl 0 rfl) ?_
  refine lv_iconst (v := (nI 2)) S.1 S.2.1 dX9_set_36 (by decide) ?_
  refine wr_callVi (rest := []) S (w_X9_fails l D cT _ q bd 0 n ro cl fb rn nd sk mo wk fx wi la da we 2 (hwf) (hz)) gX9_set_X9_fails rfl pd_X9_fails ⟨rfl, rfl, Nat.le_of_ble_eq_true rfl, Nat.le_of_ble_eq_true rfl⟩ hP hK hD hS hA (va_recv hK.1 hP (ci := 7) (q0 := 0) rfl rfl) hl rfl rfl (Nat.le_of_ble_eq_true rfl) ⟨Nat.zero_le _, Nat.zero_le _⟩ dX9_set_37 (fun r_ u_ H locs hr_ hP hD hS => ?_)
  subst hr_
  have hP : va_P D vwCl (mX cT q 2 n ro cl fb rn nd sk mo wk fx wi la da we) H := hP
  have hD : va_D A (mX cT q 2 n ro cl fb rn nd sk mo wk fx wi la da we) := hD
  exact wr_iret S (()) hr rfl hlocks (rfl) (hP) (hD) hS dX9_set_40

theorem w_X9_set_1 : Cond.fieldLink RX9 26 "CoverSheetModel" "entries" "[I" ∈ wsX9_set := by decide +kernel
set_option maxHeartbeats 4000000 in
set_option maxRecDepth 100000 in
theorem w_X9_set (l : Launch) (D : va_G) (cT : ClassId × ClassId × ClassId) (sz : Nat) (q : Nat → Nat) (bd th n ro cl fb rn : Nat) (nd sk mo wk fx wi la da we : Nat → Nat) (i : Nat) (d : Nat) (e : Nat) (hwf : wfC n bd fb rn nd sk mo wk fx wi la da we) (hz : ∀ b, b < 4 → bit fb (4 * b) = 0) (hi : i < n) (hd : d < 7) (he : e < 4) (hf : fe sk mo fx la da fb rn i (wset (wk i) d e) = true) : Met l yX9_set wsX9_set ({ frames := 3, cells := 0, slots := 0, locals := 71 } : Room) (va_Pc [.ref (q 0), .int (nI i), .int (nI d), .int (nI e)] (wr_R D (TY cT) (mX cT q th n ro cl fb rn nd sk mo wk fx wi la da we) sz)) (wQi (fun (r_ : Int32) (_ : Unit) => r_ = (nI (ent (wk i) d))) D (fun (_ : Unit) => mX cT q 0 n ro cl fb rn nd sk mo (va_up wk i (wset (wk i) d e)) fx wi la da we) (va_A (mX cT q th n ro cl fb rn nd sk mo wk fx wi la da we) sz)) 0 0 (va_A (mX cT q th n ro cl fb rn nd sk mo wk fx wi la da we) sz) := by
  refine wr_start (cc := cX9_set) (maxL := 5) (ret := (some .int)) RX9 ⟨by decide +kernel, rfl⟩ rfl (Nat.le_of_ble_eq_true rfl) ?_
  intro p0 e0 s0 m0 a0 b0 t0 c0 S hr hlocks hin hP hK hA hD hS ls hl
  generalize va_A (mX cT q th n ro cl fb rn nd sk mo wk fx wi la da we) sz = A at hA hD hS ⊢
  have hl : lv_has ls 5 [(0, .ref (q 0)), (1, .int (nI i)), (2, .int (nI d)), (3, .int (nI e))] := hl
  obtain ⟨hn, hcl, hfb, hrn, hnd, hper⟩ := id hwf
  have hpi := hper i
  refine lv_aload_n S.1 S.2.1 dX9_set_0 rfl (lv_at hl 0 rfl) ?_
  refine lv_iconst (v := (nI 0)) S.1 S.2.1 dX9_set_1 (by decide) ?_
  refine w_put (C := RX9) (T := TX9) (N := 15) (v := .int (nI 0)) (ty := .int) S 0 7 0 in_X9_set_X9 tyX9 tyX9_ok nmX9 hK hP hD hS rfl rfl (by decide) w_X9_set_0 rfl (by decide +kernel) rfl rfl (Nat.le_of_ble_eq_true rfl) dX9_set_2 (fun H locs hP hD hS => ?_)
  have hP : va_P D vwCl (mX cT q 0 n ro cl fb rn nd sk mo wk fx wi la da we) H := hP
  have hD : va_D A (mX cT q 0 n ro cl fb rn nd sk mo wk fx wi la da we) := hD
  refine lv_aload_n S.1 S.2.1 dX9_set_5 rfl (lv_at hl 0 rfl) ?_
  refine lv_iload_n S.1 S.2.1 dX9_set_6 rfl (lv_at hl 1 rfl) ?_
  refine rd_callV (rest := []) S (r_X9_isPerson l D cT q bd 0 n ro cl fb rn nd sk mo wk fx wi la da we i (hwf) (hz) (by omega)) gX9_set_X9_isPerson rfl pd_X9_isPerson ⟨rfl, rfl, Nat.le_of_ble_eq_true rfl, Nat.le_of_ble_eq_true rfl⟩ hP hK (va_recv hK.1 hP (ci := 7) (q0 := 0) rfl rfl) hl rfl rfl (Nat.le_of_ble_eq_true rfl) ⟨Nat.zero_le _, Nat.zero_le _⟩ dX9_set_7 ?_
  refine n_beq S (tgt := 20) dX9_set_10 (by decide) (fun q => absurd q (by decide)) (fun _ => ?_)
  refine lv_iload_n S.1 S.2.1 dX9_set_13 rfl (lv_at hl 2 rfl) ?_
  refine rd_callS (rest := []) S (r_X9_isDay l D cT d (by omega)) gX9_set_X9_isDay rfl pd_X9_isDay ⟨rfl, rfl, Nat.le_of_ble_eq_true rfl, Nat.le_of_ble_eq_true rfl⟩ (sx_P0 D _) hK hl rfl rfl (Nat.le_of_ble_eq_true rfl) ⟨Nat.zero_le _, Nat.zero_le _⟩ dX9_set_14 ?_
  refine n_bne S (tgt := 26) dX9_set_17 (by decide) (fun _ => ?_) (fun q => absurd q (by decide))
  refine lv_iload_n S.1 S.2.1 dX9_set_26 rfl (lv_at hl 3 rfl) ?_
  refine lv_iconst (v := (nI 0)) S.1 S.2.1 dX9_set_27 (by decide) ?_
  refine lv_iconst (v := (nI 3)) S.1 S.2.1 dX9_set_28 (by decide) ?_
  refine rd_callS (rest := []) S (r_X9_in l D cT (nI e) (nI 0) (nI 3) ) gX9_set_X9_in rfl pd_X9_in ⟨rfl, rfl, Nat.le_of_ble_eq_true rfl, Nat.le_of_ble_eq_true rfl⟩ (sx_P0 D _) hK hl rfl rfl (Nat.le_of_ble_eq_true rfl) ⟨Nat.zero_le _, Nat.zero_le _⟩ dX9_set_29 ?_
  refine n_top (show (nI (inb (nI e) (nI 0) (nI 3)).toNat) = (nI true.toNat) from by rw [inb_t ⟨Nat.zero_le _, by omega, by decide⟩]) ?_
  refine n_bne S (tgt := 41) dX9_set_32 (by decide) (fun _ => ?_) (fun q => absurd q (by decide))
  refine lv_aload_n S.1 S.2.1 dX9_set_41 rfl (lv_at hl 0 rfl) ?_
  refine lv_iload_n S.1 S.2.1 dX9_set_42 rfl (lv_at hl 1 rfl) ?_
  refine lv_aload_n S.1 S.2.1 dX9_set_43 rfl (lv_at hl 0 rfl) ?_
  refine lv_iload_n S.1 S.2.1 dX9_set_44 rfl (lv_at hl 1 rfl) ?_
  refine rd_callV (rest := [.int (nI i), .ref (q 0)]) S (r_X9_weekOf l D cT q bd 0 n ro cl fb rn nd sk mo wk fx wi la da we i (hwf) (hz) (by omega)) gX9_set_X9_weekOf rfl pd_X9_weekOf ⟨rfl, rfl, Nat.le_of_ble_eq_true rfl, Nat.le_of_ble_eq_true rfl⟩ hP hK (va_recv hK.1 hP (ci := 7) (q0 := 0) rfl rfl) hl rfl rfl (Nat.le_of_ble_eq_true rfl) ⟨Nat.zero_le _, Nat.zero_le _⟩ dX9_set_45 ?_
  refine lv_iload_n S.1 S.2.1 dX9_set_48 rfl (lv_at hl 2 rfl) ?_
  refine lv_iload_n S.1 S.2.1 dX9_set_49 rfl (lv_at hl 3 rfl) ?_
  refine rd_callS (rest := [.int (nI i), .ref (q 0)]) S (r_X9_with l D cT (wk i) d e (by omega) (hd) (he)) gX9_set_X9_with rfl pd_X9_with ⟨rfl, rfl, Nat.le_of_ble_eq_true rfl, Nat.le_of_ble_eq_true rfl⟩ (sx_P0 D _) hK hl rfl rfl (Nat.le_of_ble_eq_true rfl) ⟨Nat.zero_le _, Nat.zero_le _⟩ dX9_set_50 ?_
  refine rd_callV (rest := []) S (r_X9_isPossible l D cT q bd 0 n ro cl fb rn nd sk mo wk fx wi la da we i (wset (wk i) d e) (hwf) (hz) (by omega) (wset_lt (by omega) hd he)) gX9_set_X9_isPossible rfl pd_X9_isPossible ⟨rfl, rfl, Nat.le_of_ble_eq_true rfl, Nat.le_of_ble_eq_true rfl⟩ hP hK (va_recv hK.1 hP (ci := 7) (q0 := 0) rfl rfl) hl rfl rfl (Nat.le_of_ble_eq_true rfl) ⟨Nat.zero_le _, Nat.zero_le _⟩ dX9_set_53 ?_
  refine n_top (show (nI (fe sk mo fx la da fb rn i (wset (wk i) d e)).toNat) = (nI true.toNat) from by rw [hf]) ?_
  refine n_bne S (tgt := 65) dX9_set_56 (by decide) (fun _ => ?_) (fun q => absurd q (by decide))
  refine lv_aload_n S.1 S.2.1 dX9_set_65 rfl (lv_at hl 0 rfl) ?_
  refine g_get (C := RX9) (T := TX9) (N := 15) (v := .ref (q 5)) S 0 7 9 in_X9_set_X9 hK hP rfl rfl (by decide) w_X9_set_1 rfl dX9_set_66 ?_
  refine lv_bipush (v := (nI 7)) S.1 S.2.1 dX9_set_69 (by decide) ?_
  refine lv_iload_n S.1 S.2.1 dX9_set_71 rfl (lv_at hl 1 rfl) ?_
  refine n_mul S dX9_set_72 ?_
  refine lv_iload_n S.1 S.2.1 dX9_set_73 rfl (lv_at hl 2 rfl) ?_
  refine n_add S dX9_set_74 ?_
  refine g_iald S 5 hK hP rfl (by omega) dX9_set_75 ?_
  refine n_top (show (nI ((enf wk) ((7 * i) + d))) = (nI (ent (wk i) d)) from congrArg nI (en_at hd)) ?_
  refine lv_istore (lv' := [(4, .int (nI (ent (wk i) d))), (0, .ref (q 0)), (1, .int (nI i)), (2, .int (nI d)), (3, .int (nI e))]) S.1 S.2.1 dX9_set_76 hl (by decide) rfl (fun ls hl => ?_)
  refine lv_aload_n S.1 S.2.1 dX9_set_78 rfl (lv_at hl 1 rfl) ?_
  refine g_get (C := RX9) (T := TX9) (N := 15) (v := .ref (q 5)) S 0 7 9 in_X9_set_X9 hK hP rfl rfl (by decide) w_X9_set_1 rfl dX9_set_79 ?_
  refine lv_bipush (v := (nI 7)) S.1 S.2.1 dX9_set_82 (by decide) ?_
  refine lv_iload_n S.1 S.2.1 dX9_set_84 rfl (lv_at hl 2 rfl) ?_
  refine n_mul S dX9_set_85 ?_
  refine lv_iload_n S.1 S.2.1 dX9_set_86 rfl (lv_at hl 3 rfl) ?_
  refine n_add S dX9_set_87 ?_
  refine lv_iload_n S.1 S.2.1 dX9_set_88 rfl (lv_at hl 4 rfl) ?_
  refine w_iast S 5 hK hP hD hS rfl (by omega) dX9_set_89 (fun H locs hP hD hS => ?_)
  have hP : va_P D vwCl (mX cT q 0 n ro cl fb rn nd sk mo (va_up wk i (wset (wk i) d e)) fx wi la da we) H := by rw [en_up (wk := wk) (i := i) (d := d) (v := e) (by omega) (by first | omega | exact ent_lt _ _)] at hP; exact hP
  have hD : va_D A (mX cT q 0 n ro cl fb rn nd sk mo (va_up wk i (wset (wk i) d e)) fx wi la da we) := by rw [en_up (wk := wk) (i := i) (d := d) (v := e) (by omega) (by first | omega | exact ent_lt _ _)] at hD; exact hD
  refine lv_iload S.1 S.2.1 dX9_set_90 (lv_at hl 0 rfl) ?_
  exact wr_iret S (()) hr rfl hlocks (rfl) (hP) (hD) hS dX9_set_92

set_option maxHeartbeats 4000000 in
set_option maxRecDepth 100000 in
theorem w_X9_set_x3 (l : Launch) (D : va_G) (cT : ClassId × ClassId × ClassId) (sz : Nat) (q : Nat → Nat) (bd th n ro cl fb rn : Nat) (nd sk mo wk fx wi la da we : Nat → Nat) (i : Nat) (d : Nat) (e : Nat) (hwf : wfC n bd fb rn nd sk mo wk fx wi la da we) (hz : ∀ b, b < 4 → bit fb (4 * b) = 0) (hi : i < n) (hd : d < 7) (he : e < 4) (hf : fe sk mo fx la da fb rn i (wset (wk i) d e) = false) : Met l yX9_set wsX9_set ({ frames := 3, cells := 0, slots := 0, locals := 71 } : Room) (va_Pc [.ref (q 0), .int (nI i), .int (nI d), .int (nI e)] (wr_R D (TY cT) (mX cT q th n ro cl fb rn nd sk mo wk fx wi la da we) sz)) (wQi (fun (r_ : Int32) (_ : Unit) => r_ = (nI 0)) D (fun (_ : Unit) => mX cT q 3 n ro cl fb rn nd sk mo wk fx wi la da we) (va_A (mX cT q th n ro cl fb rn nd sk mo wk fx wi la da we) sz)) 0 0 (va_A (mX cT q th n ro cl fb rn nd sk mo wk fx wi la da we) sz) := by
  refine wr_start (cc := cX9_set) (maxL := 5) (ret := (some .int)) RX9 ⟨by decide +kernel, rfl⟩ rfl (Nat.le_of_ble_eq_true rfl) ?_
  intro p0 e0 s0 m0 a0 b0 t0 c0 S hr hlocks hin hP hK hA hD hS ls hl
  generalize va_A (mX cT q th n ro cl fb rn nd sk mo wk fx wi la da we) sz = A at hA hD hS ⊢
  have hl : lv_has ls 5 [(0, .ref (q 0)), (1, .int (nI i)), (2, .int (nI d)), (3, .int (nI e))] := hl
  obtain ⟨hn, hcl, hfb, hrn, hnd, hper⟩ := id hwf
  have hpi := hper i
  refine lv_aload_n S.1 S.2.1 dX9_set_0 rfl (lv_at hl 0 rfl) ?_
  refine lv_iconst (v := (nI 0)) S.1 S.2.1 dX9_set_1 (by decide) ?_
  refine w_put (C := RX9) (T := TX9) (N := 15) (v := .int (nI 0)) (ty := .int) S 0 7 0 in_X9_set_X9 tyX9 tyX9_ok nmX9 hK hP hD hS rfl rfl (by decide) w_X9_set_0 rfl (by decide +kernel) rfl rfl (Nat.le_of_ble_eq_true rfl) dX9_set_2 (fun H locs hP hD hS => ?_)
  have hP : va_P D vwCl (mX cT q 0 n ro cl fb rn nd sk mo wk fx wi la da we) H := hP
  have hD : va_D A (mX cT q 0 n ro cl fb rn nd sk mo wk fx wi la da we) := hD
  refine lv_aload_n S.1 S.2.1 dX9_set_5 rfl (lv_at hl 0 rfl) ?_
  refine lv_iload_n S.1 S.2.1 dX9_set_6 rfl (lv_at hl 1 rfl) ?_
  refine rd_callV (rest := []) S (r_X9_isPerson l D cT q bd 0 n ro cl fb rn nd sk mo wk fx wi la da we i (hwf) (hz) (by omega)) gX9_set_X9_isPerson rfl pd_X9_isPerson ⟨rfl, rfl, Nat.le_of_ble_eq_true rfl, Nat.le_of_ble_eq_true rfl⟩ hP hK (va_recv hK.1 hP (ci := 7) (q0 := 0) rfl rfl) hl rfl rfl (Nat.le_of_ble_eq_true rfl) ⟨Nat.zero_le _, Nat.zero_le _⟩ dX9_set_7 ?_
  refine n_beq S (tgt := 20) dX9_set_10 (by decide) (fun q => absurd q (by decide)) (fun _ => ?_)
  refine lv_iload_n S.1 S.2.1 dX9_set_13 rfl (lv_at hl 2 rfl) ?_
  refine rd_callS (rest := []) S (r_X9_isDay l D cT d (by omega)) gX9_set_X9_isDay rfl pd_X9_isDay ⟨rfl, rfl, Nat.le_of_ble_eq_true rfl, Nat.le_of_ble_eq_true rfl⟩ (sx_P0 D _) hK hl rfl rfl (Nat.le_of_ble_eq_true rfl) ⟨Nat.zero_le _, Nat.zero_le _⟩ dX9_set_14 ?_
  refine n_bne S (tgt := 26) dX9_set_17 (by decide) (fun _ => ?_) (fun q => absurd q (by decide))
  refine lv_iload_n S.1 S.2.1 dX9_set_26 rfl (lv_at hl 3 rfl) ?_
  refine lv_iconst (v := (nI 0)) S.1 S.2.1 dX9_set_27 (by decide) ?_
  refine lv_iconst (v := (nI 3)) S.1 S.2.1 dX9_set_28 (by decide) ?_
  refine rd_callS (rest := []) S (r_X9_in l D cT (nI e) (nI 0) (nI 3) ) gX9_set_X9_in rfl pd_X9_in ⟨rfl, rfl, Nat.le_of_ble_eq_true rfl, Nat.le_of_ble_eq_true rfl⟩ (sx_P0 D _) hK hl rfl rfl (Nat.le_of_ble_eq_true rfl) ⟨Nat.zero_le _, Nat.zero_le _⟩ dX9_set_29 ?_
  refine n_top (show (nI (inb (nI e) (nI 0) (nI 3)).toNat) = (nI true.toNat) from by rw [inb_t ⟨Nat.zero_le _, by omega, by decide⟩]) ?_
  refine n_bne S (tgt := 41) dX9_set_32 (by decide) (fun _ => ?_) (fun q => absurd q (by decide))
  refine lv_aload_n S.1 S.2.1 dX9_set_41 rfl (lv_at hl 0 rfl) ?_
  refine lv_iload_n S.1 S.2.1 dX9_set_42 rfl (lv_at hl 1 rfl) ?_
  refine lv_aload_n S.1 S.2.1 dX9_set_43 rfl (lv_at hl 0 rfl) ?_
  refine lv_iload_n S.1 S.2.1 dX9_set_44 rfl (lv_at hl 1 rfl) ?_
  refine rd_callV (rest := [.int (nI i), .ref (q 0)]) S (r_X9_weekOf l D cT q bd 0 n ro cl fb rn nd sk mo wk fx wi la da we i (hwf) (hz) (by omega)) gX9_set_X9_weekOf rfl pd_X9_weekOf ⟨rfl, rfl, Nat.le_of_ble_eq_true rfl, Nat.le_of_ble_eq_true rfl⟩ hP hK (va_recv hK.1 hP (ci := 7) (q0 := 0) rfl rfl) hl rfl rfl (Nat.le_of_ble_eq_true rfl) ⟨Nat.zero_le _, Nat.zero_le _⟩ dX9_set_45 ?_
  refine lv_iload_n S.1 S.2.1 dX9_set_48 rfl (lv_at hl 2 rfl) ?_
  refine lv_iload_n S.1 S.2.1 dX9_set_49 rfl (lv_at hl 3 rfl) ?_
  refine rd_callS (rest := [.int (nI i), .ref (q 0)]) S (r_X9_with l D cT (wk i) d e (by omega) (hd) (he)) gX9_set_X9_with rfl pd_X9_with ⟨rfl, rfl, Nat.le_of_ble_eq_true rfl, Nat.le_of_ble_eq_true rfl⟩ (sx_P0 D _) hK hl rfl rfl (Nat.le_of_ble_eq_true rfl) ⟨Nat.zero_le _, Nat.zero_le _⟩ dX9_set_50 ?_
  refine rd_callV (rest := []) S (r_X9_isPossible l D cT q bd 0 n ro cl fb rn nd sk mo wk fx wi la da we i (wset (wk i) d e) (hwf) (hz) (by omega) (wset_lt (by omega) hd he)) gX9_set_X9_isPossible rfl pd_X9_isPossible ⟨rfl, rfl, Nat.le_of_ble_eq_true rfl, Nat.le_of_ble_eq_true rfl⟩ hP hK (va_recv hK.1 hP (ci := 7) (q0 := 0) rfl rfl) hl rfl rfl (Nat.le_of_ble_eq_true rfl) ⟨Nat.zero_le _, Nat.zero_le _⟩ dX9_set_53 ?_
  refine n_top (show (nI (fe sk mo fx la da fb rn i (wset (wk i) d e)).toNat) = (nI false.toNat) from by rw [hf]) ?_
  refine n_bne S (tgt := 65) dX9_set_56 (by decide) (fun q => absurd q (by decide)) (fun _ => ?_)
  refine lv_aload_n S.1 S.2.1 dX9_set_59 rfl (lv_at hl 0 rfl) ?_
  refine lv_iconst (v := (nI 3)) S.1 S.2.1 dX9_set_60 (by decide) ?_
  refine wr_callVi (rest := []) S (w_X9_fails l D cT _ q bd 0 n ro cl fb rn nd sk mo wk fx wi la da we 3 (hwf) (hz)) gX9_set_X9_fails rfl pd_X9_fails ⟨rfl, rfl, Nat.le_of_ble_eq_true rfl, Nat.le_of_ble_eq_true rfl⟩ hP hK hD hS hA (va_recv hK.1 hP (ci := 7) (q0 := 0) rfl rfl) hl rfl rfl (Nat.le_of_ble_eq_true rfl) ⟨Nat.zero_le _, Nat.zero_le _⟩ dX9_set_61 (fun r_ u_ H locs hr_ hP hD hS => ?_)
  subst hr_
  have hP : va_P D vwCl (mX cT q 3 n ro cl fb rn nd sk mo wk fx wi la da we) H := hP
  have hD : va_D A (mX cT q 3 n ro cl fb rn nd sk mo wk fx wi la da we) := hD
  exact wr_iret S (()) hr rfl hlocks (rfl) (hP) (hD) hS dX9_set_64

theorem pd_X9_swap : yX9_swap.cls = RX9 ∧ yX9_swap.cls ≠ "java/lang/invoke/MethodHandle" ∧ yX9_swap.cls ≠ "java/lang/invoke/VarHandle" ∧ (parseMethodDescriptor yX9_swap.desc).map (fun d => d.parameters.length) = some 3 := by decide +kernel
theorem w_X9_swap_0 : Cond.fieldLink RX9 44 "CoverSheetModel" "thrown" "I" ∈ wsX9_swap := by decide +kernel
theorem in_X9_swap_X9 : ∀ w ∈ u_ws RX9 TX9 15, w ∈ wsX9_swap := by decide +kernel
set_option maxHeartbeats 4000000 in
set_option maxRecDepth 100000 in
theorem w_X9_swap_x0 (l : Launch) (D : va_G) (cT : ClassId × ClassId × ClassId) (sz : Nat) (q : Nat → Nat) (bd th n ro cl fb rn : Nat) (nd sk mo wk fx wi la da we : Nat → Nat) (x : Int32) (zj : Int32) (zd : Int32) (hwf : wfC n bd fb rn nd sk mo wk fx wi la da we) (hz : ∀ b, b < 4 → bit fb (4 * b) = 0) (hx : PX x n) : Met l yX9_swap wsX9_swap ({ frames := 2, cells := 0, slots := 0, locals := 43 } : Room) (va_Pc [.ref (q 0), .int x, .int zj, .int zd] (wr_R D (TY cT) (mX cT q th n ro cl fb rn nd sk mo wk fx wi la da we) sz)) (wQi (fun (r_ : Int32) (_ : Unit) => r_ = (nI 0)) D (fun (_ : Unit) => mX cT q 1 n ro cl fb rn nd sk mo wk fx wi la da we) (va_A (mX cT q th n ro cl fb rn nd sk mo wk fx wi la da we) sz)) 0 0 (va_A (mX cT q th n ro cl fb rn nd sk mo wk fx wi la da we) sz) := by
  refine wr_start (cc := cX9_swap) (maxL := 5) (ret := (some .int)) RX9 ⟨by decide +kernel, rfl⟩ rfl (Nat.le_of_ble_eq_true rfl) ?_
  intro p0 e0 s0 m0 a0 b0 t0 c0 S hr hlocks hin hP hK hA hD hS ls hl
  generalize va_A (mX cT q th n ro cl fb rn nd sk mo wk fx wi la da we) sz = A at hA hD hS ⊢
  have hl : lv_has ls 5 [(0, .ref (q 0)), (1, .int x), (2, .int zj), (3, .int zd)] := hl
  obtain ⟨hn, hcl, hfb, hrn, hnd, hper⟩ := id hwf
  refine lv_aload_n S.1 S.2.1 dX9_swap_0 rfl (lv_at hl 0 rfl) ?_
  refine lv_iconst (v := (nI 0)) S.1 S.2.1 dX9_swap_1 (by decide) ?_
  refine w_put (C := RX9) (T := TX9) (N := 15) (v := .int (nI 0)) (ty := .int) S 0 7 0 in_X9_swap_X9 tyX9 tyX9_ok nmX9 hK hP hD hS rfl rfl (by decide) w_X9_swap_0 rfl (by decide +kernel) rfl rfl (Nat.le_of_ble_eq_true rfl) dX9_swap_2 (fun H locs hP hD hS => ?_)
  have hP : va_P D vwCl (mX cT q 0 n ro cl fb rn nd sk mo wk fx wi la da we) H := hP
  have hD : va_D A (mX cT q 0 n ro cl fb rn nd sk mo wk fx wi la da we) := hD
  refine lv_aload_n S.1 S.2.1 dX9_swap_5 rfl (lv_at hl 0 rfl) ?_
  refine lv_iload_n S.1 S.2.1 dX9_swap_6 rfl (lv_at hl 1 rfl) ?_
  refine rd_callV (rest := []) S (r_X9_isPerson_x l D cT q bd 0 n ro cl fb rn nd sk mo wk fx wi la da we x (hwf) (hz) (hx)) gX9_swap_X9_isPerson rfl pd_X9_isPerson ⟨rfl, rfl, Nat.le_of_ble_eq_true rfl, Nat.le_of_ble_eq_true rfl⟩ hP hK (va_recv hK.1 hP (ci := 7) (q0 := 0) rfl rfl) hl rfl rfl (Nat.le_of_ble_eq_true rfl) ⟨Nat.zero_le _, Nat.zero_le _⟩ dX9_swap_7 ?_
  refine n_beq S (tgt := 28) dX9_swap_10 (by decide) (fun _ => ?_) (fun q => absurd q (by decide))
  refine lv_aload_n S.1 S.2.1 dX9_swap_28 rfl (lv_at hl 0 rfl) ?_
  refine lv_iconst (v := (nI 1)) S.1 S.2.1 dX9_swap_29 (by decide) ?_
  refine wr_callVi (rest := []) S (w_X9_fails l D cT _ q bd 0 n ro cl fb rn nd sk mo wk fx wi la da we 1 (hwf) (hz)) gX9_swap_X9_fails rfl pd_X9_fails ⟨rfl, rfl, Nat.le_of_ble_eq_true rfl, Nat.le_of_ble_eq_true rfl⟩ hP hK hD hS hA (va_recv hK.1 hP (ci := 7) (q0 := 0) rfl rfl) hl rfl rfl (Nat.le_of_ble_eq_true rfl) ⟨Nat.zero_le _, Nat.zero_le _⟩ dX9_swap_30 (fun r_ u_ H locs hr_ hP hD hS => ?_)
  subst hr_
  have hP : va_P D vwCl (mX cT q 1 n ro cl fb rn nd sk mo wk fx wi la da we) H := hP
  have hD : va_D A (mX cT q 1 n ro cl fb rn nd sk mo wk fx wi la da we) := hD
  exact wr_iret S (()) hr rfl hlocks (rfl) (hP) (hD) hS dX9_swap_33

set_option maxHeartbeats 4000000 in
set_option maxRecDepth 100000 in
theorem w_X9_swap_x1 (l : Launch) (D : va_G) (cT : ClassId × ClassId × ClassId) (sz : Nat) (q : Nat → Nat) (bd th n ro cl fb rn : Nat) (nd sk mo wk fx wi la da we : Nat → Nat) (i : Nat) (x : Int32) (zd : Int32) (hwf : wfC n bd fb rn nd sk mo wk fx wi la da we) (hz : ∀ b, b < 4 → bit fb (4 * b) = 0) (hi : i < n) (hx : PX x n) : Met l yX9_swap wsX9_swap ({ frames := 2, cells := 0, slots := 0, locals := 43 } : Room) (va_Pc [.ref (q 0), .int (nI i), .int x, .int zd] (wr_R D (TY cT) (mX cT q th n ro cl fb rn nd sk mo wk fx wi la da we) sz)) (wQi (fun (r_ : Int32) (_ : Unit) => r_ = (nI 0)) D (fun (_ : Unit) => mX cT q 1 n ro cl fb rn nd sk mo wk fx wi la da we) (va_A (mX cT q th n ro cl fb rn nd sk mo wk fx wi la da we) sz)) 0 0 (va_A (mX cT q th n ro cl fb rn nd sk mo wk fx wi la da we) sz) := by
  refine wr_start (cc := cX9_swap) (maxL := 5) (ret := (some .int)) RX9 ⟨by decide +kernel, rfl⟩ rfl (Nat.le_of_ble_eq_true rfl) ?_
  intro p0 e0 s0 m0 a0 b0 t0 c0 S hr hlocks hin hP hK hA hD hS ls hl
  generalize va_A (mX cT q th n ro cl fb rn nd sk mo wk fx wi la da we) sz = A at hA hD hS ⊢
  have hl : lv_has ls 5 [(0, .ref (q 0)), (1, .int (nI i)), (2, .int x), (3, .int zd)] := hl
  obtain ⟨hn, hcl, hfb, hrn, hnd, hper⟩ := id hwf
  refine lv_aload_n S.1 S.2.1 dX9_swap_0 rfl (lv_at hl 0 rfl) ?_
  refine lv_iconst (v := (nI 0)) S.1 S.2.1 dX9_swap_1 (by decide) ?_
  refine w_put (C := RX9) (T := TX9) (N := 15) (v := .int (nI 0)) (ty := .int) S 0 7 0 in_X9_swap_X9 tyX9 tyX9_ok nmX9 hK hP hD hS rfl rfl (by decide) w_X9_swap_0 rfl (by decide +kernel) rfl rfl (Nat.le_of_ble_eq_true rfl) dX9_swap_2 (fun H locs hP hD hS => ?_)
  have hP : va_P D vwCl (mX cT q 0 n ro cl fb rn nd sk mo wk fx wi la da we) H := hP
  have hD : va_D A (mX cT q 0 n ro cl fb rn nd sk mo wk fx wi la da we) := hD
  refine lv_aload_n S.1 S.2.1 dX9_swap_5 rfl (lv_at hl 0 rfl) ?_
  refine lv_iload_n S.1 S.2.1 dX9_swap_6 rfl (lv_at hl 1 rfl) ?_
  refine rd_callV (rest := []) S (r_X9_isPerson l D cT q bd 0 n ro cl fb rn nd sk mo wk fx wi la da we i (hwf) (hz) (by omega)) gX9_swap_X9_isPerson rfl pd_X9_isPerson ⟨rfl, rfl, Nat.le_of_ble_eq_true rfl, Nat.le_of_ble_eq_true rfl⟩ hP hK (va_recv hK.1 hP (ci := 7) (q0 := 0) rfl rfl) hl rfl rfl (Nat.le_of_ble_eq_true rfl) ⟨Nat.zero_le _, Nat.zero_le _⟩ dX9_swap_7 ?_
  refine n_beq S (tgt := 28) dX9_swap_10 (by decide) (fun q => absurd q (by decide)) (fun _ => ?_)
  refine lv_aload_n S.1 S.2.1 dX9_swap_13 rfl (lv_at hl 0 rfl) ?_
  refine lv_iload_n S.1 S.2.1 dX9_swap_14 rfl (lv_at hl 2 rfl) ?_
  refine rd_callV (rest := []) S (r_X9_isPerson_x l D cT q bd 0 n ro cl fb rn nd sk mo wk fx wi la da we x (hwf) (hz) (hx)) gX9_swap_X9_isPerson rfl pd_X9_isPerson ⟨rfl, rfl, Nat.le_of_ble_eq_true rfl, Nat.le_of_ble_eq_true rfl⟩ hP hK (va_recv hK.1 hP (ci := 7) (q0 := 0) rfl rfl) hl rfl rfl (Nat.le_of_ble_eq_true rfl) ⟨Nat.zero_le _, Nat.zero_le _⟩ dX9_swap_15 ?_
  refine n_beq S (tgt := 28) dX9_swap_18 (by decide) (fun _ => ?_) (fun q => absurd q (by decide))
  refine lv_aload_n S.1 S.2.1 dX9_swap_28 rfl (lv_at hl 0 rfl) ?_
  refine lv_iconst (v := (nI 1)) S.1 S.2.1 dX9_swap_29 (by decide) ?_
  refine wr_callVi (rest := []) S (w_X9_fails l D cT _ q bd 0 n ro cl fb rn nd sk mo wk fx wi la da we 1 (hwf) (hz)) gX9_swap_X9_fails rfl pd_X9_fails ⟨rfl, rfl, Nat.le_of_ble_eq_true rfl, Nat.le_of_ble_eq_true rfl⟩ hP hK hD hS hA (va_recv hK.1 hP (ci := 7) (q0 := 0) rfl rfl) hl rfl rfl (Nat.le_of_ble_eq_true rfl) ⟨Nat.zero_le _, Nat.zero_le _⟩ dX9_swap_30 (fun r_ u_ H locs hr_ hP hD hS => ?_)
  subst hr_
  have hP : va_P D vwCl (mX cT q 1 n ro cl fb rn nd sk mo wk fx wi la da we) H := hP
  have hD : va_D A (mX cT q 1 n ro cl fb rn nd sk mo wk fx wi la da we) := hD
  exact wr_iret S (()) hr rfl hlocks (rfl) (hP) (hD) hS dX9_swap_33

set_option maxHeartbeats 4000000 in
set_option maxRecDepth 100000 in
theorem w_X9_swap_x2 (l : Launch) (D : va_G) (cT : ClassId × ClassId × ClassId) (sz : Nat) (q : Nat → Nat) (bd th n ro cl fb rn : Nat) (nd sk mo wk fx wi la da we : Nat → Nat) (i : Nat) (j : Nat) (x : Int32) (hwf : wfC n bd fb rn nd sk mo wk fx wi la da we) (hz : ∀ b, b < 4 → bit fb (4 * b) = 0) (hi : i < n) (hj : j < n) (hx : PX x 7) : Met l yX9_swap wsX9_swap ({ frames := 2, cells := 0, slots := 0, locals := 43 } : Room) (va_Pc [.ref (q 0), .int (nI i), .int (nI j), .int x] (wr_R D (TY cT) (mX cT q th n ro cl fb rn nd sk mo wk fx wi la da we) sz)) (wQi (fun (r_ : Int32) (_ : Unit) => r_ = (nI 0)) D (fun (_ : Unit) => mX cT q 1 n ro cl fb rn nd sk mo wk fx wi la da we) (va_A (mX cT q th n ro cl fb rn nd sk mo wk fx wi la da we) sz)) 0 0 (va_A (mX cT q th n ro cl fb rn nd sk mo wk fx wi la da we) sz) := by
  refine wr_start (cc := cX9_swap) (maxL := 5) (ret := (some .int)) RX9 ⟨by decide +kernel, rfl⟩ rfl (Nat.le_of_ble_eq_true rfl) ?_
  intro p0 e0 s0 m0 a0 b0 t0 c0 S hr hlocks hin hP hK hA hD hS ls hl
  generalize va_A (mX cT q th n ro cl fb rn nd sk mo wk fx wi la da we) sz = A at hA hD hS ⊢
  have hl : lv_has ls 5 [(0, .ref (q 0)), (1, .int (nI i)), (2, .int (nI j)), (3, .int x)] := hl
  obtain ⟨hn, hcl, hfb, hrn, hnd, hper⟩ := id hwf
  refine lv_aload_n S.1 S.2.1 dX9_swap_0 rfl (lv_at hl 0 rfl) ?_
  refine lv_iconst (v := (nI 0)) S.1 S.2.1 dX9_swap_1 (by decide) ?_
  refine w_put (C := RX9) (T := TX9) (N := 15) (v := .int (nI 0)) (ty := .int) S 0 7 0 in_X9_swap_X9 tyX9 tyX9_ok nmX9 hK hP hD hS rfl rfl (by decide) w_X9_swap_0 rfl (by decide +kernel) rfl rfl (Nat.le_of_ble_eq_true rfl) dX9_swap_2 (fun H locs hP hD hS => ?_)
  have hP : va_P D vwCl (mX cT q 0 n ro cl fb rn nd sk mo wk fx wi la da we) H := hP
  have hD : va_D A (mX cT q 0 n ro cl fb rn nd sk mo wk fx wi la da we) := hD
  refine lv_aload_n S.1 S.2.1 dX9_swap_5 rfl (lv_at hl 0 rfl) ?_
  refine lv_iload_n S.1 S.2.1 dX9_swap_6 rfl (lv_at hl 1 rfl) ?_
  refine rd_callV (rest := []) S (r_X9_isPerson l D cT q bd 0 n ro cl fb rn nd sk mo wk fx wi la da we i (hwf) (hz) (by omega)) gX9_swap_X9_isPerson rfl pd_X9_isPerson ⟨rfl, rfl, Nat.le_of_ble_eq_true rfl, Nat.le_of_ble_eq_true rfl⟩ hP hK (va_recv hK.1 hP (ci := 7) (q0 := 0) rfl rfl) hl rfl rfl (Nat.le_of_ble_eq_true rfl) ⟨Nat.zero_le _, Nat.zero_le _⟩ dX9_swap_7 ?_
  refine n_beq S (tgt := 28) dX9_swap_10 (by decide) (fun q => absurd q (by decide)) (fun _ => ?_)
  refine lv_aload_n S.1 S.2.1 dX9_swap_13 rfl (lv_at hl 0 rfl) ?_
  refine lv_iload_n S.1 S.2.1 dX9_swap_14 rfl (lv_at hl 2 rfl) ?_
  refine rd_callV (rest := []) S (r_X9_isPerson l D cT q bd 0 n ro cl fb rn nd sk mo wk fx wi la da we j (hwf) (hz) (by omega)) gX9_swap_X9_isPerson rfl pd_X9_isPerson ⟨rfl, rfl, Nat.le_of_ble_eq_true rfl, Nat.le_of_ble_eq_true rfl⟩ hP hK (va_recv hK.1 hP (ci := 7) (q0 := 0) rfl rfl) hl rfl rfl (Nat.le_of_ble_eq_true rfl) ⟨Nat.zero_le _, Nat.zero_le _⟩ dX9_swap_15 ?_
  refine n_beq S (tgt := 28) dX9_swap_18 (by decide) (fun q => absurd q (by decide)) (fun _ => ?_)
  refine lv_iload_n S.1 S.2.1 dX9_swap_21 rfl (lv_at hl 3 rfl) ?_
  refine rd_callS (rest := []) S (r_X9_isDay_x l D cT x (hx)) gX9_swap_X9_isDay rfl pd_X9_isDay ⟨rfl, rfl, Nat.le_of_ble_eq_true rfl, Nat.le_of_ble_eq_true rfl⟩ (sx_P0 D _) hK hl rfl rfl (Nat.le_of_ble_eq_true rfl) ⟨Nat.zero_le _, Nat.zero_le _⟩ dX9_swap_22 ?_
  refine n_bne S (tgt := 34) dX9_swap_25 (by decide) (fun q => absurd q (by decide)) (fun _ => ?_)
  refine lv_aload_n S.1 S.2.1 dX9_swap_28 rfl (lv_at hl 0 rfl) ?_
  refine lv_iconst (v := (nI 1)) S.1 S.2.1 dX9_swap_29 (by decide) ?_
  refine wr_callVi (rest := []) S (w_X9_fails l D cT _ q bd 0 n ro cl fb rn nd sk mo wk fx wi la da we 1 (hwf) (hz)) gX9_swap_X9_fails rfl pd_X9_fails ⟨rfl, rfl, Nat.le_of_ble_eq_true rfl, Nat.le_of_ble_eq_true rfl⟩ hP hK hD hS hA (va_recv hK.1 hP (ci := 7) (q0 := 0) rfl rfl) hl rfl rfl (Nat.le_of_ble_eq_true rfl) ⟨Nat.zero_le _, Nat.zero_le _⟩ dX9_swap_30 (fun r_ u_ H locs hr_ hP hD hS => ?_)
  subst hr_
  have hP : va_P D vwCl (mX cT q 1 n ro cl fb rn nd sk mo wk fx wi la da we) H := hP
  have hD : va_D A (mX cT q 1 n ro cl fb rn nd sk mo wk fx wi la da we) := hD
  exact wr_iret S (()) hr rfl hlocks (rfl) (hP) (hD) hS dX9_swap_33

theorem w_X9_swap_1 : Cond.fieldLink RX9 26 "CoverSheetModel" "entries" "[I" ∈ wsX9_swap := by decide +kernel
set_option maxHeartbeats 4000000 in
set_option maxRecDepth 100000 in
theorem w_X9_swap (l : Launch) (D : va_G) (cT : ClassId × ClassId × ClassId) (sz : Nat) (q : Nat → Nat) (bd th n ro cl fb rn : Nat) (nd sk mo wk fx wi la da we : Nat → Nat) (i : Nat) (j : Nat) (d : Nat) (hwf : wfC n bd fb rn nd sk mo wk fx wi la da we) (hz : ∀ b, b < 4 → bit fb (4 * b) = 0) (hi : i < n) (hj : j < n) (hd : d < 7) (hs : i ≠ j ∧ csw sk mo wk fx la da fb rn i j d = true) : Met l yX9_swap wsX9_swap ({ frames := 4, cells := 0, slots := 0, locals := 96 } : Room) (va_Pc [.ref (q 0), .int (nI i), .int (nI j), .int (nI d)] (wr_R D (TY cT) (mX cT q th n ro cl fb rn nd sk mo wk fx wi la da we) sz)) (wQi (fun (r_ : Int32) (_ : Unit) => r_ = (nI (brc (wi i) (wset (wk i) d (ent (wk j) d)) 7 + brc (wi j) (wset (wk j) d (ent (wk i) d)) 7))) D (fun (_ : Unit) => mX cT q 0 n ro cl fb rn nd sk mo (va_up (va_up wk i (wset (wk i) d (ent (wk j) d))) j (wset (wk j) d (ent (wk i) d))) fx wi la da we) (va_A (mX cT q th n ro cl fb rn nd sk mo wk fx wi la da we) sz)) 0 0 (va_A (mX cT q th n ro cl fb rn nd sk mo wk fx wi la da we) sz) := by
  refine wr_start (cc := cX9_swap) (maxL := 5) (ret := (some .int)) RX9 ⟨by decide +kernel, rfl⟩ rfl (Nat.le_of_ble_eq_true rfl) ?_
  intro p0 e0 s0 m0 a0 b0 t0 c0 S hr hlocks hin hP hK hA hD hS ls hl
  generalize va_A (mX cT q th n ro cl fb rn nd sk mo wk fx wi la da we) sz = A at hA hD hS ⊢
  have hl : lv_has ls 5 [(0, .ref (q 0)), (1, .int (nI i)), (2, .int (nI j)), (3, .int (nI d))] := hl
  obtain ⟨hn, hcl, hfb, hrn, hnd, hper⟩ := id hwf
  have hpi := hper i
  have hpj := hper j
  refine lv_aload_n S.1 S.2.1 dX9_swap_0 rfl (lv_at hl 0 rfl) ?_
  refine lv_iconst (v := (nI 0)) S.1 S.2.1 dX9_swap_1 (by decide) ?_
  refine w_put (C := RX9) (T := TX9) (N := 15) (v := .int (nI 0)) (ty := .int) S 0 7 0 in_X9_swap_X9 tyX9 tyX9_ok nmX9 hK hP hD hS rfl rfl (by decide) w_X9_swap_0 rfl (by decide +kernel) rfl rfl (Nat.le_of_ble_eq_true rfl) dX9_swap_2 (fun H locs hP hD hS => ?_)
  have hP : va_P D vwCl (mX cT q 0 n ro cl fb rn nd sk mo wk fx wi la da we) H := hP
  have hD : va_D A (mX cT q 0 n ro cl fb rn nd sk mo wk fx wi la da we) := hD
  refine lv_aload_n S.1 S.2.1 dX9_swap_5 rfl (lv_at hl 0 rfl) ?_
  refine lv_iload_n S.1 S.2.1 dX9_swap_6 rfl (lv_at hl 1 rfl) ?_
  refine rd_callV (rest := []) S (r_X9_isPerson l D cT q bd 0 n ro cl fb rn nd sk mo wk fx wi la da we i (hwf) (hz) (by omega)) gX9_swap_X9_isPerson rfl pd_X9_isPerson ⟨rfl, rfl, Nat.le_of_ble_eq_true rfl, Nat.le_of_ble_eq_true rfl⟩ hP hK (va_recv hK.1 hP (ci := 7) (q0 := 0) rfl rfl) hl rfl rfl (Nat.le_of_ble_eq_true rfl) ⟨Nat.zero_le _, Nat.zero_le _⟩ dX9_swap_7 ?_
  refine n_beq S (tgt := 28) dX9_swap_10 (by decide) (fun q => absurd q (by decide)) (fun _ => ?_)
  refine lv_aload_n S.1 S.2.1 dX9_swap_13 rfl (lv_at hl 0 rfl) ?_
  refine lv_iload_n S.1 S.2.1 dX9_swap_14 rfl (lv_at hl 2 rfl) ?_
  refine rd_callV (rest := []) S (r_X9_isPerson l D cT q bd 0 n ro cl fb rn nd sk mo wk fx wi la da we j (hwf) (hz) (by omega)) gX9_swap_X9_isPerson rfl pd_X9_isPerson ⟨rfl, rfl, Nat.le_of_ble_eq_true rfl, Nat.le_of_ble_eq_true rfl⟩ hP hK (va_recv hK.1 hP (ci := 7) (q0 := 0) rfl rfl) hl rfl rfl (Nat.le_of_ble_eq_true rfl) ⟨Nat.zero_le _, Nat.zero_le _⟩ dX9_swap_15 ?_
  refine n_beq S (tgt := 28) dX9_swap_18 (by decide) (fun q => absurd q (by decide)) (fun _ => ?_)
  refine lv_iload_n S.1 S.2.1 dX9_swap_21 rfl (lv_at hl 3 rfl) ?_
  refine rd_callS (rest := []) S (r_X9_isDay l D cT d (by omega)) gX9_swap_X9_isDay rfl pd_X9_isDay ⟨rfl, rfl, Nat.le_of_ble_eq_true rfl, Nat.le_of_ble_eq_true rfl⟩ (sx_P0 D _) hK hl rfl rfl (Nat.le_of_ble_eq_true rfl) ⟨Nat.zero_le _, Nat.zero_le _⟩ dX9_swap_22 ?_
  refine n_bne S (tgt := 34) dX9_swap_25 (by decide) (fun _ => ?_) (fun q => absurd q (by decide))
  refine lv_aload_n S.1 S.2.1 dX9_swap_34 rfl (lv_at hl 0 rfl) ?_
  refine lv_iload_n S.1 S.2.1 dX9_swap_35 rfl (lv_at hl 1 rfl) ?_
  refine lv_iload_n S.1 S.2.1 dX9_swap_36 rfl (lv_at hl 2 rfl) ?_
  refine lv_iload_n S.1 S.2.1 dX9_swap_37 rfl (lv_at hl 3 rfl) ?_
  refine rd_callV (rest := []) S (r_X9_canSwap l D cT q bd 0 n ro cl fb rn nd sk mo wk fx wi la da we i j d (hwf) (hz) (by omega) (by omega) (by omega)) gX9_swap_X9_canSwap rfl pd_X9_canSwap ⟨rfl, rfl, Nat.le_of_ble_eq_true rfl, Nat.le_of_ble_eq_true rfl⟩ hP hK (va_recv hK.1 hP (ci := 7) (q0 := 0) rfl rfl) hl rfl rfl (Nat.le_of_ble_eq_true rfl) ⟨Nat.zero_le _, Nat.zero_le _⟩ dX9_swap_38 ?_
  refine n_top (show (nI (i != j && csw sk mo wk fx la da fb rn i j d).toNat) = (nI true.toNat) from by rw [hs.2, show (i != j) = true from bne_iff_ne.mpr hs.1]; rfl) ?_
  refine n_bne S (tgt := 50) dX9_swap_41 (by decide) (fun _ => ?_) (fun q => absurd q (by decide))
  refine lv_aload_n S.1 S.2.1 dX9_swap_50 rfl (lv_at hl 0 rfl) ?_
  refine g_get (C := RX9) (T := TX9) (N := 15) (v := .ref (q 5)) S 0 7 9 in_X9_swap_X9 hK hP rfl rfl (by decide) w_X9_swap_1 rfl dX9_swap_51 ?_
  refine lv_bipush (v := (nI 7)) S.1 S.2.1 dX9_swap_54 (by decide) ?_
  refine lv_iload_n S.1 S.2.1 dX9_swap_56 rfl (lv_at hl 1 rfl) ?_
  refine n_mul S dX9_swap_57 ?_
  refine lv_iload_n S.1 S.2.1 dX9_swap_58 rfl (lv_at hl 3 rfl) ?_
  refine n_add S dX9_swap_59 ?_
  refine g_iald S 5 hK hP rfl (by omega) dX9_swap_60 ?_
  refine n_top (show (nI ((enf wk) ((7 * i) + d))) = (nI (ent (wk i) d)) from congrArg nI (en_at hd)) ?_
  refine lv_istore (lv' := [(4, .int (nI (ent (wk i) d))), (0, .ref (q 0)), (1, .int (nI i)), (2, .int (nI j)), (3, .int (nI d))]) S.1 S.2.1 dX9_swap_61 hl (by decide) rfl (fun ls hl => ?_)
  refine lv_aload_n S.1 S.2.1 dX9_swap_63 rfl (lv_at hl 1 rfl) ?_
  refine g_get (C := RX9) (T := TX9) (N := 15) (v := .ref (q 5)) S 0 7 9 in_X9_swap_X9 hK hP rfl rfl (by decide) w_X9_swap_1 rfl dX9_swap_64 ?_
  refine lv_bipush (v := (nI 7)) S.1 S.2.1 dX9_swap_67 (by decide) ?_
  refine lv_iload_n S.1 S.2.1 dX9_swap_69 rfl (lv_at hl 2 rfl) ?_
  refine n_mul S dX9_swap_70 ?_
  refine lv_iload_n S.1 S.2.1 dX9_swap_71 rfl (lv_at hl 4 rfl) ?_
  refine n_add S dX9_swap_72 ?_
  refine lv_aload_n S.1 S.2.1 dX9_swap_73 rfl (lv_at hl 1 rfl) ?_
  refine g_get (C := RX9) (T := TX9) (N := 15) (v := .ref (q 5)) S 0 7 9 in_X9_swap_X9 hK hP rfl rfl (by decide) w_X9_swap_1 rfl dX9_swap_74 ?_
  refine lv_bipush (v := (nI 7)) S.1 S.2.1 dX9_swap_77 (by decide) ?_
  refine lv_iload_n S.1 S.2.1 dX9_swap_79 rfl (lv_at hl 3 rfl) ?_
  refine n_mul S dX9_swap_80 ?_
  refine lv_iload_n S.1 S.2.1 dX9_swap_81 rfl (lv_at hl 4 rfl) ?_
  refine n_add S dX9_swap_82 ?_
  refine g_iald S 5 hK hP rfl (by omega) dX9_swap_83 ?_
  refine n_top (show (nI ((enf wk) ((7 * j) + d))) = (nI (ent (wk j) d)) from congrArg nI (en_at hd)) ?_
  refine w_iast S 5 hK hP hD hS rfl (by omega) dX9_swap_84 (fun H locs hP hD hS => ?_)
  have hP : va_P D vwCl (mX cT q 0 n ro cl fb rn nd sk mo (va_up wk i (wset (wk i) d (ent (wk j) d))) fx wi la da we) H := by rw [en_up (wk := wk) (i := i) (d := d) (v := ent (wk j) d) (by omega) (by first | omega | exact ent_lt _ _)] at hP; exact hP
  have hD : va_D A (mX cT q 0 n ro cl fb rn nd sk mo (va_up wk i (wset (wk i) d (ent (wk j) d))) fx wi la da we) := by rw [en_up (wk := wk) (i := i) (d := d) (v := ent (wk j) d) (by omega) (by first | omega | exact ent_lt _ _)] at hD; exact hD
  refine lv_aload_n S.1 S.2.1 dX9_swap_85 rfl (lv_at hl 1 rfl) ?_
  refine g_get (C := RX9) (T := TX9) (N := 15) (v := .ref (q 5)) S 0 7 9 in_X9_swap_X9 hK hP rfl rfl (by decide) w_X9_swap_1 rfl dX9_swap_86 ?_
  refine lv_bipush (v := (nI 7)) S.1 S.2.1 dX9_swap_89 (by decide) ?_
  refine lv_iload_n S.1 S.2.1 dX9_swap_91 rfl (lv_at hl 3 rfl) ?_
  refine n_mul S dX9_swap_92 ?_
  refine lv_iload_n S.1 S.2.1 dX9_swap_93 rfl (lv_at hl 4 rfl) ?_
  refine n_add S dX9_swap_94 ?_
  refine lv_iload S.1 S.2.1 dX9_swap_95 (lv_at hl 0 rfl) ?_
  refine w_iast S 5 hK hP hD hS rfl (by omega) dX9_swap_97 (fun H locs hP hD hS => ?_)
  have hP : va_P D vwCl (mX cT q 0 n ro cl fb rn nd sk mo (va_up (va_up wk i (wset (wk i) d (ent (wk j) d))) j (wset ((va_up wk i (wset (wk i) d (ent (wk j) d))) j) d (ent (wk i) d))) fx wi la da we) H := by rw [en_up (wk := va_up wk i (wset (wk i) d (ent (wk j) d))) (i := j) (d := d) (v := ent (wk i) d) (by omega) (by first | omega | exact ent_lt _ _)] at hP; exact hP
  have hD : va_D A (mX cT q 0 n ro cl fb rn nd sk mo (va_up (va_up wk i (wset (wk i) d (ent (wk j) d))) j (wset ((va_up wk i (wset (wk i) d (ent (wk j) d))) j) d (ent (wk i) d))) fx wi la da we) := by rw [en_up (wk := va_up wk i (wset (wk i) d (ent (wk j) d))) (i := j) (d := d) (v := ent (wk i) d) (by omega) (by first | omega | exact ent_lt _ _)] at hD; exact hD
  have hij : i ≠ j := hs.1
  have hwj : (va_up wk i (wset (wk i) d (ent (wk j) d))) j = wk j := vu_n (fun q => hij q.symm)
  rw [hwj] at hP hD
  have hwf2 : wfC n bd fb rn nd sk mo (va_up (va_up wk i (wset (wk i) d (ent (wk j) d))) j (wset (wk j) d (ent (wk i) d))) fx wi la da we := wf_wk (wf_wk hwf i (wset_lt (by omega) hd (ent_lt _ _))) j (wset_lt (by omega) hd (ent_lt _ _))
  refine lv_aload_n S.1 S.2.1 dX9_swap_98 rfl (lv_at hl 1 rfl) ?_
  refine lv_iload_n S.1 S.2.1 dX9_swap_99 rfl (lv_at hl 2 rfl) ?_
  refine lv_aload_n S.1 S.2.1 dX9_swap_100 rfl (lv_at hl 1 rfl) ?_
  refine lv_iload_n S.1 S.2.1 dX9_swap_101 rfl (lv_at hl 2 rfl) ?_
  refine rd_callV (rest := [.int (nI i), .ref (q 0)]) S (r_X9_weekOf l D cT q bd 0 n ro cl fb rn nd sk mo (va_up (va_up wk i (wset (wk i) d (ent (wk j) d))) j (wset (wk j) d (ent (wk i) d))) fx wi la da we i (hwf2) (hz) (by omega)) gX9_swap_X9_weekOf rfl pd_X9_weekOf ⟨rfl, rfl, Nat.le_of_ble_eq_true rfl, Nat.le_of_ble_eq_true rfl⟩ hP hK (va_recv hK.1 hP (ci := 7) (q0 := 0) rfl rfl) hl rfl rfl (Nat.le_of_ble_eq_true rfl) ⟨Nat.zero_le _, Nat.zero_le _⟩ dX9_swap_102 ?_
  refine n_top (show (nI ((va_up (va_up wk i (wset (wk i) d (ent (wk j) d))) j (wset (wk j) d (ent (wk i) d))) i)) = (nI (wset (wk i) d (ent (wk j) d))) from by rw [vu_n hij, vu_s]) ?_
  refine rd_callV (rest := []) S (r_X9_brokenBy l D cT q bd 0 n ro cl fb rn nd sk mo (va_up (va_up wk i (wset (wk i) d (ent (wk j) d))) j (wset (wk j) d (ent (wk i) d))) fx wi la da we i (wset (wk i) d (ent (wk j) d)) (hwf2) (hz) (by omega) (wset_lt (by omega) hd (ent_lt _ _))) gX9_swap_X9_brokenBy rfl pd_X9_brokenBy ⟨rfl, rfl, Nat.le_of_ble_eq_true rfl, Nat.le_of_ble_eq_true rfl⟩ hP hK (va_recv hK.1 hP (ci := 7) (q0 := 0) rfl rfl) hl rfl rfl (Nat.le_of_ble_eq_true rfl) ⟨Nat.zero_le _, Nat.zero_le _⟩ dX9_swap_105 ?_
  refine lv_aload_n S.1 S.2.1 dX9_swap_108 rfl (lv_at hl 1 rfl) ?_
  refine lv_iload_n S.1 S.2.1 dX9_swap_109 rfl (lv_at hl 3 rfl) ?_
  refine lv_aload_n S.1 S.2.1 dX9_swap_110 rfl (lv_at hl 1 rfl) ?_
  refine lv_iload_n S.1 S.2.1 dX9_swap_111 rfl (lv_at hl 3 rfl) ?_
  refine rd_callV (rest := [.int (nI j), .ref (q 0), .int (nI (brc (wi i) (wset (wk i) d (ent (wk j) d)) 7))]) S (r_X9_weekOf l D cT q bd 0 n ro cl fb rn nd sk mo (va_up (va_up wk i (wset (wk i) d (ent (wk j) d))) j (wset (wk j) d (ent (wk i) d))) fx wi la da we j (hwf2) (hz) (by omega)) gX9_swap_X9_weekOf rfl pd_X9_weekOf ⟨rfl, rfl, Nat.le_of_ble_eq_true rfl, Nat.le_of_ble_eq_true rfl⟩ hP hK (va_recv hK.1 hP (ci := 7) (q0 := 0) rfl rfl) hl rfl rfl (Nat.le_of_ble_eq_true rfl) ⟨Nat.zero_le _, Nat.zero_le _⟩ dX9_swap_112 ?_
  refine n_top (show (nI ((va_up (va_up wk i (wset (wk i) d (ent (wk j) d))) j (wset (wk j) d (ent (wk i) d))) j)) = (nI (wset (wk j) d (ent (wk i) d))) from by rw [vu_s]) ?_
  refine rd_callV (rest := [.int (nI (brc (wi i) (wset (wk i) d (ent (wk j) d)) 7))]) S (r_X9_brokenBy l D cT q bd 0 n ro cl fb rn nd sk mo (va_up (va_up wk i (wset (wk i) d (ent (wk j) d))) j (wset (wk j) d (ent (wk i) d))) fx wi la da we j (wset (wk j) d (ent (wk i) d)) (hwf2) (hz) (by omega) (wset_lt (by omega) hd (ent_lt _ _))) gX9_swap_X9_brokenBy rfl pd_X9_brokenBy ⟨rfl, rfl, Nat.le_of_ble_eq_true rfl, Nat.le_of_ble_eq_true rfl⟩ hP hK (va_recv hK.1 hP (ci := 7) (q0 := 0) rfl rfl) hl rfl rfl (Nat.le_of_ble_eq_true rfl) ⟨Nat.zero_le _, Nat.zero_le _⟩ dX9_swap_115 ?_
  refine n_add S dX9_swap_118 ?_
  exact wr_iret S (()) hr rfl hlocks (rfl) (hP) (hD) hS dX9_swap_119

set_option maxHeartbeats 4000000 in
set_option maxRecDepth 100000 in
theorem w_X9_swap_x3 (l : Launch) (D : va_G) (cT : ClassId × ClassId × ClassId) (sz : Nat) (q : Nat → Nat) (bd th n ro cl fb rn : Nat) (nd sk mo wk fx wi la da we : Nat → Nat) (i : Nat) (j : Nat) (d : Nat) (hwf : wfC n bd fb rn nd sk mo wk fx wi la da we) (hz : ∀ b, b < 4 → bit fb (4 * b) = 0) (hi : i < n) (hj : j < n) (hd : d < 7) (hs : (i != j && csw sk mo wk fx la da fb rn i j d) = false) : Met l yX9_swap wsX9_swap ({ frames := 4, cells := 0, slots := 0, locals := 96 } : Room) (va_Pc [.ref (q 0), .int (nI i), .int (nI j), .int (nI d)] (wr_R D (TY cT) (mX cT q th n ro cl fb rn nd sk mo wk fx wi la da we) sz)) (wQi (fun (r_ : Int32) (_ : Unit) => r_ = (nI 0)) D (fun (_ : Unit) => mX cT q 2 n ro cl fb rn nd sk mo wk fx wi la da we) (va_A (mX cT q th n ro cl fb rn nd sk mo wk fx wi la da we) sz)) 0 0 (va_A (mX cT q th n ro cl fb rn nd sk mo wk fx wi la da we) sz) := by
  refine wr_start (cc := cX9_swap) (maxL := 5) (ret := (some .int)) RX9 ⟨by decide +kernel, rfl⟩ rfl (Nat.le_of_ble_eq_true rfl) ?_
  intro p0 e0 s0 m0 a0 b0 t0 c0 S hr hlocks hin hP hK hA hD hS ls hl
  generalize va_A (mX cT q th n ro cl fb rn nd sk mo wk fx wi la da we) sz = A at hA hD hS ⊢
  have hl : lv_has ls 5 [(0, .ref (q 0)), (1, .int (nI i)), (2, .int (nI j)), (3, .int (nI d))] := hl
  obtain ⟨hn, hcl, hfb, hrn, hnd, hper⟩ := id hwf
  have hpi := hper i
  have hpj := hper j
  refine lv_aload_n S.1 S.2.1 dX9_swap_0 rfl (lv_at hl 0 rfl) ?_
  refine lv_iconst (v := (nI 0)) S.1 S.2.1 dX9_swap_1 (by decide) ?_
  refine w_put (C := RX9) (T := TX9) (N := 15) (v := .int (nI 0)) (ty := .int) S 0 7 0 in_X9_swap_X9 tyX9 tyX9_ok nmX9 hK hP hD hS rfl rfl (by decide) w_X9_swap_0 rfl (by decide +kernel) rfl rfl (Nat.le_of_ble_eq_true rfl) dX9_swap_2 (fun H locs hP hD hS => ?_)
  have hP : va_P D vwCl (mX cT q 0 n ro cl fb rn nd sk mo wk fx wi la da we) H := hP
  have hD : va_D A (mX cT q 0 n ro cl fb rn nd sk mo wk fx wi la da we) := hD
  refine lv_aload_n S.1 S.2.1 dX9_swap_5 rfl (lv_at hl 0 rfl) ?_
  refine lv_iload_n S.1 S.2.1 dX9_swap_6 rfl (lv_at hl 1 rfl) ?_
  refine rd_callV (rest := []) S (r_X9_isPerson l D cT q bd 0 n ro cl fb rn nd sk mo wk fx wi la da we i (hwf) (hz) (by omega)) gX9_swap_X9_isPerson rfl pd_X9_isPerson ⟨rfl, rfl, Nat.le_of_ble_eq_true rfl, Nat.le_of_ble_eq_true rfl⟩ hP hK (va_recv hK.1 hP (ci := 7) (q0 := 0) rfl rfl) hl rfl rfl (Nat.le_of_ble_eq_true rfl) ⟨Nat.zero_le _, Nat.zero_le _⟩ dX9_swap_7 ?_
  refine n_beq S (tgt := 28) dX9_swap_10 (by decide) (fun q => absurd q (by decide)) (fun _ => ?_)
  refine lv_aload_n S.1 S.2.1 dX9_swap_13 rfl (lv_at hl 0 rfl) ?_
  refine lv_iload_n S.1 S.2.1 dX9_swap_14 rfl (lv_at hl 2 rfl) ?_
  refine rd_callV (rest := []) S (r_X9_isPerson l D cT q bd 0 n ro cl fb rn nd sk mo wk fx wi la da we j (hwf) (hz) (by omega)) gX9_swap_X9_isPerson rfl pd_X9_isPerson ⟨rfl, rfl, Nat.le_of_ble_eq_true rfl, Nat.le_of_ble_eq_true rfl⟩ hP hK (va_recv hK.1 hP (ci := 7) (q0 := 0) rfl rfl) hl rfl rfl (Nat.le_of_ble_eq_true rfl) ⟨Nat.zero_le _, Nat.zero_le _⟩ dX9_swap_15 ?_
  refine n_beq S (tgt := 28) dX9_swap_18 (by decide) (fun q => absurd q (by decide)) (fun _ => ?_)
  refine lv_iload_n S.1 S.2.1 dX9_swap_21 rfl (lv_at hl 3 rfl) ?_
  refine rd_callS (rest := []) S (r_X9_isDay l D cT d (by omega)) gX9_swap_X9_isDay rfl pd_X9_isDay ⟨rfl, rfl, Nat.le_of_ble_eq_true rfl, Nat.le_of_ble_eq_true rfl⟩ (sx_P0 D _) hK hl rfl rfl (Nat.le_of_ble_eq_true rfl) ⟨Nat.zero_le _, Nat.zero_le _⟩ dX9_swap_22 ?_
  refine n_bne S (tgt := 34) dX9_swap_25 (by decide) (fun _ => ?_) (fun q => absurd q (by decide))
  refine lv_aload_n S.1 S.2.1 dX9_swap_34 rfl (lv_at hl 0 rfl) ?_
  refine lv_iload_n S.1 S.2.1 dX9_swap_35 rfl (lv_at hl 1 rfl) ?_
  refine lv_iload_n S.1 S.2.1 dX9_swap_36 rfl (lv_at hl 2 rfl) ?_
  refine lv_iload_n S.1 S.2.1 dX9_swap_37 rfl (lv_at hl 3 rfl) ?_
  refine rd_callV (rest := []) S (r_X9_canSwap l D cT q bd 0 n ro cl fb rn nd sk mo wk fx wi la da we i j d (hwf) (hz) (by omega) (by omega) (by omega)) gX9_swap_X9_canSwap rfl pd_X9_canSwap ⟨rfl, rfl, Nat.le_of_ble_eq_true rfl, Nat.le_of_ble_eq_true rfl⟩ hP hK (va_recv hK.1 hP (ci := 7) (q0 := 0) rfl rfl) hl rfl rfl (Nat.le_of_ble_eq_true rfl) ⟨Nat.zero_le _, Nat.zero_le _⟩ dX9_swap_38 ?_
  refine n_top (show (nI (i != j && csw sk mo wk fx la da fb rn i j d).toNat) = (nI false.toNat) from by rw [hs]) ?_
  refine n_bne S (tgt := 50) dX9_swap_41 (by decide) (fun q => absurd q (by decide)) (fun _ => ?_)
  refine lv_aload_n S.1 S.2.1 dX9_swap_44 rfl (lv_at hl 0 rfl) ?_
  refine lv_iconst (v := (nI 2)) S.1 S.2.1 dX9_swap_45 (by decide) ?_
  refine wr_callVi (rest := []) S (w_X9_fails l D cT _ q bd 0 n ro cl fb rn nd sk mo wk fx wi la da we 2 (hwf) (hz)) gX9_swap_X9_fails rfl pd_X9_fails ⟨rfl, rfl, Nat.le_of_ble_eq_true rfl, Nat.le_of_ble_eq_true rfl⟩ hP hK hD hS hA (va_recv hK.1 hP (ci := 7) (q0 := 0) rfl rfl) hl rfl rfl (Nat.le_of_ble_eq_true rfl) ⟨Nat.zero_le _, Nat.zero_le _⟩ dX9_swap_46 (fun r_ u_ H locs hr_ hP hD hS => ?_)
  subst hr_
  have hP : va_P D vwCl (mX cT q 2 n ro cl fb rn nd sk mo wk fx wi la da we) H := hP
  have hD : va_D A (mX cT q 2 n ro cl fb rn nd sk mo wk fx wi la da we) := hD
  exact wr_iret S (()) hr rfl hlocks (rfl) (hP) (hD) hS dX9_swap_49

theorem pd_X9_couldTake : yX9_couldTake.cls = RX9 ∧ yX9_couldTake.cls ≠ "java/lang/invoke/MethodHandle" ∧ yX9_couldTake.cls ≠ "java/lang/invoke/VarHandle" ∧ (parseMethodDescriptor yX9_couldTake.desc).map (fun d => d.parameters.length) = some 2 := by decide +kernel
theorem w_X9_couldTake_0 : Cond.fieldLink RX9 44 "CoverSheetModel" "thrown" "I" ∈ wsX9_couldTake := by decide +kernel
theorem in_X9_couldTake_X9 : ∀ w ∈ u_ws RX9 TX9 15, w ∈ wsX9_couldTake := by decide +kernel
set_option maxHeartbeats 4000000 in
set_option maxRecDepth 100000 in
theorem w_X9_couldTake_x0 (l : Launch) (D : va_G) (cT : ClassId × ClassId × ClassId) (sz : Nat) (q : Nat → Nat) (bd th n ro cl fb rn : Nat) (nd sk mo wk fx wi la da we : Nat → Nat) (x : Int32) (ze : Int32) (hwf : wfC n bd fb rn nd sk mo wk fx wi la da we) (hz : ∀ b, b < 4 → bit fb (4 * b) = 0) (hx : PX x 7) : Met l yX9_couldTake wsX9_couldTake ({ frames := 2, cells := 0, slots := 0, locals := 42 } : Room) (va_Pc [.ref (q 0), .int x, .int ze] (wr_R D (TY cT) (mX cT q th n ro cl fb rn nd sk mo wk fx wi la da we) sz)) (wQi (fun (r_ : Int32) (_ : Unit) => r_ = (nI 0)) D (fun (_ : Unit) => mX cT q 1 n ro cl fb rn nd sk mo wk fx wi la da we) (va_A (mX cT q th n ro cl fb rn nd sk mo wk fx wi la da we) sz)) 0 0 (va_A (mX cT q th n ro cl fb rn nd sk mo wk fx wi la da we) sz) := by
  refine wr_start (cc := cX9_couldTake) (maxL := 6) (ret := (some .int)) RX9 ⟨by decide +kernel, rfl⟩ rfl (Nat.le_of_ble_eq_true rfl) ?_
  intro p0 e0 s0 m0 a0 b0 t0 c0 S hr hlocks hin hP hK hA hD hS ls hl
  generalize va_A (mX cT q th n ro cl fb rn nd sk mo wk fx wi la da we) sz = A at hA hD hS ⊢
  have hl : lv_has ls 6 [(0, .ref (q 0)), (1, .int x), (2, .int ze)] := hl
  obtain ⟨hn, hcl, hfb, hrn, hnd, hper⟩ := id hwf
  refine lv_aload_n S.1 S.2.1 dX9_couldTake_0 rfl (lv_at hl 0 rfl) ?_
  refine lv_iconst (v := (nI 0)) S.1 S.2.1 dX9_couldTake_1 (by decide) ?_
  refine w_put (C := RX9) (T := TX9) (N := 15) (v := .int (nI 0)) (ty := .int) S 0 7 0 in_X9_couldTake_X9 tyX9 tyX9_ok nmX9 hK hP hD hS rfl rfl (by decide) w_X9_couldTake_0 rfl (by decide +kernel) rfl rfl (Nat.le_of_ble_eq_true rfl) dX9_couldTake_2 (fun H locs hP hD hS => ?_)
  have hP : va_P D vwCl (mX cT q 0 n ro cl fb rn nd sk mo wk fx wi la da we) H := hP
  have hD : va_D A (mX cT q 0 n ro cl fb rn nd sk mo wk fx wi la da we) := hD
  refine lv_iload_n S.1 S.2.1 dX9_couldTake_5 rfl (lv_at hl 1 rfl) ?_
  refine rd_callS (rest := []) S (r_X9_isDay_x l D cT x (hx)) gX9_couldTake_X9_isDay rfl pd_X9_isDay ⟨rfl, rfl, Nat.le_of_ble_eq_true rfl, Nat.le_of_ble_eq_true rfl⟩ (sx_P0 D _) hK hl rfl rfl (Nat.le_of_ble_eq_true rfl) ⟨Nat.zero_le _, Nat.zero_le _⟩ dX9_couldTake_6 ?_
  refine n_beq S (tgt := 19) dX9_couldTake_9 (by decide) (fun _ => ?_) (fun q => absurd q (by decide))
  refine lv_aload_n S.1 S.2.1 dX9_couldTake_19 rfl (lv_at hl 0 rfl) ?_
  refine lv_iconst (v := (nI 1)) S.1 S.2.1 dX9_couldTake_20 (by decide) ?_
  refine wr_callVi (rest := []) S (w_X9_fails l D cT _ q bd 0 n ro cl fb rn nd sk mo wk fx wi la da we 1 (hwf) (hz)) gX9_couldTake_X9_fails rfl pd_X9_fails ⟨rfl, rfl, Nat.le_of_ble_eq_true rfl, Nat.le_of_ble_eq_true rfl⟩ hP hK hD hS hA (va_recv hK.1 hP (ci := 7) (q0 := 0) rfl rfl) hl rfl rfl (Nat.le_of_ble_eq_true rfl) ⟨Nat.zero_le _, Nat.zero_le _⟩ dX9_couldTake_21 (fun r_ u_ H locs hr_ hP hD hS => ?_)
  subst hr_
  have hP : va_P D vwCl (mX cT q 1 n ro cl fb rn nd sk mo wk fx wi la da we) H := hP
  have hD : va_D A (mX cT q 1 n ro cl fb rn nd sk mo wk fx wi la da we) := hD
  exact wr_iret S (()) hr rfl hlocks (rfl) (hP) (hD) hS dX9_couldTake_24

set_option maxHeartbeats 4000000 in
set_option maxRecDepth 100000 in
theorem w_X9_couldTake_x1 (l : Launch) (D : va_G) (cT : ClassId × ClassId × ClassId) (sz : Nat) (q : Nat → Nat) (bd th n ro cl fb rn : Nat) (nd sk mo wk fx wi la da we : Nat → Nat) (d : Nat) (x : Int32) (hwf : wfC n bd fb rn nd sk mo wk fx wi la da we) (hz : ∀ b, b < 4 → bit fb (4 * b) = 0) (hd : d < 7) (hx : x < nI 1 ∨ nI 3 < x) : Met l yX9_couldTake wsX9_couldTake ({ frames := 2, cells := 0, slots := 0, locals := 42 } : Room) (va_Pc [.ref (q 0), .int (nI d), .int x] (wr_R D (TY cT) (mX cT q th n ro cl fb rn nd sk mo wk fx wi la da we) sz)) (wQi (fun (r_ : Int32) (_ : Unit) => r_ = (nI 0)) D (fun (_ : Unit) => mX cT q 1 n ro cl fb rn nd sk mo wk fx wi la da we) (va_A (mX cT q th n ro cl fb rn nd sk mo wk fx wi la da we) sz)) 0 0 (va_A (mX cT q th n ro cl fb rn nd sk mo wk fx wi la da we) sz) := by
  refine wr_start (cc := cX9_couldTake) (maxL := 6) (ret := (some .int)) RX9 ⟨by decide +kernel, rfl⟩ rfl (Nat.le_of_ble_eq_true rfl) ?_
  intro p0 e0 s0 m0 a0 b0 t0 c0 S hr hlocks hin hP hK hA hD hS ls hl
  generalize va_A (mX cT q th n ro cl fb rn nd sk mo wk fx wi la da we) sz = A at hA hD hS ⊢
  have hl : lv_has ls 6 [(0, .ref (q 0)), (1, .int (nI d)), (2, .int x)] := hl
  obtain ⟨hn, hcl, hfb, hrn, hnd, hper⟩ := id hwf
  refine lv_aload_n S.1 S.2.1 dX9_couldTake_0 rfl (lv_at hl 0 rfl) ?_
  refine lv_iconst (v := (nI 0)) S.1 S.2.1 dX9_couldTake_1 (by decide) ?_
  refine w_put (C := RX9) (T := TX9) (N := 15) (v := .int (nI 0)) (ty := .int) S 0 7 0 in_X9_couldTake_X9 tyX9 tyX9_ok nmX9 hK hP hD hS rfl rfl (by decide) w_X9_couldTake_0 rfl (by decide +kernel) rfl rfl (Nat.le_of_ble_eq_true rfl) dX9_couldTake_2 (fun H locs hP hD hS => ?_)
  have hP : va_P D vwCl (mX cT q 0 n ro cl fb rn nd sk mo wk fx wi la da we) H := hP
  have hD : va_D A (mX cT q 0 n ro cl fb rn nd sk mo wk fx wi la da we) := hD
  refine lv_iload_n S.1 S.2.1 dX9_couldTake_5 rfl (lv_at hl 1 rfl) ?_
  refine rd_callS (rest := []) S (r_X9_isDay l D cT d (by omega)) gX9_couldTake_X9_isDay rfl pd_X9_isDay ⟨rfl, rfl, Nat.le_of_ble_eq_true rfl, Nat.le_of_ble_eq_true rfl⟩ (sx_P0 D _) hK hl rfl rfl (Nat.le_of_ble_eq_true rfl) ⟨Nat.zero_le _, Nat.zero_le _⟩ dX9_couldTake_6 ?_
  refine n_beq S (tgt := 19) dX9_couldTake_9 (by decide) (fun q => absurd q (by decide)) (fun _ => ?_)
  refine lv_iload_n S.1 S.2.1 dX9_couldTake_12 rfl (lv_at hl 2 rfl) ?_
  refine rd_callS (rest := []) S (r_X9_isKind_x l D cT x (hx)) gX9_couldTake_X9_isKind rfl pd_X9_isKind ⟨rfl, rfl, Nat.le_of_ble_eq_true rfl, Nat.le_of_ble_eq_true rfl⟩ (sx_P0 D _) hK hl rfl rfl (Nat.le_of_ble_eq_true rfl) ⟨Nat.zero_le _, Nat.zero_le _⟩ dX9_couldTake_13 ?_
  refine n_bne S (tgt := 25) dX9_couldTake_16 (by decide) (fun q => absurd q (by decide)) (fun _ => ?_)
  refine lv_aload_n S.1 S.2.1 dX9_couldTake_19 rfl (lv_at hl 0 rfl) ?_
  refine lv_iconst (v := (nI 1)) S.1 S.2.1 dX9_couldTake_20 (by decide) ?_
  refine wr_callVi (rest := []) S (w_X9_fails l D cT _ q bd 0 n ro cl fb rn nd sk mo wk fx wi la da we 1 (hwf) (hz)) gX9_couldTake_X9_fails rfl pd_X9_fails ⟨rfl, rfl, Nat.le_of_ble_eq_true rfl, Nat.le_of_ble_eq_true rfl⟩ hP hK hD hS hA (va_recv hK.1 hP (ci := 7) (q0 := 0) rfl rfl) hl rfl rfl (Nat.le_of_ble_eq_true rfl) ⟨Nat.zero_le _, Nat.zero_le _⟩ dX9_couldTake_21 (fun r_ u_ H locs hr_ hP hD hS => ?_)
  subst hr_
  have hP : va_P D vwCl (mX cT q 1 n ro cl fb rn nd sk mo wk fx wi la da we) H := hP
  have hD : va_D A (mX cT q 1 n ro cl fb rn nd sk mo wk fx wi la da we) := hD
  exact wr_iret S (()) hr rfl hlocks (rfl) (hP) (hD) hS dX9_couldTake_24

theorem w_X9_couldTake_1 : Cond.fieldLink RX9 47 "CoverSheetModel" "many" "I" ∈ wsX9_couldTake := by decide +kernel
theorem w_X9_couldTake_2 : Cond.fieldLink RX9 26 "CoverSheetModel" "entries" "[I" ∈ wsX9_couldTake := by decide +kernel
set_option maxHeartbeats 4000000 in
set_option maxRecDepth 100000 in
theorem w_X9_couldTake (l : Launch) (D : va_G) (cT : ClassId × ClassId × ClassId) (sz : Nat) (q : Nat → Nat) (bd th n ro cl fb rn : Nat) (nd sk mo wk fx wi la da we : Nat → Nat) (d : Nat) (e : Nat) (hwf : wfC n bd fb rn nd sk mo wk fx wi la da we) (hz : ∀ b, b < 4 → bit fb (4 * b) = 0) (hd : d < 7) (he : 1 ≤ e ∧ e < 4) : Met l yX9_couldTake wsX9_couldTake ({ frames := 3, cells := 0, slots := 0, locals := 71 } : Room) (va_Pc [.ref (q 0), .int (nI d), .int (nI e)] (wr_R D (TY cT) (mX cT q th n ro cl fb rn nd sk mo wk fx wi la da we) sz)) (wQi (fun (r_ : Int32) (_ : Unit) => r_ = (nI (ctk (ctf sk mo wk fx la da fb rn d e) n))) D (fun (_ : Unit) => mX cT q 0 n ro cl fb rn nd sk mo wk fx wi la da we) (va_A (mX cT q th n ro cl fb rn nd sk mo wk fx wi la da we) sz)) 0 0 (va_A (mX cT q th n ro cl fb rn nd sk mo wk fx wi la da we) sz) := by
  refine wr_start (cc := cX9_couldTake) (maxL := 6) (ret := (some .int)) RX9 ⟨by decide +kernel, rfl⟩ rfl (Nat.le_of_ble_eq_true rfl) ?_
  intro p0 e0 s0 m0 a0 b0 t0 c0 S hr hlocks hin hP hK hA hD hS ls hl
  generalize va_A (mX cT q th n ro cl fb rn nd sk mo wk fx wi la da we) sz = A at hA hD hS ⊢
  have hl : lv_has ls 6 [(0, .ref (q 0)), (1, .int (nI d)), (2, .int (nI e))] := hl
  obtain ⟨hn, hcl, hfb, hrn, hnd, hper⟩ := id hwf
  refine lv_aload_n S.1 S.2.1 dX9_couldTake_0 rfl (lv_at hl 0 rfl) ?_
  refine lv_iconst (v := (nI 0)) S.1 S.2.1 dX9_couldTake_1 (by decide) ?_
  refine w_put (C := RX9) (T := TX9) (N := 15) (v := .int (nI 0)) (ty := .int) S 0 7 0 in_X9_couldTake_X9 tyX9 tyX9_ok nmX9 hK hP hD hS rfl rfl (by decide) w_X9_couldTake_0 rfl (by decide +kernel) rfl rfl (Nat.le_of_ble_eq_true rfl) dX9_couldTake_2 (fun H locs hP hD hS => ?_)
  have hP : va_P D vwCl (mX cT q 0 n ro cl fb rn nd sk mo wk fx wi la da we) H := hP
  have hD : va_D A (mX cT q 0 n ro cl fb rn nd sk mo wk fx wi la da we) := hD
  refine lv_iload_n S.1 S.2.1 dX9_couldTake_5 rfl (lv_at hl 1 rfl) ?_
  refine rd_callS (rest := []) S (r_X9_isDay l D cT d (by omega)) gX9_couldTake_X9_isDay rfl pd_X9_isDay ⟨rfl, rfl, Nat.le_of_ble_eq_true rfl, Nat.le_of_ble_eq_true rfl⟩ (sx_P0 D _) hK hl rfl rfl (Nat.le_of_ble_eq_true rfl) ⟨Nat.zero_le _, Nat.zero_le _⟩ dX9_couldTake_6 ?_
  refine n_beq S (tgt := 19) dX9_couldTake_9 (by decide) (fun q => absurd q (by decide)) (fun _ => ?_)
  refine lv_iload_n S.1 S.2.1 dX9_couldTake_12 rfl (lv_at hl 2 rfl) ?_
  refine rd_callS (rest := []) S (r_X9_isKind l D cT e (by omega)) gX9_couldTake_X9_isKind rfl pd_X9_isKind ⟨rfl, rfl, Nat.le_of_ble_eq_true rfl, Nat.le_of_ble_eq_true rfl⟩ (sx_P0 D _) hK hl rfl rfl (Nat.le_of_ble_eq_true rfl) ⟨Nat.zero_le _, Nat.zero_le _⟩ dX9_couldTake_13 ?_
  refine n_bne S (tgt := 25) dX9_couldTake_16 (by decide) (fun _ => ?_) (fun q => absurd q (by decide))
  refine lv_iconst (v := (nI 0)) S.1 S.2.1 dX9_couldTake_25 (by decide) ?_
  refine lv_istore_n (lv' := [(3, .int (nI 0)), (0, .ref (q 0)), (1, .int (nI d)), (2, .int (nI e))]) S.1 S.2.1 dX9_couldTake_26 rfl hl (by decide) rfl (fun ls hl => ?_)
  refine lv_iconst (v := (nI 0)) S.1 S.2.1 dX9_couldTake_27 (by decide) ?_
  refine lv_istore (lv' := [(4, .int (nI 0)), (3, .int (nI 0)), (0, .ref (q 0)), (1, .int (nI d)), (2, .int (nI e))]) S.1 S.2.1 dX9_couldTake_28 hl (by decide) rfl (fun ls hl => ?_)
  have lp30 : ∀ (fu : Nat) (t : Nat) (k : Nat), (k ≤ n) → (t = ctk (ctf sk mo wk fx la da fb rn d e) k) → (n - k) < fu → ∀ (H : Heap) (locs : List Loc), va_P D vwCl (mX cT q 0 n ro cl fb rn nd sk mo wk fx wi la da we) H → va_D A (mX cT q 0 n ro cl fb rn nd sk mo wk fx wi la da we) → va_S A s0.heap H locs → ∀ ls : Array Slot, lv_has ls 6 [(0, .ref (q 0)), (1, .int (nI d)), (2, .int (nI e)), (3, .int (nI t)), (4, .int (nI k))] → W p0 l e0 ({ frames := 3, cells := 0, slots := 0, locals := 71 } : Room) s0 m0 a0 b0 t0 c0 H locs 0 0 (MQ b0 (wQi (fun (r_ : Int32) (_ : Unit) => r_ = (nI (ctk (ctf sk mo wk fx la da fb rn d e) n))) D (fun (_ : Unit) => mX cT q 0 n ro cl fb rn nd sk mo wk fx wi la da we) A) a0 s0 0 0 A) (F0 m0 30 ls []) := by
    intro fu
    induction fu with
    | zero =>
      intro t k h2 ht hm
      exact absurd hm (Nat.not_lt_zero _)
    | succ fu ih30 =>
      intro t k h2 ht hm H locs hP hD hS ls hl
      have hpk := hper k
      refine lv_iload S.1 S.2.1 dX9_couldTake_30 (lv_at hl 4 rfl) ?_
      refine lv_aload_n S.1 S.2.1 dX9_couldTake_32 rfl (lv_at hl 0 rfl) ?_
      refine g_get (C := RX9) (T := TX9) (N := 15) (v := .int (nI n)) S 0 7 1 in_X9_couldTake_X9 hK hP rfl rfl (by decide) w_X9_couldTake_1 rfl dX9_couldTake_33 ?_
      refine n_cge S (tgt := 103) (by omega) dX9_couldTake_36 (by decide) (fun c36 => ?_) (fun c36 => ?_)
      · refine lv_iload_n S.1 S.2.1 dX9_couldTake_103 rfl (lv_at hl 3 rfl) ?_
        exact wr_iret S (()) hr rfl hlocks (by rw [ht, show k = n by omega]) (hP) (hD) hS dX9_couldTake_104
      · refine lv_aload_n S.1 S.2.1 dX9_couldTake_39 rfl (lv_at hl 0 rfl) ?_
        refine g_get (C := RX9) (T := TX9) (N := 15) (v := .ref (q 5)) S 0 7 9 in_X9_couldTake_X9 hK hP rfl rfl (by decide) w_X9_couldTake_2 rfl dX9_couldTake_40 ?_
        refine lv_bipush (v := (nI 7)) S.1 S.2.1 dX9_couldTake_43 (by decide) ?_
        refine lv_iload S.1 S.2.1 dX9_couldTake_45 (lv_at hl 4 rfl) ?_
        refine n_mul S dX9_couldTake_47 ?_
        refine lv_iload_n S.1 S.2.1 dX9_couldTake_48 rfl (lv_at hl 1 rfl) ?_
        refine n_add S dX9_couldTake_49 ?_
        refine g_iald S 5 hK hP rfl (by omega) dX9_couldTake_50 ?_
        refine n_top (show (nI ((enf wk) ((7 * k) + d))) = (nI (ent (wk k) d)) from congrArg nI (en_at hd)) ?_
        refine n_zne S (tgt := 78) (Nat.lt_trans (ent_lt _ _) (by decide)) dX9_couldTake_51 (by decide) (fun c51 => ?_) (fun c51 => ?_)
        · refine lv_iconst (v := (nI 0)) S.1 S.2.1 dX9_couldTake_78 (by decide) ?_
          refine lv_istore (lv' := [(5, .int (nI 0)), (0, .ref (q 0)), (1, .int (nI d)), (2, .int (nI e)), (3, .int (nI t)), (4, .int (nI k))]) S.1 S.2.1 dX9_couldTake_79 hl (by decide) rfl (fun ls hl => ?_)
          refine lv_iload_n S.1 S.2.1 dX9_couldTake_81 rfl (lv_at hl 4 rfl) ?_
          refine lv_iload S.1 S.2.1 dX9_couldTake_82 (lv_at hl 0 rfl) ?_
          refine n_zeq S (tgt := 94) (by decide) dX9_couldTake_84 (by decide) (fun _ => ?_) (fun q => absurd q (by decide))
          refine lv_iconst (v := (nI 0)) S.1 S.2.1 dX9_couldTake_94 (by decide) ?_
          refine n_or S dX9_couldTake_95 ?_
          refine lv_istore_n (lv' := [(3, .int (nI (t ||| 0))), (5, .int (nI 0)), (0, .ref (q 0)), (1, .int (nI d)), (2, .int (nI e)), (4, .int (nI k))]) S.1 S.2.1 dX9_couldTake_96 rfl hl (by decide) rfl (fun ls hl => ?_)
          refine lv_iinc (v := (nI (k + 1))) (lv' := [(4, .int (nI (k + 1))), (3, .int (nI (t ||| 0))), (5, .int (nI 0)), (0, .ref (q 0)), (1, .int (nI d)), (2, .int (nI e))]) S.1 S.2.1 dX9_couldTake_97 hl (k := 5) rfl (nI_1 _) (by decide) rfl (fun ls hl => ?_)
          refine lv_goto (tgt := 30) S.1 S.2.1 dX9_couldTake_100 (by decide) ?_
          exact ih30 (t ||| 0) (k + 1) (by omega) (by rw [ht]; exact ctk_0 (by show (ent (wk k) d == 0 && _) = false; first | rw [c71, Bool.and_false] | (rw [show (ent (wk k) d == 0) = false from Bool.eq_false_iff.mpr (fun q => c51 (by simpa using q))]; rfl))) (by omega) _ _ hP hD hS ls (lv_sub hl [3, 4, 5, 1, 0] rfl)
        · refine lv_aload_n S.1 S.2.1 dX9_couldTake_54 rfl (lv_at hl 0 rfl) ?_
          refine lv_iload S.1 S.2.1 dX9_couldTake_55 (lv_at hl 4 rfl) ?_
          refine lv_aload_n S.1 S.2.1 dX9_couldTake_57 rfl (lv_at hl 0 rfl) ?_
          refine lv_iload S.1 S.2.1 dX9_couldTake_58 (lv_at hl 4 rfl) ?_
          refine rd_callV (rest := [.int (nI k), .ref (q 0)]) S (r_X9_weekOf l D cT q bd 0 n ro cl fb rn nd sk mo wk fx wi la da we k (hwf) (hz) (by omega)) gX9_couldTake_X9_weekOf rfl pd_X9_weekOf ⟨rfl, rfl, Nat.le_of_ble_eq_true rfl, Nat.le_of_ble_eq_true rfl⟩ hP hK (va_recv hK.1 hP (ci := 7) (q0 := 0) rfl rfl) hl rfl rfl (Nat.le_of_ble_eq_true rfl) ⟨Nat.zero_le _, Nat.zero_le _⟩ dX9_couldTake_60 ?_
          refine lv_iload_n S.1 S.2.1 dX9_couldTake_63 rfl (lv_at hl 1 rfl) ?_
          refine lv_iload_n S.1 S.2.1 dX9_couldTake_64 rfl (lv_at hl 2 rfl) ?_
          refine rd_callS (rest := [.int (nI k), .ref (q 0)]) S (r_X9_with l D cT (wk k) d e (by omega) (hd) (by omega)) gX9_couldTake_X9_with rfl pd_X9_with ⟨rfl, rfl, Nat.le_of_ble_eq_true rfl, Nat.le_of_ble_eq_true rfl⟩ (sx_P0 D _) hK hl rfl rfl (Nat.le_of_ble_eq_true rfl) ⟨Nat.zero_le _, Nat.zero_le _⟩ dX9_couldTake_65 ?_
          refine rd_callV (rest := []) S (r_X9_isPossible l D cT q bd 0 n ro cl fb rn nd sk mo wk fx wi la da we k (wset (wk k) d e) (hwf) (hz) (by omega) (wset_lt (by omega) hd (by omega))) gX9_couldTake_X9_isPossible rfl pd_X9_isPossible ⟨rfl, rfl, Nat.le_of_ble_eq_true rfl, Nat.le_of_ble_eq_true rfl⟩ hP hK (va_recv hK.1 hP (ci := 7) (q0 := 0) rfl rfl) hl rfl rfl (Nat.le_of_ble_eq_true rfl) ⟨Nat.zero_le _, Nat.zero_le _⟩ dX9_couldTake_68 ?_
          refine n_beq S (tgt := 78) dX9_couldTake_71 (by decide) (fun c71 => ?_) (fun c71 => ?_)
          · refine lv_iconst (v := (nI 0)) S.1 S.2.1 dX9_couldTake_78 (by decide) ?_
            refine lv_istore (lv' := [(5, .int (nI 0)), (0, .ref (q 0)), (1, .int (nI d)), (2, .int (nI e)), (3, .int (nI t)), (4, .int (nI k))]) S.1 S.2.1 dX9_couldTake_79 hl (by decide) rfl (fun ls hl => ?_)
            refine lv_iload_n S.1 S.2.1 dX9_couldTake_81 rfl (lv_at hl 4 rfl) ?_
            refine lv_iload S.1 S.2.1 dX9_couldTake_82 (lv_at hl 0 rfl) ?_
            refine n_zeq S (tgt := 94) (by decide) dX9_couldTake_84 (by decide) (fun _ => ?_) (fun q => absurd q (by decide))
            refine lv_iconst (v := (nI 0)) S.1 S.2.1 dX9_couldTake_94 (by decide) ?_
            refine n_or S dX9_couldTake_95 ?_
            refine lv_istore_n (lv' := [(3, .int (nI (t ||| 0))), (5, .int (nI 0)), (0, .ref (q 0)), (1, .int (nI d)), (2, .int (nI e)), (4, .int (nI k))]) S.1 S.2.1 dX9_couldTake_96 rfl hl (by decide) rfl (fun ls hl => ?_)
            refine lv_iinc (v := (nI (k + 1))) (lv' := [(4, .int (nI (k + 1))), (3, .int (nI (t ||| 0))), (5, .int (nI 0)), (0, .ref (q 0)), (1, .int (nI d)), (2, .int (nI e))]) S.1 S.2.1 dX9_couldTake_97 hl (k := 5) rfl (nI_1 _) (by decide) rfl (fun ls hl => ?_)
            refine lv_goto (tgt := 30) S.1 S.2.1 dX9_couldTake_100 (by decide) ?_
            exact ih30 (t ||| 0) (k + 1) (by omega) (by rw [ht]; exact ctk_0 (by show (ent (wk k) d == 0 && _) = false; first | rw [c71, Bool.and_false] | (rw [show (ent (wk k) d == 0) = false from Bool.eq_false_iff.mpr (fun q => c51 (by simpa using q))]; rfl))) (by omega) _ _ hP hD hS ls (lv_sub hl [3, 4, 5, 1, 0] rfl)
          · refine lv_iconst (v := (nI 1)) S.1 S.2.1 dX9_couldTake_74 (by decide) ?_
            refine lv_goto (tgt := 79) S.1 S.2.1 dX9_couldTake_75 (by decide) ?_
            refine lv_istore (lv' := [(5, .int (nI 1)), (0, .ref (q 0)), (1, .int (nI d)), (2, .int (nI e)), (3, .int (nI t)), (4, .int (nI k))]) S.1 S.2.1 dX9_couldTake_79 hl (by decide) rfl (fun ls hl => ?_)
            refine lv_iload_n S.1 S.2.1 dX9_couldTake_81 rfl (lv_at hl 4 rfl) ?_
            refine lv_iload S.1 S.2.1 dX9_couldTake_82 (lv_at hl 0 rfl) ?_
            refine n_zeq S (tgt := 94) (by decide) dX9_couldTake_84 (by decide) (fun q => absurd q (by decide)) (fun _ => ?_)
            refine lv_iconst (v := (nI 1)) S.1 S.2.1 dX9_couldTake_87 (by decide) ?_
            refine lv_iload S.1 S.2.1 dX9_couldTake_88 (lv_at hl 5 rfl) ?_
            refine n_shl S (by omega) dX9_couldTake_90 ?_
            refine lv_goto (tgt := 95) S.1 S.2.1 dX9_couldTake_91 (by decide) ?_
            refine n_or S dX9_couldTake_95 ?_
            refine lv_istore_n (lv' := [(3, .int (nI (t ||| (1 * 2 ^ k)))), (5, .int (nI 1)), (0, .ref (q 0)), (1, .int (nI d)), (2, .int (nI e)), (4, .int (nI k))]) S.1 S.2.1 dX9_couldTake_96 rfl hl (by decide) rfl (fun ls hl => ?_)
            refine lv_iinc (v := (nI (k + 1))) (lv' := [(4, .int (nI (k + 1))), (3, .int (nI (t ||| (1 * 2 ^ k)))), (5, .int (nI 1)), (0, .ref (q 0)), (1, .int (nI d)), (2, .int (nI e))]) S.1 S.2.1 dX9_couldTake_97 hl (k := 5) rfl (nI_1 _) (by decide) rfl (fun ls hl => ?_)
            refine lv_goto (tgt := 30) S.1 S.2.1 dX9_couldTake_100 (by decide) ?_
            exact ih30 (t ||| (1 * 2 ^ k)) (k + 1) (by omega) (by rw [ht]; exact ctk_1 (by show (ent (wk k) d == 0 && _) = true; rw [c51, c71]; rfl)) (by omega) _ _ hP hD hS ls (lv_sub hl [3, 4, 5, 1, 0] rfl)
  exact lp30 _ 0 0 (Nat.zero_le _) (rfl) (Nat.lt_succ_self _) _ _ hP hD hS ls (lv_sub hl [2, 3, 4, 1, 0] rfl)

theorem pd_X9_swapFor : yX9_swapFor.cls = RX9 ∧ yX9_swapFor.cls ≠ "java/lang/invoke/MethodHandle" ∧ yX9_swapFor.cls ≠ "java/lang/invoke/VarHandle" ∧ (parseMethodDescriptor yX9_swapFor.desc).map (fun d => d.parameters.length) = some 2 := by decide +kernel
theorem w_X9_swapFor_0 : Cond.fieldLink RX9 44 "CoverSheetModel" "thrown" "I" ∈ wsX9_swapFor := by decide +kernel
theorem in_X9_swapFor_X9 : ∀ w ∈ u_ws RX9 TX9 15, w ∈ wsX9_swapFor := by decide +kernel
set_option maxHeartbeats 4000000 in
set_option maxRecDepth 100000 in
theorem w_X9_swapFor_x0 (l : Launch) (D : va_G) (cT : ClassId × ClassId × ClassId) (sz : Nat) (q : Nat → Nat) (bd th n ro cl fb rn : Nat) (nd sk mo wk fx wi la da we : Nat → Nat) (x : Int32) (zd : Int32) (hwf : wfC n bd fb rn nd sk mo wk fx wi la da we) (hz : ∀ b, b < 4 → bit fb (4 * b) = 0) (hx : PX x n) : Met l yX9_swapFor wsX9_swapFor ({ frames := 2, cells := 0, slots := 0, locals := 43 } : Room) (va_Pc [.ref (q 0), .int x, .int zd] (wr_R D (TY cT) (mX cT q th n ro cl fb rn nd sk mo wk fx wi la da we) sz)) (wQi (fun (r_ : Int32) (_ : Unit) => r_ = (nI 0)) D (fun (_ : Unit) => mX cT q 1 n ro cl fb rn nd sk mo wk fx wi la da we) (va_A (mX cT q th n ro cl fb rn nd sk mo wk fx wi la da we) sz)) 0 0 (va_A (mX cT q th n ro cl fb rn nd sk mo wk fx wi la da we) sz) := by
  refine wr_start (cc := cX9_swapFor) (maxL := 8) (ret := (some .int)) RX9 ⟨by decide +kernel, rfl⟩ rfl (Nat.le_of_ble_eq_true rfl) ?_
  intro p0 e0 s0 m0 a0 b0 t0 c0 S hr hlocks hin hP hK hA hD hS ls hl
  generalize va_A (mX cT q th n ro cl fb rn nd sk mo wk fx wi la da we) sz = A at hA hD hS ⊢
  have hl : lv_has ls 8 [(0, .ref (q 0)), (1, .int x), (2, .int zd)] := hl
  obtain ⟨hn, hcl, hfb, hrn, hnd, hper⟩ := id hwf
  refine lv_aload_n S.1 S.2.1 dX9_swapFor_0 rfl (lv_at hl 0 rfl) ?_
  refine lv_iconst (v := (nI 0)) S.1 S.2.1 dX9_swapFor_1 (by decide) ?_
  refine w_put (C := RX9) (T := TX9) (N := 15) (v := .int (nI 0)) (ty := .int) S 0 7 0 in_X9_swapFor_X9 tyX9 tyX9_ok nmX9 hK hP hD hS rfl rfl (by decide) w_X9_swapFor_0 rfl (by decide +kernel) rfl rfl (Nat.le_of_ble_eq_true rfl) dX9_swapFor_2 (fun H locs hP hD hS => ?_)
  have hP : va_P D vwCl (mX cT q 0 n ro cl fb rn nd sk mo wk fx wi la da we) H := hP
  have hD : va_D A (mX cT q 0 n ro cl fb rn nd sk mo wk fx wi la da we) := hD
  refine lv_aload_n S.1 S.2.1 dX9_swapFor_5 rfl (lv_at hl 0 rfl) ?_
  refine lv_iload_n S.1 S.2.1 dX9_swapFor_6 rfl (lv_at hl 1 rfl) ?_
  refine rd_callV (rest := []) S (r_X9_isPerson_x l D cT q bd 0 n ro cl fb rn nd sk mo wk fx wi la da we x (hwf) (hz) (hx)) gX9_swapFor_X9_isPerson rfl pd_X9_isPerson ⟨rfl, rfl, Nat.le_of_ble_eq_true rfl, Nat.le_of_ble_eq_true rfl⟩ hP hK (va_recv hK.1 hP (ci := 7) (q0 := 0) rfl rfl) hl rfl rfl (Nat.le_of_ble_eq_true rfl) ⟨Nat.zero_le _, Nat.zero_le _⟩ dX9_swapFor_7 ?_
  refine n_beq S (tgt := 20) dX9_swapFor_10 (by decide) (fun _ => ?_) (fun q => absurd q (by decide))
  refine lv_aload_n S.1 S.2.1 dX9_swapFor_20 rfl (lv_at hl 0 rfl) ?_
  refine lv_iconst (v := (nI 1)) S.1 S.2.1 dX9_swapFor_21 (by decide) ?_
  refine wr_callVi (rest := []) S (w_X9_fails l D cT _ q bd 0 n ro cl fb rn nd sk mo wk fx wi la da we 1 (hwf) (hz)) gX9_swapFor_X9_fails rfl pd_X9_fails ⟨rfl, rfl, Nat.le_of_ble_eq_true rfl, Nat.le_of_ble_eq_true rfl⟩ hP hK hD hS hA (va_recv hK.1 hP (ci := 7) (q0 := 0) rfl rfl) hl rfl rfl (Nat.le_of_ble_eq_true rfl) ⟨Nat.zero_le _, Nat.zero_le _⟩ dX9_swapFor_22 (fun r_ u_ H locs hr_ hP hD hS => ?_)
  subst hr_
  have hP : va_P D vwCl (mX cT q 1 n ro cl fb rn nd sk mo wk fx wi la da we) H := hP
  have hD : va_D A (mX cT q 1 n ro cl fb rn nd sk mo wk fx wi la da we) := hD
  exact wr_iret S (()) hr rfl hlocks (rfl) (hP) (hD) hS dX9_swapFor_25

set_option maxHeartbeats 4000000 in
set_option maxRecDepth 100000 in
theorem w_X9_swapFor_x1 (l : Launch) (D : va_G) (cT : ClassId × ClassId × ClassId) (sz : Nat) (q : Nat → Nat) (bd th n ro cl fb rn : Nat) (nd sk mo wk fx wi la da we : Nat → Nat) (i : Nat) (x : Int32) (hwf : wfC n bd fb rn nd sk mo wk fx wi la da we) (hz : ∀ b, b < 4 → bit fb (4 * b) = 0) (hi : i < n) (hx : PX x 7) : Met l yX9_swapFor wsX9_swapFor ({ frames := 2, cells := 0, slots := 0, locals := 43 } : Room) (va_Pc [.ref (q 0), .int (nI i), .int x] (wr_R D (TY cT) (mX cT q th n ro cl fb rn nd sk mo wk fx wi la da we) sz)) (wQi (fun (r_ : Int32) (_ : Unit) => r_ = (nI 0)) D (fun (_ : Unit) => mX cT q 1 n ro cl fb rn nd sk mo wk fx wi la da we) (va_A (mX cT q th n ro cl fb rn nd sk mo wk fx wi la da we) sz)) 0 0 (va_A (mX cT q th n ro cl fb rn nd sk mo wk fx wi la da we) sz) := by
  refine wr_start (cc := cX9_swapFor) (maxL := 8) (ret := (some .int)) RX9 ⟨by decide +kernel, rfl⟩ rfl (Nat.le_of_ble_eq_true rfl) ?_
  intro p0 e0 s0 m0 a0 b0 t0 c0 S hr hlocks hin hP hK hA hD hS ls hl
  generalize va_A (mX cT q th n ro cl fb rn nd sk mo wk fx wi la da we) sz = A at hA hD hS ⊢
  have hl : lv_has ls 8 [(0, .ref (q 0)), (1, .int (nI i)), (2, .int x)] := hl
  obtain ⟨hn, hcl, hfb, hrn, hnd, hper⟩ := id hwf
  refine lv_aload_n S.1 S.2.1 dX9_swapFor_0 rfl (lv_at hl 0 rfl) ?_
  refine lv_iconst (v := (nI 0)) S.1 S.2.1 dX9_swapFor_1 (by decide) ?_
  refine w_put (C := RX9) (T := TX9) (N := 15) (v := .int (nI 0)) (ty := .int) S 0 7 0 in_X9_swapFor_X9 tyX9 tyX9_ok nmX9 hK hP hD hS rfl rfl (by decide) w_X9_swapFor_0 rfl (by decide +kernel) rfl rfl (Nat.le_of_ble_eq_true rfl) dX9_swapFor_2 (fun H locs hP hD hS => ?_)
  have hP : va_P D vwCl (mX cT q 0 n ro cl fb rn nd sk mo wk fx wi la da we) H := hP
  have hD : va_D A (mX cT q 0 n ro cl fb rn nd sk mo wk fx wi la da we) := hD
  refine lv_aload_n S.1 S.2.1 dX9_swapFor_5 rfl (lv_at hl 0 rfl) ?_
  refine lv_iload_n S.1 S.2.1 dX9_swapFor_6 rfl (lv_at hl 1 rfl) ?_
  refine rd_callV (rest := []) S (r_X9_isPerson l D cT q bd 0 n ro cl fb rn nd sk mo wk fx wi la da we i (hwf) (hz) (by omega)) gX9_swapFor_X9_isPerson rfl pd_X9_isPerson ⟨rfl, rfl, Nat.le_of_ble_eq_true rfl, Nat.le_of_ble_eq_true rfl⟩ hP hK (va_recv hK.1 hP (ci := 7) (q0 := 0) rfl rfl) hl rfl rfl (Nat.le_of_ble_eq_true rfl) ⟨Nat.zero_le _, Nat.zero_le _⟩ dX9_swapFor_7 ?_
  refine n_beq S (tgt := 20) dX9_swapFor_10 (by decide) (fun q => absurd q (by decide)) (fun _ => ?_)
  refine lv_iload_n S.1 S.2.1 dX9_swapFor_13 rfl (lv_at hl 2 rfl) ?_
  refine rd_callS (rest := []) S (r_X9_isDay_x l D cT x (hx)) gX9_swapFor_X9_isDay rfl pd_X9_isDay ⟨rfl, rfl, Nat.le_of_ble_eq_true rfl, Nat.le_of_ble_eq_true rfl⟩ (sx_P0 D _) hK hl rfl rfl (Nat.le_of_ble_eq_true rfl) ⟨Nat.zero_le _, Nat.zero_le _⟩ dX9_swapFor_14 ?_
  refine n_bne S (tgt := 26) dX9_swapFor_17 (by decide) (fun q => absurd q (by decide)) (fun _ => ?_)
  refine lv_aload_n S.1 S.2.1 dX9_swapFor_20 rfl (lv_at hl 0 rfl) ?_
  refine lv_iconst (v := (nI 1)) S.1 S.2.1 dX9_swapFor_21 (by decide) ?_
  refine wr_callVi (rest := []) S (w_X9_fails l D cT _ q bd 0 n ro cl fb rn nd sk mo wk fx wi la da we 1 (hwf) (hz)) gX9_swapFor_X9_fails rfl pd_X9_fails ⟨rfl, rfl, Nat.le_of_ble_eq_true rfl, Nat.le_of_ble_eq_true rfl⟩ hP hK hD hS hA (va_recv hK.1 hP (ci := 7) (q0 := 0) rfl rfl) hl rfl rfl (Nat.le_of_ble_eq_true rfl) ⟨Nat.zero_le _, Nat.zero_le _⟩ dX9_swapFor_22 (fun r_ u_ H locs hr_ hP hD hS => ?_)
  subst hr_
  have hP : va_P D vwCl (mX cT q 1 n ro cl fb rn nd sk mo wk fx wi la da we) H := hP
  have hD : va_D A (mX cT q 1 n ro cl fb rn nd sk mo wk fx wi la da we) := hD
  exact wr_iret S (()) hr rfl hlocks (rfl) (hP) (hD) hS dX9_swapFor_25

theorem w_X9_swapFor_1 : Cond.fieldLink RX9 47 "CoverSheetModel" "many" "I" ∈ wsX9_swapFor := by decide +kernel
theorem w_X9_swapFor_2 : Cond.fieldLink RX9 26 "CoverSheetModel" "entries" "[I" ∈ wsX9_swapFor := by decide +kernel
set_option maxHeartbeats 4000000 in
set_option maxRecDepth 100000 in
theorem w_X9_swapFor (l : Launch) (D : va_G) (cT : ClassId × ClassId × ClassId) (sz : Nat) (q : Nat → Nat) (bd th n ro cl fb rn : Nat) (nd sk mo wk fx wi la da we : Nat → Nat) (i : Nat) (d : Nat) (hwf : wfC n bd fb rn nd sk mo wk fx wi la da we) (hz : ∀ b, b < 4 → bit fb (4 * b) = 0) (hi : i < n) (hd : d < 7) : Met l yX9_swapFor wsX9_swapFor ({ frames := 4, cells := 0, slots := 0, locals := 96 } : Room) (va_Pc [.ref (q 0), .int (nI i), .int (nI d)] (wr_R D (TY cT) (mX cT q th n ro cl fb rn nd sk mo wk fx wi la da we) sz)) (wQi (fun (r_ : Int32) (_ : Unit) => r_ = (nI (swf (swc sk mo wk fx la da fb rn i d) (fun j => shc (wk j) 0 7) n).1 - nI 1)) D (fun (_ : Unit) => mX cT q 0 n ro cl fb rn nd sk mo wk fx wi la da we) (va_A (mX cT q th n ro cl fb rn nd sk mo wk fx wi la da we) sz)) 0 0 (va_A (mX cT q th n ro cl fb rn nd sk mo wk fx wi la da we) sz) := by
  refine wr_start (cc := cX9_swapFor) (maxL := 8) (ret := (some .int)) RX9 ⟨by decide +kernel, rfl⟩ rfl (Nat.le_of_ble_eq_true rfl) ?_
  intro p0 e0 s0 m0 a0 b0 t0 c0 S hr hlocks hin hP hK hA hD hS ls hl
  generalize va_A (mX cT q th n ro cl fb rn nd sk mo wk fx wi la da we) sz = A at hA hD hS ⊢
  have hl : lv_has ls 8 [(0, .ref (q 0)), (1, .int (nI i)), (2, .int (nI d))] := hl
  obtain ⟨hn, hcl, hfb, hrn, hnd, hper⟩ := id hwf
  have hpi := hper i
  refine lv_aload_n S.1 S.2.1 dX9_swapFor_0 rfl (lv_at hl 0 rfl) ?_
  refine lv_iconst (v := (nI 0)) S.1 S.2.1 dX9_swapFor_1 (by decide) ?_
  refine w_put (C := RX9) (T := TX9) (N := 15) (v := .int (nI 0)) (ty := .int) S 0 7 0 in_X9_swapFor_X9 tyX9 tyX9_ok nmX9 hK hP hD hS rfl rfl (by decide) w_X9_swapFor_0 rfl (by decide +kernel) rfl rfl (Nat.le_of_ble_eq_true rfl) dX9_swapFor_2 (fun H locs hP hD hS => ?_)
  have hP : va_P D vwCl (mX cT q 0 n ro cl fb rn nd sk mo wk fx wi la da we) H := hP
  have hD : va_D A (mX cT q 0 n ro cl fb rn nd sk mo wk fx wi la da we) := hD
  refine lv_aload_n S.1 S.2.1 dX9_swapFor_5 rfl (lv_at hl 0 rfl) ?_
  refine lv_iload_n S.1 S.2.1 dX9_swapFor_6 rfl (lv_at hl 1 rfl) ?_
  refine rd_callV (rest := []) S (r_X9_isPerson l D cT q bd 0 n ro cl fb rn nd sk mo wk fx wi la da we i (hwf) (hz) (by omega)) gX9_swapFor_X9_isPerson rfl pd_X9_isPerson ⟨rfl, rfl, Nat.le_of_ble_eq_true rfl, Nat.le_of_ble_eq_true rfl⟩ hP hK (va_recv hK.1 hP (ci := 7) (q0 := 0) rfl rfl) hl rfl rfl (Nat.le_of_ble_eq_true rfl) ⟨Nat.zero_le _, Nat.zero_le _⟩ dX9_swapFor_7 ?_
  refine n_beq S (tgt := 20) dX9_swapFor_10 (by decide) (fun q => absurd q (by decide)) (fun _ => ?_)
  refine lv_iload_n S.1 S.2.1 dX9_swapFor_13 rfl (lv_at hl 2 rfl) ?_
  refine rd_callS (rest := []) S (r_X9_isDay l D cT d (by omega)) gX9_swapFor_X9_isDay rfl pd_X9_isDay ⟨rfl, rfl, Nat.le_of_ble_eq_true rfl, Nat.le_of_ble_eq_true rfl⟩ (sx_P0 D _) hK hl rfl rfl (Nat.le_of_ble_eq_true rfl) ⟨Nat.zero_le _, Nat.zero_le _⟩ dX9_swapFor_14 ?_
  refine n_bne S (tgt := 26) dX9_swapFor_17 (by decide) (fun _ => ?_) (fun q => absurd q (by decide))
  refine lv_iconst (v := (-1)) S.1 S.2.1 dX9_swapFor_26 (by decide) ?_
  refine n_top (show (-1 : Int32) = nI 0 - nI 1 from by decide) ?_
  refine lv_istore_n (lv' := [(3, .int (nI 0 - nI 1)), (0, .ref (q 0)), (1, .int (nI i)), (2, .int (nI d))]) S.1 S.2.1 dX9_swapFor_27 rfl hl (by decide) rfl (fun ls hl => ?_)
  refine lv_bipush (v := (nI 8)) S.1 S.2.1 dX9_swapFor_28 (by decide) ?_
  refine lv_istore (lv' := [(4, .int (nI 8)), (3, .int (nI 0 - nI 1)), (0, .ref (q 0)), (1, .int (nI i)), (2, .int (nI d))]) S.1 S.2.1 dX9_swapFor_30 hl (by decide) rfl (fun ls hl => ?_)
  refine lv_iconst (v := (nI 0)) S.1 S.2.1 dX9_swapFor_32 (by decide) ?_
  refine lv_istore (lv' := [(5, .int (nI 0)), (4, .int (nI 8)), (3, .int (nI 0 - nI 1)), (0, .ref (q 0)), (1, .int (nI i)), (2, .int (nI d))]) S.1 S.2.1 dX9_swapFor_33 hl (by decide) rfl (fun ls hl => ?_)
  have lp35 : ∀ (fu : Nat) (f : Nat) (w : Nat) (k : Nat), (k ≤ n) → (f = (swf (swc sk mo wk fx la da fb rn i d) (fun j => shc (wk j) 0 7) k).1) → (w = (swf (swc sk mo wk fx la da fb rn i d) (fun j => shc (wk j) 0 7) k).2) → (n - k) < fu → ∀ (H : Heap) (locs : List Loc), va_P D vwCl (mX cT q 0 n ro cl fb rn nd sk mo wk fx wi la da we) H → va_D A (mX cT q 0 n ro cl fb rn nd sk mo wk fx wi la da we) → va_S A s0.heap H locs → ∀ ls : Array Slot, lv_has ls 8 [(0, .ref (q 0)), (1, .int (nI i)), (2, .int (nI d)), (3, .int (nI f - nI 1)), (4, .int (nI w)), (5, .int (nI k))] → W p0 l e0 ({ frames := 4, cells := 0, slots := 0, locals := 96 } : Room) s0 m0 a0 b0 t0 c0 H locs 0 0 (MQ b0 (wQi (fun (r_ : Int32) (_ : Unit) => r_ = (nI (swf (swc sk mo wk fx la da fb rn i d) (fun j => shc (wk j) 0 7) n).1 - nI 1)) D (fun (_ : Unit) => mX cT q 0 n ro cl fb rn nd sk mo wk fx wi la da we) A) a0 s0 0 0 A) (F0 m0 35 ls []) := by
    intro fu
    induction fu with
    | zero =>
      intro f w k h2 hfo hw hm
      exact absurd hm (Nat.not_lt_zero _)
    | succ fu ih35 =>
      intro f w k h2 hfo hw hm H locs hP hD hS ls hl
      have hpk := hper k
      have hsl := swf_le (can := swc sk mo wk fx la da fb rn i d) (its := fun j => shc (wk j) 0 7) k
      have hshl := shc_le (wk k) 0 7
      refine lv_iload S.1 S.2.1 dX9_swapFor_35 (lv_at hl 5 rfl) ?_
      refine lv_aload_n S.1 S.2.1 dX9_swapFor_37 rfl (lv_at hl 0 rfl) ?_
      refine g_get (C := RX9) (T := TX9) (N := 15) (v := .int (nI n)) S 0 7 1 in_X9_swapFor_X9 hK hP rfl rfl (by decide) w_X9_swapFor_1 rfl dX9_swapFor_38 ?_
      refine n_cge S (tgt := 145) (by omega) dX9_swapFor_41 (by decide) (fun c41 => ?_) (fun c41 => ?_)
      · refine lv_iload_n S.1 S.2.1 dX9_swapFor_145 rfl (lv_at hl 3 rfl) ?_
        exact wr_iret S (()) hr rfl hlocks (by rw [hfo, show k = n by omega]) (hP) (hD) hS dX9_swapFor_146
      · refine lv_aload_n S.1 S.2.1 dX9_swapFor_44 rfl (lv_at hl 0 rfl) ?_
        refine g_get (C := RX9) (T := TX9) (N := 15) (v := .ref (q 5)) S 0 7 9 in_X9_swapFor_X9 hK hP rfl rfl (by decide) w_X9_swapFor_2 rfl dX9_swapFor_45 ?_
        refine lv_bipush (v := (nI 7)) S.1 S.2.1 dX9_swapFor_48 (by decide) ?_
        refine lv_iload_n S.1 S.2.1 dX9_swapFor_50 rfl (lv_at hl 1 rfl) ?_
        refine n_mul S dX9_swapFor_51 ?_
        refine lv_iload_n S.1 S.2.1 dX9_swapFor_52 rfl (lv_at hl 2 rfl) ?_
        refine n_add S dX9_swapFor_53 ?_
        refine g_iald S 5 hK hP rfl (by omega) dX9_swapFor_54 ?_
        refine n_top (show (nI ((enf wk) ((7 * i) + d))) = (nI (ent (wk i) d)) from congrArg nI (en_at hd)) ?_
        refine lv_aload_n S.1 S.2.1 dX9_swapFor_55 rfl (lv_at hl 0 rfl) ?_
        refine g_get (C := RX9) (T := TX9) (N := 15) (v := .ref (q 5)) S 0 7 9 in_X9_swapFor_X9 hK hP rfl rfl (by decide) w_X9_swapFor_2 rfl dX9_swapFor_56 ?_
        refine lv_bipush (v := (nI 7)) S.1 S.2.1 dX9_swapFor_59 (by decide) ?_
        refine lv_iload S.1 S.2.1 dX9_swapFor_61 (lv_at hl 5 rfl) ?_
        refine n_mul S dX9_swapFor_63 ?_
        refine lv_iload_n S.1 S.2.1 dX9_swapFor_64 rfl (lv_at hl 2 rfl) ?_
        refine n_add S dX9_swapFor_65 ?_
        refine g_iald S 5 hK hP rfl (by omega) dX9_swapFor_66 ?_
        refine n_top (show (nI ((enf wk) ((7 * k) + d))) = (nI (ent (wk k) d)) from congrArg nI (en_at hd)) ?_
        refine n_ceq S (tgt := 85) (⟨Nat.lt_trans (ent_lt _ _) (by decide), Nat.lt_trans (ent_lt _ _) (by decide)⟩) dX9_swapFor_67 (by decide) (fun c67 => ?_) (fun c67 => ?_)
        · refine lv_iconst (v := (nI 0)) S.1 S.2.1 dX9_swapFor_85 (by decide) ?_
          refine lv_istore (lv' := [(6, .int (nI 0)), (0, .ref (q 0)), (1, .int (nI i)), (2, .int (nI d)), (3, .int (nI f - nI 1)), (4, .int (nI w)), (5, .int (nI k))]) S.1 S.2.1 dX9_swapFor_86 hl (by decide) rfl (fun ls hl => ?_)
          refine lv_aload_n S.1 S.2.1 dX9_swapFor_88 rfl (lv_at hl 1 rfl) ?_
          refine lv_iload S.1 S.2.1 dX9_swapFor_89 (lv_at hl 6 rfl) ?_
          refine rd_callV (rest := []) S (r_X9_weekOf l D cT q bd 0 n ro cl fb rn nd sk mo wk fx wi la da we k (hwf) (hz) (by omega)) gX9_swapFor_X9_weekOf rfl pd_X9_weekOf ⟨rfl, rfl, Nat.le_of_ble_eq_true rfl, Nat.le_of_ble_eq_true rfl⟩ hP hK (va_recv hK.1 hP (ci := 7) (q0 := 0) rfl rfl) hl rfl rfl (Nat.le_of_ble_eq_true rfl) ⟨Nat.zero_le _, Nat.zero_le _⟩ dX9_swapFor_91 ?_
          refine rd_callS (rest := []) S (r_X9_countShifts l D cT (wk k) (by omega)) gX9_swapFor_X9_countShifts rfl pd_X9_countShifts ⟨rfl, rfl, Nat.le_of_ble_eq_true rfl, Nat.le_of_ble_eq_true rfl⟩ (sx_P0 D _) hK hl rfl rfl (Nat.le_of_ble_eq_true rfl) ⟨Nat.zero_le _, Nat.zero_le _⟩ dX9_swapFor_94 ?_
          refine lv_istore (lv' := [(7, .int (nI (shc (wk k) 0 7))), (6, .int (nI 0)), (0, .ref (q 0)), (1, .int (nI i)), (2, .int (nI d)), (3, .int (nI f - nI 1)), (4, .int (nI w)), (5, .int (nI k))]) S.1 S.2.1 dX9_swapFor_97 hl (by decide) rfl (fun ls hl => ?_)
          refine lv_iload S.1 S.2.1 dX9_swapFor_99 (lv_at hl 1 rfl) ?_
          refine n_zeq S (tgt := 116) (by decide) dX9_swapFor_101 (by decide) (fun _ => ?_) (fun q => absurd q (by decide))
          refine lv_iload_n S.1 S.2.1 dX9_swapFor_116 rfl (lv_at hl 5 rfl) ?_
          refine lv_istore_n (lv' := [(3, .int (nI f - nI 1)), (7, .int (nI (shc (wk k) 0 7))), (6, .int (nI 0)), (0, .ref (q 0)), (1, .int (nI i)), (2, .int (nI d)), (4, .int (nI w)), (5, .int (nI k))]) S.1 S.2.1 dX9_swapFor_117 rfl hl (by decide) rfl (fun ls hl => ?_)
          refine lv_iload S.1 S.2.1 dX9_swapFor_118 (lv_at hl 2 rfl) ?_
          refine n_zeq S (tgt := 135) (by decide) dX9_swapFor_120 (by decide) (fun _ => ?_) (fun q => absurd q (by decide))
          refine lv_iload S.1 S.2.1 dX9_swapFor_135 (lv_at hl 6 rfl) ?_
          refine lv_istore (lv' := [(4, .int (nI w)), (3, .int (nI f - nI 1)), (7, .int (nI (shc (wk k) 0 7))), (6, .int (nI 0)), (0, .ref (q 0)), (1, .int (nI i)), (2, .int (nI d)), (5, .int (nI k))]) S.1 S.2.1 dX9_swapFor_137 hl (by decide) rfl (fun ls hl => ?_)
          refine lv_iinc (v := (nI (k + 1))) (lv' := [(5, .int (nI (k + 1))), (4, .int (nI w)), (3, .int (nI f - nI 1)), (7, .int (nI (shc (wk k) 0 7))), (6, .int (nI 0)), (0, .ref (q 0)), (1, .int (nI i)), (2, .int (nI d))]) S.1 S.2.1 dX9_swapFor_139 hl (k := 7) rfl (nI_1 _) (by decide) rfl (fun ls hl => ?_)
          refine lv_goto (tgt := 35) S.1 S.2.1 dX9_swapFor_142 (by decide) ?_
          exact ih35 f w (k + 1) (by omega) (by rw [swf_n (Or.inl (swc_f1 c67))]; exact hfo) (by rw [swf_n (Or.inl (swc_f1 c67))]; exact hw) (by omega) _ _ hP hD hS ls (lv_sub hl [5, 6, 7, 2, 1, 0] rfl)
        · refine lv_aload_n S.1 S.2.1 dX9_swapFor_70 rfl (lv_at hl 0 rfl) ?_
          refine lv_iload_n S.1 S.2.1 dX9_swapFor_71 rfl (lv_at hl 1 rfl) ?_
          refine lv_iload S.1 S.2.1 dX9_swapFor_72 (lv_at hl 5 rfl) ?_
          refine lv_iload_n S.1 S.2.1 dX9_swapFor_74 rfl (lv_at hl 2 rfl) ?_
          refine rd_callV (rest := []) S (r_X9_canSwap l D cT q bd 0 n ro cl fb rn nd sk mo wk fx wi la da we i k d (hwf) (hz) (by omega) (by omega) (hd)) gX9_swapFor_X9_canSwap rfl pd_X9_canSwap ⟨rfl, rfl, Nat.le_of_ble_eq_true rfl, Nat.le_of_ble_eq_true rfl⟩ hP hK (va_recv hK.1 hP (ci := 7) (q0 := 0) rfl rfl) hl rfl rfl (Nat.le_of_ble_eq_true rfl) ⟨Nat.zero_le _, Nat.zero_le _⟩ dX9_swapFor_75 ?_
          refine n_beq S (tgt := 85) dX9_swapFor_78 (by decide) (fun c78 => ?_) (fun c78 => ?_)
          · refine lv_iconst (v := (nI 0)) S.1 S.2.1 dX9_swapFor_85 (by decide) ?_
            refine lv_istore (lv' := [(6, .int (nI 0)), (0, .ref (q 0)), (1, .int (nI i)), (2, .int (nI d)), (3, .int (nI f - nI 1)), (4, .int (nI w)), (5, .int (nI k))]) S.1 S.2.1 dX9_swapFor_86 hl (by decide) rfl (fun ls hl => ?_)
            refine lv_aload_n S.1 S.2.1 dX9_swapFor_88 rfl (lv_at hl 1 rfl) ?_
            refine lv_iload S.1 S.2.1 dX9_swapFor_89 (lv_at hl 6 rfl) ?_
            refine rd_callV (rest := []) S (r_X9_weekOf l D cT q bd 0 n ro cl fb rn nd sk mo wk fx wi la da we k (hwf) (hz) (by omega)) gX9_swapFor_X9_weekOf rfl pd_X9_weekOf ⟨rfl, rfl, Nat.le_of_ble_eq_true rfl, Nat.le_of_ble_eq_true rfl⟩ hP hK (va_recv hK.1 hP (ci := 7) (q0 := 0) rfl rfl) hl rfl rfl (Nat.le_of_ble_eq_true rfl) ⟨Nat.zero_le _, Nat.zero_le _⟩ dX9_swapFor_91 ?_
            refine rd_callS (rest := []) S (r_X9_countShifts l D cT (wk k) (by omega)) gX9_swapFor_X9_countShifts rfl pd_X9_countShifts ⟨rfl, rfl, Nat.le_of_ble_eq_true rfl, Nat.le_of_ble_eq_true rfl⟩ (sx_P0 D _) hK hl rfl rfl (Nat.le_of_ble_eq_true rfl) ⟨Nat.zero_le _, Nat.zero_le _⟩ dX9_swapFor_94 ?_
            refine lv_istore (lv' := [(7, .int (nI (shc (wk k) 0 7))), (6, .int (nI 0)), (0, .ref (q 0)), (1, .int (nI i)), (2, .int (nI d)), (3, .int (nI f - nI 1)), (4, .int (nI w)), (5, .int (nI k))]) S.1 S.2.1 dX9_swapFor_97 hl (by decide) rfl (fun ls hl => ?_)
            refine lv_iload S.1 S.2.1 dX9_swapFor_99 (lv_at hl 1 rfl) ?_
            refine n_zeq S (tgt := 116) (by decide) dX9_swapFor_101 (by decide) (fun _ => ?_) (fun q => absurd q (by decide))
            refine lv_iload_n S.1 S.2.1 dX9_swapFor_116 rfl (lv_at hl 5 rfl) ?_
            refine lv_istore_n (lv' := [(3, .int (nI f - nI 1)), (7, .int (nI (shc (wk k) 0 7))), (6, .int (nI 0)), (0, .ref (q 0)), (1, .int (nI i)), (2, .int (nI d)), (4, .int (nI w)), (5, .int (nI k))]) S.1 S.2.1 dX9_swapFor_117 rfl hl (by decide) rfl (fun ls hl => ?_)
            refine lv_iload S.1 S.2.1 dX9_swapFor_118 (lv_at hl 2 rfl) ?_
            refine n_zeq S (tgt := 135) (by decide) dX9_swapFor_120 (by decide) (fun _ => ?_) (fun q => absurd q (by decide))
            refine lv_iload S.1 S.2.1 dX9_swapFor_135 (lv_at hl 6 rfl) ?_
            refine lv_istore (lv' := [(4, .int (nI w)), (3, .int (nI f - nI 1)), (7, .int (nI (shc (wk k) 0 7))), (6, .int (nI 0)), (0, .ref (q 0)), (1, .int (nI i)), (2, .int (nI d)), (5, .int (nI k))]) S.1 S.2.1 dX9_swapFor_137 hl (by decide) rfl (fun ls hl => ?_)
            refine lv_iinc (v := (nI (k + 1))) (lv' := [(5, .int (nI (k + 1))), (4, .int (nI w)), (3, .int (nI f - nI 1)), (7, .int (nI (shc (wk k) 0 7))), (6, .int (nI 0)), (0, .ref (q 0)), (1, .int (nI i)), (2, .int (nI d))]) S.1 S.2.1 dX9_swapFor_139 hl (k := 7) rfl (nI_1 _) (by decide) rfl (fun ls hl => ?_)
            refine lv_goto (tgt := 35) S.1 S.2.1 dX9_swapFor_142 (by decide) ?_
            exact ih35 f w (k + 1) (by omega) (by rw [swf_n (Or.inl (swc_f2 c78))]; exact hfo) (by rw [swf_n (Or.inl (swc_f2 c78))]; exact hw) (by omega) _ _ hP hD hS ls (lv_sub hl [5, 6, 7, 2, 1, 0] rfl)
          · refine lv_iconst (v := (nI 1)) S.1 S.2.1 dX9_swapFor_81 (by decide) ?_
            refine lv_goto (tgt := 86) S.1 S.2.1 dX9_swapFor_82 (by decide) ?_
            refine lv_istore (lv' := [(6, .int (nI 1)), (0, .ref (q 0)), (1, .int (nI i)), (2, .int (nI d)), (3, .int (nI f - nI 1)), (4, .int (nI w)), (5, .int (nI k))]) S.1 S.2.1 dX9_swapFor_86 hl (by decide) rfl (fun ls hl => ?_)
            refine lv_aload_n S.1 S.2.1 dX9_swapFor_88 rfl (lv_at hl 1 rfl) ?_
            refine lv_iload S.1 S.2.1 dX9_swapFor_89 (lv_at hl 6 rfl) ?_
            refine rd_callV (rest := []) S (r_X9_weekOf l D cT q bd 0 n ro cl fb rn nd sk mo wk fx wi la da we k (hwf) (hz) (by omega)) gX9_swapFor_X9_weekOf rfl pd_X9_weekOf ⟨rfl, rfl, Nat.le_of_ble_eq_true rfl, Nat.le_of_ble_eq_true rfl⟩ hP hK (va_recv hK.1 hP (ci := 7) (q0 := 0) rfl rfl) hl rfl rfl (Nat.le_of_ble_eq_true rfl) ⟨Nat.zero_le _, Nat.zero_le _⟩ dX9_swapFor_91 ?_
            refine rd_callS (rest := []) S (r_X9_countShifts l D cT (wk k) (by omega)) gX9_swapFor_X9_countShifts rfl pd_X9_countShifts ⟨rfl, rfl, Nat.le_of_ble_eq_true rfl, Nat.le_of_ble_eq_true rfl⟩ (sx_P0 D _) hK hl rfl rfl (Nat.le_of_ble_eq_true rfl) ⟨Nat.zero_le _, Nat.zero_le _⟩ dX9_swapFor_94 ?_
            refine lv_istore (lv' := [(7, .int (nI (shc (wk k) 0 7))), (6, .int (nI 1)), (0, .ref (q 0)), (1, .int (nI i)), (2, .int (nI d)), (3, .int (nI f - nI 1)), (4, .int (nI w)), (5, .int (nI k))]) S.1 S.2.1 dX9_swapFor_97 hl (by decide) rfl (fun ls hl => ?_)
            refine lv_iload S.1 S.2.1 dX9_swapFor_99 (lv_at hl 1 rfl) ?_
            refine n_zeq S (tgt := 116) (by decide) dX9_swapFor_101 (by decide) (fun q => absurd q (by decide)) (fun _ => ?_)
            refine lv_iload S.1 S.2.1 dX9_swapFor_104 (lv_at hl 0 rfl) ?_
            refine lv_iload S.1 S.2.1 dX9_swapFor_106 (lv_at hl 6 rfl) ?_
            refine n_cge S (tgt := 116) (by omega) dX9_swapFor_108 (by decide) (fun c108 => ?_) (fun c108 => ?_)
            · refine lv_iload_n S.1 S.2.1 dX9_swapFor_116 rfl (lv_at hl 5 rfl) ?_
              refine lv_istore_n (lv' := [(3, .int (nI f - nI 1)), (7, .int (nI (shc (wk k) 0 7))), (6, .int (nI 1)), (0, .ref (q 0)), (1, .int (nI i)), (2, .int (nI d)), (4, .int (nI w)), (5, .int (nI k))]) S.1 S.2.1 dX9_swapFor_117 rfl hl (by decide) rfl (fun ls hl => ?_)
              refine lv_iload S.1 S.2.1 dX9_swapFor_118 (lv_at hl 2 rfl) ?_
              refine n_zeq S (tgt := 135) (by decide) dX9_swapFor_120 (by decide) (fun q => absurd q (by decide)) (fun _ => ?_)
              refine lv_iload S.1 S.2.1 dX9_swapFor_123 (lv_at hl 1 rfl) ?_
              refine lv_iload S.1 S.2.1 dX9_swapFor_125 (lv_at hl 6 rfl) ?_
              refine n_cge S (tgt := 135) (by omega) dX9_swapFor_127 (by decide) (fun c127 => ?_) (fun c127 => ?_)
              · refine lv_iload S.1 S.2.1 dX9_swapFor_135 (lv_at hl 6 rfl) ?_
                refine lv_istore (lv' := [(4, .int (nI w)), (3, .int (nI f - nI 1)), (7, .int (nI (shc (wk k) 0 7))), (6, .int (nI 1)), (0, .ref (q 0)), (1, .int (nI i)), (2, .int (nI d)), (5, .int (nI k))]) S.1 S.2.1 dX9_swapFor_137 hl (by decide) rfl (fun ls hl => ?_)
                refine lv_iinc (v := (nI (k + 1))) (lv' := [(5, .int (nI (k + 1))), (4, .int (nI w)), (3, .int (nI f - nI 1)), (7, .int (nI (shc (wk k) 0 7))), (6, .int (nI 1)), (0, .ref (q 0)), (1, .int (nI i)), (2, .int (nI d))]) S.1 S.2.1 dX9_swapFor_139 hl (k := 7) rfl (nI_1 _) (by decide) rfl (fun ls hl => ?_)
                refine lv_goto (tgt := 35) S.1 S.2.1 dX9_swapFor_142 (by decide) ?_
                exact ih35 f w (k + 1) (by omega) (by rw [swf_n (Or.inr (by rw [← hw]; exact c108))]; exact hfo) (by rw [swf_n (Or.inr (by rw [← hw]; exact c108))]; exact hw) (by omega) _ _ hP hD hS ls (lv_sub hl [5, 6, 7, 2, 1, 0] rfl)
              · refine lv_iload S.1 S.2.1 dX9_swapFor_130 (lv_at hl 1 rfl) ?_
                refine lv_goto (tgt := 137) S.1 S.2.1 dX9_swapFor_132 (by decide) ?_
                refine lv_istore (lv' := [(4, .int (nI (shc (wk k) 0 7))), (3, .int (nI f - nI 1)), (7, .int (nI (shc (wk k) 0 7))), (6, .int (nI 1)), (0, .ref (q 0)), (1, .int (nI i)), (2, .int (nI d)), (5, .int (nI k))]) S.1 S.2.1 dX9_swapFor_137 hl (by decide) rfl (fun ls hl => ?_)
                refine lv_iinc (v := (nI (k + 1))) (lv' := [(5, .int (nI (k + 1))), (4, .int (nI (shc (wk k) 0 7))), (3, .int (nI f - nI 1)), (7, .int (nI (shc (wk k) 0 7))), (6, .int (nI 1)), (0, .ref (q 0)), (1, .int (nI i)), (2, .int (nI d))]) S.1 S.2.1 dX9_swapFor_139 hl (k := 7) rfl (nI_1 _) (by decide) rfl (fun ls hl => ?_)
                refine lv_goto (tgt := 35) S.1 S.2.1 dX9_swapFor_142 (by decide) ?_
                exact ih35 f (shc (wk k) 0 7) (k + 1) (by omega) (by omega) (by omega) (by omega) _ _ hP hD hS ls (lv_sub hl [5, 6, 7, 2, 1, 0] rfl)
            · refine lv_iload S.1 S.2.1 dX9_swapFor_111 (lv_at hl 7 rfl) ?_
              refine lv_goto (tgt := 117) S.1 S.2.1 dX9_swapFor_113 (by decide) ?_
              refine n_top (show (nI k) = nI (k + 1) - nI 1 from by rw [sx_sub (by omega), Nat.add_sub_cancel]) ?_
              refine lv_istore_n (lv' := [(3, .int (nI (k + 1) - nI 1)), (7, .int (nI (shc (wk k) 0 7))), (6, .int (nI 1)), (0, .ref (q 0)), (1, .int (nI i)), (2, .int (nI d)), (4, .int (nI w)), (5, .int (nI k))]) S.1 S.2.1 dX9_swapFor_117 rfl hl (by decide) rfl (fun ls hl => ?_)
              refine lv_iload S.1 S.2.1 dX9_swapFor_118 (lv_at hl 2 rfl) ?_
              refine n_zeq S (tgt := 135) (by decide) dX9_swapFor_120 (by decide) (fun q => absurd q (by decide)) (fun _ => ?_)
              refine lv_iload S.1 S.2.1 dX9_swapFor_123 (lv_at hl 1 rfl) ?_
              refine lv_iload S.1 S.2.1 dX9_swapFor_125 (lv_at hl 6 rfl) ?_
              refine n_cge S (tgt := 135) (by omega) dX9_swapFor_127 (by decide) (fun c127 => ?_) (fun c127 => ?_)
              · refine lv_iload S.1 S.2.1 dX9_swapFor_135 (lv_at hl 6 rfl) ?_
                refine lv_istore (lv' := [(4, .int (nI w)), (3, .int (nI (k + 1) - nI 1)), (7, .int (nI (shc (wk k) 0 7))), (6, .int (nI 1)), (0, .ref (q 0)), (1, .int (nI i)), (2, .int (nI d)), (5, .int (nI k))]) S.1 S.2.1 dX9_swapFor_137 hl (by decide) rfl (fun ls hl => ?_)
                refine lv_iinc (v := (nI (k + 1))) (lv' := [(5, .int (nI (k + 1))), (4, .int (nI w)), (3, .int (nI (k + 1) - nI 1)), (7, .int (nI (shc (wk k) 0 7))), (6, .int (nI 1)), (0, .ref (q 0)), (1, .int (nI i)), (2, .int (nI d))]) S.1 S.2.1 dX9_swapFor_139 hl (k := 7) rfl (nI_1 _) (by decide) rfl (fun ls hl => ?_)
                refine lv_goto (tgt := 35) S.1 S.2.1 dX9_swapFor_142 (by decide) ?_
                exact ih35 (k + 1) w (k + 1) (by omega) (by omega) (by omega) (by omega) _ _ hP hD hS ls (lv_sub hl [5, 6, 7, 2, 1, 0] rfl)
              · refine lv_iload S.1 S.2.1 dX9_swapFor_130 (lv_at hl 1 rfl) ?_
                refine lv_goto (tgt := 137) S.1 S.2.1 dX9_swapFor_132 (by decide) ?_
                refine lv_istore (lv' := [(4, .int (nI (shc (wk k) 0 7))), (3, .int (nI (k + 1) - nI 1)), (7, .int (nI (shc (wk k) 0 7))), (6, .int (nI 1)), (0, .ref (q 0)), (1, .int (nI i)), (2, .int (nI d)), (5, .int (nI k))]) S.1 S.2.1 dX9_swapFor_137 hl (by decide) rfl (fun ls hl => ?_)
                refine lv_iinc (v := (nI (k + 1))) (lv' := [(5, .int (nI (k + 1))), (4, .int (nI (shc (wk k) 0 7))), (3, .int (nI (k + 1) - nI 1)), (7, .int (nI (shc (wk k) 0 7))), (6, .int (nI 1)), (0, .ref (q 0)), (1, .int (nI i)), (2, .int (nI d))]) S.1 S.2.1 dX9_swapFor_139 hl (k := 7) rfl (nI_1 _) (by decide) rfl (fun ls hl => ?_)
                refine lv_goto (tgt := 35) S.1 S.2.1 dX9_swapFor_142 (by decide) ?_
                exact ih35 (k + 1) (shc (wk k) 0 7) (k + 1) (by omega) (by rw [swf_y (swc_t c67 c78) (by rw [← hw]; exact c108)]) (by rw [swf_y (swc_t c67 c78) (by rw [← hw]; exact c108)]) (by omega) _ _ hP hD hS ls (lv_sub hl [5, 6, 7, 2, 1, 0] rfl)
  exact lp35 _ 0 8 0 (Nat.zero_le _) (rfl) (rfl) (Nat.lt_succ_self _) _ _ hP hD hS ls (lv_sub hl [3, 4, 5, 2, 1, 0] rfl)

theorem pd_X9_bound : yX9_bound.cls = RX9 ∧ yX9_bound.cls ≠ "java/lang/invoke/MethodHandle" ∧ yX9_bound.cls ≠ "java/lang/invoke/VarHandle" ∧ (parseMethodDescriptor yX9_bound.desc).map (fun d => d.parameters.length) = some 0 := by decide +kernel
theorem w_X9_bound_0 : Cond.fieldLink RX9 44 "CoverSheetModel" "thrown" "I" ∈ wsX9_bound := by decide +kernel
theorem in_X9_bound_X9 : ∀ w ∈ u_ws RX9 TX9 15, w ∈ wsX9_bound := by decide +kernel
set_option maxHeartbeats 4000000 in
set_option maxRecDepth 100000 in
theorem w_X9_bound (l : Launch) (D : va_G) (cT : ClassId × ClassId × ClassId) (sz : Nat) (q : Nat → Nat) (bd th n ro cl fb rn : Nat) (nd sk mo wk fx wi la da we : Nat → Nat) (hwf : wfC n bd fb rn nd sk mo wk fx wi la da we) (hz : ∀ b, b < 4 → bit fb (4 * b) = 0) : Met l yX9_bound wsX9_bound ({ frames := 1, cells := 0, slots := 0, locals := 25 } : Room) (va_Pc [.ref (q 0)] (wr_R D (TY cT) (mX cT q th n ro cl fb rn nd sk mo wk fx wi la da we) sz)) (wQi (fun (r_ : Int32) (_ : Unit) => r_ = (nI (bnd n nd sk 7))) D (fun (_ : Unit) => mX cT q 0 n ro cl fb rn nd sk mo wk fx wi la da we) (va_A (mX cT q th n ro cl fb rn nd sk mo wk fx wi la da we) sz)) 0 0 (va_A (mX cT q th n ro cl fb rn nd sk mo wk fx wi la da we) sz) := by
  refine wr_start (cc := cX9_bound) (maxL := 3) (ret := (some .int)) RX9 ⟨by decide +kernel, rfl⟩ rfl (Nat.le_of_ble_eq_true rfl) ?_
  intro p0 e0 s0 m0 a0 b0 t0 c0 S hr hlocks hin hP hK hA hD hS ls hl
  generalize va_A (mX cT q th n ro cl fb rn nd sk mo wk fx wi la da we) sz = A at hA hD hS ⊢
  have hl : lv_has ls 3 [(0, .ref (q 0))] := hl
  obtain ⟨hn, hcl, hfb, hrn, hnd, hper⟩ := id hwf
  refine lv_aload_n S.1 S.2.1 dX9_bound_0 rfl (lv_at hl 0 rfl) ?_
  refine lv_iconst (v := (nI 0)) S.1 S.2.1 dX9_bound_1 (by decide) ?_
  refine w_put (C := RX9) (T := TX9) (N := 15) (v := .int (nI 0)) (ty := .int) S 0 7 0 in_X9_bound_X9 tyX9 tyX9_ok nmX9 hK hP hD hS rfl rfl (by decide) w_X9_bound_0 rfl (by decide +kernel) rfl rfl (Nat.le_of_ble_eq_true rfl) dX9_bound_2 (fun H locs hP hD hS => ?_)
  have hP : va_P D vwCl (mX cT q 0 n ro cl fb rn nd sk mo wk fx wi la da we) H := hP
  have hD : va_D A (mX cT q 0 n ro cl fb rn nd sk mo wk fx wi la da we) := hD
  refine lv_iconst (v := (nI 0)) S.1 S.2.1 dX9_bound_5 (by decide) ?_
  refine lv_istore_n (lv' := [(1, .int (nI 0)), (0, .ref (q 0))]) S.1 S.2.1 dX9_bound_6 rfl hl (by decide) rfl (fun ls hl => ?_)
  refine lv_iconst (v := (nI 0)) S.1 S.2.1 dX9_bound_7 (by decide) ?_
  refine lv_istore_n (lv' := [(2, .int (nI 0)), (1, .int (nI 0)), (0, .ref (q 0))]) S.1 S.2.1 dX9_bound_8 rfl hl (by decide) rfl (fun ls hl => ?_)
  have lp9 : ∀ (fu : Nat) (su : Nat) (d : Nat), (d ≤ 7) → (su = bnd n nd sk d) → (7 - d) < fu → ∀ (H : Heap) (locs : List Loc), va_P D vwCl (mX cT q 0 n ro cl fb rn nd sk mo wk fx wi la da we) H → va_D A (mX cT q 0 n ro cl fb rn nd sk mo wk fx wi la da we) → va_S A s0.heap H locs → ∀ ls : Array Slot, lv_has ls 3 [(0, .ref (q 0)), (1, .int (nI su)), (2, .int (nI d))] → W p0 l e0 ({ frames := 1, cells := 0, slots := 0, locals := 25 } : Room) s0 m0 a0 b0 t0 c0 H locs 0 0 (MQ b0 (wQi (fun (r_ : Int32) (_ : Unit) => r_ = (nI (bnd n nd sk 7))) D (fun (_ : Unit) => mX cT q 0 n ro cl fb rn nd sk mo wk fx wi la da we) A) a0 s0 0 0 A) (F0 m0 9 ls []) := by
    intro fu
    induction fu with
    | zero =>
      intro su d h2 hs hm
      exact absurd hm (Nat.not_lt_zero _)
    | succ fu ih9 =>
      intro su d h2 hs hm H locs hP hD hS ls hl
      refine lv_iload_n S.1 S.2.1 dX9_bound_9 rfl (lv_at hl 2 rfl) ?_
      refine lv_bipush (v := (nI 7)) S.1 S.2.1 dX9_bound_10 (by decide) ?_
      refine n_cge S (tgt := 29) (by omega) dX9_bound_12 (by decide) (fun c12 => ?_) (fun c12 => ?_)
      · refine lv_iload_n S.1 S.2.1 dX9_bound_29 rfl (lv_at hl 1 rfl) ?_
        exact wr_iret S (()) hr rfl hlocks (by rw [hs, show d = 7 by omega]) (hP) (hD) hS dX9_bound_30
      · refine lv_iload_n S.1 S.2.1 dX9_bound_15 rfl (lv_at hl 1 rfl) ?_
        refine lv_aload_n S.1 S.2.1 dX9_bound_16 rfl (lv_at hl 0 rfl) ?_
        refine lv_iload_n S.1 S.2.1 dX9_bound_17 rfl (lv_at hl 2 rfl) ?_
        refine rd_callV (rest := [.int (nI su)]) S (r_X9_lacking l D cT q bd 0 n ro cl fb rn nd sk mo wk fx wi la da we d (hwf) (hz) (by omega)) gX9_bound_X9_lacking rfl pd_X9_lacking ⟨rfl, rfl, Nat.le_of_ble_eq_true rfl, Nat.le_of_ble_eq_true rfl⟩ hP hK (va_recv hK.1 hP (ci := 7) (q0 := 0) rfl rfl) hl rfl rfl (Nat.le_of_ble_eq_true rfl) ⟨Nat.zero_le _, Nat.zero_le _⟩ dX9_bound_18 ?_
        refine n_add S dX9_bound_21 ?_
        refine lv_istore_n (lv' := [(1, .int (nI (su + (lks n nd sk d 8)))), (0, .ref (q 0)), (2, .int (nI d))]) S.1 S.2.1 dX9_bound_22 rfl hl (by decide) rfl (fun ls hl => ?_)
        refine lv_iinc (v := (nI (d + 1))) (lv' := [(2, .int (nI (d + 1))), (1, .int (nI (su + (lks n nd sk d 8)))), (0, .ref (q 0))]) S.1 S.2.1 dX9_bound_23 hl (k := 2) rfl (nI_1 _) (by decide) rfl (fun ls hl => ?_)
        refine lv_goto (tgt := 9) S.1 S.2.1 dX9_bound_26 (by decide) ?_
        exact ih9 (su + (lks n nd sk d 8)) (d + 1) (by omega) (by rw [hs]; rfl) (by omega) _ _ hP hD hS ls (lv_sub hl [2, 1, 0] rfl)
  exact lp9 _ 0 0 (Nat.zero_le _) (rfl) (Nat.lt_succ_self _) _ _ hP hD hS ls (lv_sub hl [2, 1, 0] rfl)

