theorem swc_t {sk mo wk fx la da : Nat → Nat} {fb rn i d k : Nat} (h1 : ent (wk i) d ≠ ent (wk k) d) (h2 : (i != k && csw sk mo wk fx la da fb rn i k d) = true) : swc sk mo wk fx la da fb rn i d k = true := by
  rw [Bool.and_eq_true] at h2
  show (ent (wk i) d != ent (wk k) d && csw sk mo wk fx la da fb rn i k d) = true
  rw [h2.2, show (ent (wk i) d != ent (wk k) d) = true from bne_iff_ne.mpr h1]; rfl
theorem swc_f1 {sk mo wk fx la da : Nat → Nat} {fb rn i d k : Nat} (h1 : ent (wk i) d = ent (wk k) d) : swc sk mo wk fx la da fb rn i d k = false := by
  show (ent (wk i) d != ent (wk k) d && csw sk mo wk fx la da fb rn i k d) = false
  rw [h1, show (ent (wk k) d != ent (wk k) d) = false by simp]; rfl
theorem swc_f2 {sk mo wk fx la da : Nat → Nat} {fb rn i d k : Nat} (h2 : (i != k && csw sk mo wk fx la da fb rn i k d) = false) : swc sk mo wk fx la da fb rn i d k = false := by
  rw [Bool.and_eq_false_iff] at h2
  rcases h2 with q | q
  · have q2 : i = k := by simpa using q
    exact swc_f1 (by rw [q2])
  · show (ent (wk i) d != ent (wk k) d && csw sk mo wk fx la da fb rn i k d) = false
    rw [q, Bool.and_false]
theorem pd_X3_put : yX3_put.cls = RX3 ∧ yX3_put.cls ≠ "java/lang/invoke/MethodHandle" ∧ yX3_put.cls ≠ "java/lang/invoke/VarHandle" ∧ (parseMethodDescriptor yX3_put.desc).map (fun d => d.parameters.length) = some 3 := by decide +kernel
theorem w_X3_put_0 : Cond.fieldLink RX3 9 "CoverSheet$Needs" "numbers" "[I" ∈ wsX3_put := by decide +kernel
theorem in_X3_put_X3 : ∀ w ∈ u_ws RX3 TX3 1, w ∈ wsX3_put := by decide +kernel
set_option maxHeartbeats 4000000 in
set_option maxRecDepth 100000 in
theorem r_X3_put (l : Launch) (D : va_G) (cT : ClassId × ClassId × ClassId) (sz : Nat) (c pa : Nat → Nat) (bd a6 a7 n ro cl fb rn : Nat) (nd sk mo wk fx wi la da we : Nat → Nat) (V V2 PR : Nat → Int64) (d e v : Nat) (hwf : wfC n bd fb rn nd sk mo wk fx wi la da we) (hd : d < 7) (he : e < 4) : Met l yX3_put wsX3_put ({ frames := 0, cells := 0, slots := 0, locals := 0 } : Room) (va_Pc [.ref (c 2), .int (nI d), .int (nI e), .int (nI v)] (wr_R D (TY cT) (cX cT c a6 a7 n ro cl fb rn nd V V2 PR pa ++ pool n pa (per sk mo wk fx wi la da we)) sz)) (wQv (fun (_ : Unit) => True) D (fun (_ : Unit) => cX cT c a6 a7 n ro cl fb rn (va_up nd (d * 4 + e) v) V V2 PR pa ++ pool n pa (per sk mo wk fx wi la da we)) (va_A (cX cT c a6 a7 n ro cl fb rn nd V V2 PR pa ++ pool n pa (per sk mo wk fx wi la da we)) sz)) 0 0 (va_A (cX cT c a6 a7 n ro cl fb rn nd V V2 PR pa ++ pool n pa (per sk mo wk fx wi la da we)) sz) := by
  refine wr_start (cc := cX3_put) (maxL := 5) (ret := none) RX3 ⟨by decide +kernel, rfl⟩ rfl (Nat.le_of_ble_eq_true rfl) ?_
  intro p0 e0 s0 m0 a0 b0 t0 c0 S hr hlocks hin hP hK hA hD hS ls hl
  generalize va_A (cX cT c a6 a7 n ro cl fb rn nd V V2 PR pa ++ pool n pa (per sk mo wk fx wi la da we)) sz = A at hA hD hS ⊢
  have hl : lv_has ls 5 [(0, .ref (c 2)), (1, .int (nI d)), (2, .int (nI e)), (3, .int (nI v))] := hl
  obtain ⟨hn, hcl, hfb, hrn, hnd, hper⟩ := id hwf
  refine lv_iload_n S.1 S.2.1 dX3_put_0 rfl (lv_at hl 1 rfl) ?_
  refine lv_iconst (v := (nI 4)) S.1 S.2.1 dX3_put_1 (by decide) ?_
  refine n_mul S dX3_put_2 ?_
  refine lv_iload_n S.1 S.2.1 dX3_put_3 rfl (lv_at hl 2 rfl) ?_
  refine n_add S dX3_put_4 ?_
  refine lv_istore (lv' := [(4, .int (nI ((d * 4) + e))), (0, .ref (c 2)), (1, .int (nI d)), (2, .int (nI e)), (3, .int (nI v))]) S.1 S.2.1 dX3_put_5 hl (by decide) rfl (fun ls hl => ?_)
  refine lv_iload S.1 S.2.1 dX3_put_7 (lv_at hl 0 rfl) ?_
  refine n_zlt S (tgt := 30) (by omega) dX3_put_9 (by decide) ?_
  refine lv_iload S.1 S.2.1 dX3_put_12 (lv_at hl 0 rfl) ?_
  refine lv_aload_n S.1 S.2.1 dX3_put_14 rfl (lv_at hl 1 rfl) ?_
  refine g_get (C := RX3) (T := TX3) (N := 1) (v := .ref (c 3)) S 2 2 0 in_X3_put_X3 hK hP rfl rfl (by decide) w_X3_put_0 rfl dX3_put_15 ?_
  refine g_alen S 3 0 hK hP rfl rfl dX3_put_18 ?_
  refine n_cge S (tgt := 30) (by omega) dX3_put_19 (by decide) (fun c19 => ?_) (fun c19 => ?_)
  · exact absurd c19 (by omega)
  refine lv_aload_n S.1 S.2.1 dX3_put_22 rfl (lv_at hl 1 rfl) ?_
  refine g_get (C := RX3) (T := TX3) (N := 1) (v := .ref (c 3)) S 2 2 0 in_X3_put_X3 hK hP rfl rfl (by decide) w_X3_put_0 rfl dX3_put_23 ?_
  refine lv_iload S.1 S.2.1 dX3_put_26 (lv_at hl 0 rfl) ?_
  refine lv_iload_n S.1 S.2.1 dX3_put_28 rfl (lv_at hl 4 rfl) ?_
  refine w_iast S 3 hK hP hD hS rfl (by omega) dX3_put_29 (fun H locs hP hD hS => ?_)
  have hP : va_P D vwCl (cX cT c a6 a7 n ro cl fb rn (va_up nd ((d * 4) + e) v) V V2 PR pa ++ pool n pa (per sk mo wk fx wi la da we)) H := hP
  have hD : va_D A (cX cT c a6 a7 n ro cl fb rn (va_up nd ((d * 4) + e) v) V V2 PR pa ++ pool n pa (per sk mo wk fx wi la da we)) := hD
  exact wr_vret S (()) hr hlocks (trivial) (hP) (hD) hS dX3_put_30

theorem pd_X6_changeFollowing : yX6_changeFollowing.cls = RX6 ∧ yX6_changeFollowing.cls ≠ "java/lang/invoke/MethodHandle" ∧ yX6_changeFollowing.cls ≠ "java/lang/invoke/VarHandle" ∧ (parseMethodDescriptor yX6_changeFollowing.desc).map (fun d => d.parameters.length) = some 3 := by decide +kernel
theorem w_X6_changeFollowing_0 : Cond.fieldLink RX6 15 "CoverSheet$Rules" "forbidden" "I" ∈ wsX6_changeFollowing := by decide +kernel
theorem in_X6_changeFollowing_X6 : ∀ w ∈ u_ws RX6 TX6 2, w ∈ wsX6_changeFollowing := by decide +kernel
set_option maxHeartbeats 4000000 in
set_option maxRecDepth 100000 in
theorem w_X6_changeFollowing_true (l : Launch) (D : va_G) (cT : ClassId × ClassId × ClassId) (sz : Nat) (c pa : Nat → Nat) (bd a6 a7 n ro cl fb rn : Nat) (nd sk mo wk fx wi la da we : Nat → Nat) (V V2 PR : Nat → Int64) (e f : Nat) (hwf : wfC n bd fb rn nd sk mo wk fx wi la da we) (he : 1 ≤ e ∧ e < 4) (hf : 1 ≤ f ∧ f < 4) : Met l yX6_changeFollowing wsX6_changeFollowing ({ frames := 1, cells := 0, slots := 0, locals := 21 } : Room) (va_Pc [.ref (c 4), .int (nI e), .int (nI f), .int (nI true.toNat)] (wr_R D (TY cT) (cX cT c a6 a7 n ro cl fb rn nd V V2 PR pa ++ pool n pa (per sk mo wk fx wi la da we)) sz)) (wQi (fun (r_ : Int32) (_ : Unit) => r_ = (nI (bit fb (4 * e + f) != 1).toNat)) D (fun (_ : Unit) => cX cT c a6 a7 n ro cl (bset fb (4 * e + f) 1) rn nd V V2 PR pa ++ pool n pa (per sk mo wk fx wi la da we)) (va_A (cX cT c a6 a7 n ro cl fb rn nd V V2 PR pa ++ pool n pa (per sk mo wk fx wi la da we)) sz)) 0 0 (va_A (cX cT c a6 a7 n ro cl fb rn nd V V2 PR pa ++ pool n pa (per sk mo wk fx wi la da we)) sz) := by
  refine wr_start (cc := cX6_changeFollowing) (maxL := 5) (ret := (some .boolean)) RX6 ⟨by decide +kernel, rfl⟩ rfl (Nat.le_of_ble_eq_true rfl) ?_
  intro p0 e0 s0 m0 a0 b0 t0 c0 S hr hlocks hin hP hK hA hD hS ls hl
  generalize va_A (cX cT c a6 a7 n ro cl fb rn nd V V2 PR pa ++ pool n pa (per sk mo wk fx wi la da we)) sz = A at hA hD hS ⊢
  have hl : lv_has ls 5 [(0, .ref (c 4)), (1, .int (nI e)), (2, .int (nI f)), (3, .int (nI true.toNat))] := hl
  obtain ⟨hn, hcl, hfb, hrn, hnd, hper⟩ := id hwf
  refine lv_aload_n S.1 S.2.1 dX6_changeFollowing_0 rfl (lv_at hl 0 rfl) ?_
  refine g_get (C := RX6) (T := TX6) (N := 2) (v := .int (nI fb)) S 4 5 0 in_X6_changeFollowing_X6 hK hP rfl rfl (by decide) w_X6_changeFollowing_0 rfl dX6_changeFollowing_1 ?_
  refine lv_istore (lv' := [(4, .int (nI fb)), (0, .ref (c 4)), (1, .int (nI e)), (2, .int (nI f)), (3, .int (nI true.toNat))]) S.1 S.2.1 dX6_changeFollowing_4 hl (by decide) rfl (fun ls hl => ?_)
  refine lv_aload_n S.1 S.2.1 dX6_changeFollowing_6 rfl (lv_at hl 1 rfl) ?_
  refine lv_iload_n S.1 S.2.1 dX6_changeFollowing_7 rfl (lv_at hl 4 rfl) ?_
  refine n_beq S (tgt := 22) dX6_changeFollowing_8 (by decide) (fun q => absurd q (by decide)) (fun _ => ?_)
  refine lv_iload S.1 S.2.1 dX6_changeFollowing_11 (lv_at hl 0 rfl) ?_
  refine lv_iload_n S.1 S.2.1 dX6_changeFollowing_13 rfl (lv_at hl 2 rfl) ?_
  refine lv_iload_n S.1 S.2.1 dX6_changeFollowing_14 rfl (lv_at hl 3 rfl) ?_
  refine rd_callS (rest := [.int (nI fb), .ref (c 4)]) S (r_X6_pairOf l D cT e f (by omega) (by omega)) gX6_changeFollowing_X6_pairOf rfl pd_X6_pairOf ⟨rfl, rfl, Nat.le_of_ble_eq_true rfl, Nat.le_of_ble_eq_true rfl⟩ (sx_P0 D _) hK hl rfl rfl (Nat.le_of_ble_eq_true rfl) ⟨Nat.zero_le _, Nat.zero_le _⟩ dX6_changeFollowing_15 ?_
  refine n_or S dX6_changeFollowing_18 ?_
  refine n_top (show (nI (fb ||| (1 * 2 ^ (e * 4 + f)))) = (nI (bset fb (4 * e + f) 1)) from by rw [Nat.mul_comm e 4]; exact congrArg nI (bs_or _ _)) ?_
  refine lv_goto (tgt := 32) S.1 S.2.1 dX6_changeFollowing_19 (by decide) ?_
  refine w_put (C := RX6) (T := TX6) (N := 2) (v := .int (nI (bset fb (4 * e + f) 1))) (ty := .int) S 4 5 0 in_X6_changeFollowing_X6 tyX6 tyX6_ok nmX6 hK hP hD hS rfl rfl (by decide) w_X6_changeFollowing_0 rfl (by decide +kernel) rfl rfl (Nat.le_of_ble_eq_true rfl) dX6_changeFollowing_32 (fun H locs hP hD hS => ?_)
  have hP : va_P D vwCl (cX cT c a6 a7 n ro cl (bset fb (4 * e + f) 1) rn nd V V2 PR pa ++ pool n pa (per sk mo wk fx wi la da we)) H := hP
  have hD : va_D A (cX cT c a6 a7 n ro cl (bset fb (4 * e + f) 1) rn nd V V2 PR pa ++ pool n pa (per sk mo wk fx wi la da we)) := hD
  refine lv_aload_n S.1 S.2.1 dX6_changeFollowing_35 rfl (lv_at hl 1 rfl) ?_
  refine g_get (C := RX6) (T := TX6) (N := 2) (v := .int (nI (bset fb (4 * e + f) 1))) S 4 5 0 in_X6_changeFollowing_X6 hK hP rfl rfl (by decide) w_X6_changeFollowing_0 rfl dX6_changeFollowing_36 ?_
  refine lv_iload S.1 S.2.1 dX6_changeFollowing_39 (lv_at hl 0 rfl) ?_
  refine n_ceq S (tgt := 48) (⟨Nat.lt_trans (bs_lt (n := 16) (by decide) hfb (by omega)) (by decide), by omega⟩) dX6_changeFollowing_41 (by decide) (fun c41 => ?_) (fun c41 => ?_)
  · refine lv_iconst (v := (nI 0)) S.1 S.2.1 dX6_changeFollowing_48 (by decide) ?_
    exact wr_iret S (()) hr (by decide) hlocks (r_f (fun h => (bne_iff_ne.mp h) (Decidable.byContradiction (fun q => ((bs_ne (by omega)).mpr q) c41)))) (hP) (hD) hS dX6_changeFollowing_49
  · refine lv_iconst (v := (nI 1)) S.1 S.2.1 dX6_changeFollowing_44 (by decide) ?_
    refine lv_goto (tgt := 49) S.1 S.2.1 dX6_changeFollowing_45 (by decide) ?_
    exact wr_iret S (()) hr (by decide) hlocks (r_t (bne_iff_ne.mpr ((bs_ne (by omega)).mp c41))) (hP) (hD) hS dX6_changeFollowing_49

theorem pd_X4_changeWish : yX4_changeWish.cls = RX4 ∧ yX4_changeWish.cls ≠ "java/lang/invoke/MethodHandle" ∧ yX4_changeWish.cls ≠ "java/lang/invoke/VarHandle" ∧ (parseMethodDescriptor yX4_changeWish.desc).map (fun d => d.parameters.length) = some 2 := by decide +kernel
theorem w_X4_changeWish_0 : Cond.fieldLink RX4 18 "CoverSheet$Person" "wishes" "I" ∈ wsX4_changeWish := by decide +kernel
theorem in_X4_changeWish_X4 : ∀ w ∈ u_ws RX4 TX4 8, w ∈ wsX4_changeWish := by decide +kernel
set_option maxHeartbeats 4000000 in
set_option maxRecDepth 100000 in
theorem w_X4_changeWish_true (l : Launch) (D : va_G) (cT : ClassId × ClassId × ClassId) (sz : Nat) (c pa : Nat → Nat) (bd a6 a7 n ro cl fb rn : Nat) (nd sk mo wk fx wi la da we : Nat → Nat) (V V2 PR : Nat → Int64) (i d : Nat) (hwf : wfC n bd fb rn nd sk mo wk fx wi la da we) (hi : i < n) (hd : d < 7) : Met l yX4_changeWish wsX4_changeWish ({ frames := 0, cells := 0, slots := 0, locals := 0 } : Room) (va_Pc [.ref (pa i), .int (nI d), .int (nI true.toNat)] (wr_R D (TY cT) (cX cT c a6 a7 n ro cl fb rn nd V V2 PR pa ++ pool n pa (per sk mo wk fx wi la da we)) sz)) (wQi (fun (r_ : Int32) (_ : Unit) => r_ = (nI (bit (wi i) d != 1).toNat)) D (fun (_ : Unit) => cX cT c a6 a7 n ro cl fb rn nd V V2 PR pa ++ pool n pa (per sk mo wk fx (va_up wi i (bset (wi i) d 1)) la da we)) (va_A (cX cT c a6 a7 n ro cl fb rn nd V V2 PR pa ++ pool n pa (per sk mo wk fx wi la da we)) sz)) 0 0 (va_A (cX cT c a6 a7 n ro cl fb rn nd V V2 PR pa ++ pool n pa (per sk mo wk fx wi la da we)) sz) := by
  refine wr_start (cc := cX4_changeWish) (maxL := 4) (ret := (some .boolean)) RX4 ⟨by decide +kernel, rfl⟩ rfl (Nat.le_of_ble_eq_true rfl) ?_
  intro p0 e0 s0 m0 a0 b0 t0 c0 S hr hlocks hin hP hK hA hD hS ls hl
  generalize va_A (cX cT c a6 a7 n ro cl fb rn nd V V2 PR pa ++ pool n pa (per sk mo wk fx wi la da we)) sz = A at hA hD hS ⊢
  have hl : lv_has ls 4 [(0, .ref (pa i)), (1, .int (nI d)), (2, .int (nI true.toNat))] := hl
  obtain ⟨hn, hcl, hfb, hrn, hnd, hper⟩ := id hwf
  have hpi := hper i
  refine lv_aload_n S.1 S.2.1 dX4_changeWish_0 rfl (lv_at hl 0 rfl) ?_
  refine g_get (C := RX4) (T := TX4) (N := 8) (v := .int (nI (wi i))) S _ 3 4 in_X4_changeWish_X4 hK hP (pool_at (by omega)) rfl (by decide) w_X4_changeWish_0 rfl dX4_changeWish_1 ?_
  refine lv_istore_n (lv' := [(3, .int (nI (wi i))), (0, .ref (pa i)), (1, .int (nI d)), (2, .int (nI true.toNat))]) S.1 S.2.1 dX4_changeWish_4 rfl hl (by decide) rfl (fun ls hl => ?_)
  refine lv_aload_n S.1 S.2.1 dX4_changeWish_5 rfl (lv_at hl 1 rfl) ?_
  refine lv_iload_n S.1 S.2.1 dX4_changeWish_6 rfl (lv_at hl 3 rfl) ?_
  refine n_beq S (tgt := 18) dX4_changeWish_7 (by decide) (fun q => absurd q (by decide)) (fun _ => ?_)
  refine lv_iload_n S.1 S.2.1 dX4_changeWish_10 rfl (lv_at hl 0 rfl) ?_
  refine lv_iconst (v := (nI 1)) S.1 S.2.1 dX4_changeWish_11 (by decide) ?_
  refine lv_iload_n S.1 S.2.1 dX4_changeWish_12 rfl (lv_at hl 2 rfl) ?_
  refine n_shl S (by omega) dX4_changeWish_13 ?_
  refine n_or S dX4_changeWish_14 ?_
  refine n_top (show (nI ((wi i) ||| (1 * 2 ^ d))) = (nI (bset (wi i) d 1)) from congrArg nI (bs_or _ _)) ?_
  refine lv_goto (tgt := 25) S.1 S.2.1 dX4_changeWish_15 (by decide) ?_
  refine w_put (C := RX4) (T := TX4) (N := 8) (v := .int (nI (bset (wi i) d 1))) (ty := .int) S _ 3 4 in_X4_changeWish_X4 tyX4 tyX4_ok nmX4 hK hP hD hS (pool_at (by omega)) rfl (by decide) w_X4_changeWish_0 rfl (by decide +kernel) rfl rfl (Nat.le_of_ble_eq_true rfl) dX4_changeWish_25 (fun H locs hP hD hS => ?_)
  have hP : va_P D vwCl (cX cT c a6 a7 n ro cl fb rn nd V V2 PR pa ++ pool n pa (per sk mo wk fx (va_up wi i (bset (wi i) d 1)) la da we)) H := by rw [← per_set_wi (i := i) (by omega)]; exact hP
  have hD : va_D A (cX cT c a6 a7 n ro cl fb rn nd V V2 PR pa ++ pool n pa (per sk mo wk fx (va_up wi i (bset (wi i) d 1)) la da we)) := by rw [← per_set_wi (i := i) (by omega)]; exact hD
  refine lv_aload_n S.1 S.2.1 dX4_changeWish_28 rfl (lv_at hl 1 rfl) ?_
  refine g_get (C := RX4) (T := TX4) (N := 8) (v := .int (nI ((va_up wi i (bset (wi i) d 1)) i))) S _ 3 4 in_X4_changeWish_X4 hK hP (pool_at (by omega)) rfl (by decide) w_X4_changeWish_0 rfl dX4_changeWish_29 ?_
  refine n_top (show (nI ((va_up wi i (bset (wi i) d 1)) i)) = (nI (bset (wi i) d 1)) from by rw [vu_s]) ?_
  refine lv_iload_n S.1 S.2.1 dX4_changeWish_32 rfl (lv_at hl 0 rfl) ?_
  refine n_ceq S (tgt := 40) (⟨Nat.lt_trans (bs_lt (n := 7) (by decide) hpi.2.2.2.2.1 (by omega)) (by decide), by omega⟩) dX4_changeWish_33 (by decide) (fun c33 => ?_) (fun c33 => ?_)
  · refine lv_iconst (v := (nI 0)) S.1 S.2.1 dX4_changeWish_40 (by decide) ?_
    exact wr_iret S (()) hr (by decide) hlocks (r_f (fun h => (bne_iff_ne.mp h) (Decidable.byContradiction (fun q => ((bs_ne (by omega)).mpr q) c33)))) (hP) (hD) hS dX4_changeWish_41
  · refine lv_iconst (v := (nI 1)) S.1 S.2.1 dX4_changeWish_36 (by decide) ?_
    refine lv_goto (tgt := 41) S.1 S.2.1 dX4_changeWish_37 (by decide) ?_
    exact wr_iret S (()) hr (by decide) hlocks (r_t (bne_iff_ne.mpr ((bs_ne (by omega)).mp c33))) (hP) (hD) hS dX4_changeWish_41

set_option maxHeartbeats 4000000 in
set_option maxRecDepth 100000 in
theorem w_X6_changeFollowing_false (l : Launch) (D : va_G) (cT : ClassId × ClassId × ClassId) (sz : Nat) (c pa : Nat → Nat) (bd a6 a7 n ro cl fb rn : Nat) (nd sk mo wk fx wi la da we : Nat → Nat) (V V2 PR : Nat → Int64) (e f : Nat) (hwf : wfC n bd fb rn nd sk mo wk fx wi la da we) (he : 1 ≤ e ∧ e < 4) (hf : 1 ≤ f ∧ f < 4) : Met l yX6_changeFollowing wsX6_changeFollowing ({ frames := 1, cells := 0, slots := 0, locals := 21 } : Room) (va_Pc [.ref (c 4), .int (nI e), .int (nI f), .int (nI false.toNat)] (wr_R D (TY cT) (cX cT c a6 a7 n ro cl fb rn nd V V2 PR pa ++ pool n pa (per sk mo wk fx wi la da we)) sz)) (wQi (fun (r_ : Int32) (_ : Unit) => r_ = (nI (bit fb (4 * e + f) != 0).toNat)) D (fun (_ : Unit) => cX cT c a6 a7 n ro cl (bset fb (4 * e + f) 0) rn nd V V2 PR pa ++ pool n pa (per sk mo wk fx wi la da we)) (va_A (cX cT c a6 a7 n ro cl fb rn nd V V2 PR pa ++ pool n pa (per sk mo wk fx wi la da we)) sz)) 0 0 (va_A (cX cT c a6 a7 n ro cl fb rn nd V V2 PR pa ++ pool n pa (per sk mo wk fx wi la da we)) sz) := by
  refine wr_start (cc := cX6_changeFollowing) (maxL := 5) (ret := (some .boolean)) RX6 ⟨by decide +kernel, rfl⟩ rfl (Nat.le_of_ble_eq_true rfl) ?_
  intro p0 e0 s0 m0 a0 b0 t0 c0 S hr hlocks hin hP hK hA hD hS ls hl
  generalize va_A (cX cT c a6 a7 n ro cl fb rn nd V V2 PR pa ++ pool n pa (per sk mo wk fx wi la da we)) sz = A at hA hD hS ⊢
  have hl : lv_has ls 5 [(0, .ref (c 4)), (1, .int (nI e)), (2, .int (nI f)), (3, .int (nI false.toNat))] := hl
  obtain ⟨hn, hcl, hfb, hrn, hnd, hper⟩ := id hwf
  refine lv_aload_n S.1 S.2.1 dX6_changeFollowing_0 rfl (lv_at hl 0 rfl) ?_
  refine g_get (C := RX6) (T := TX6) (N := 2) (v := .int (nI fb)) S 4 5 0 in_X6_changeFollowing_X6 hK hP rfl rfl (by decide) w_X6_changeFollowing_0 rfl dX6_changeFollowing_1 ?_
  refine lv_istore (lv' := [(4, .int (nI fb)), (0, .ref (c 4)), (1, .int (nI e)), (2, .int (nI f)), (3, .int (nI false.toNat))]) S.1 S.2.1 dX6_changeFollowing_4 hl (by decide) rfl (fun ls hl => ?_)
  refine lv_aload_n S.1 S.2.1 dX6_changeFollowing_6 rfl (lv_at hl 1 rfl) ?_
  refine lv_iload_n S.1 S.2.1 dX6_changeFollowing_7 rfl (lv_at hl 4 rfl) ?_
  refine n_beq S (tgt := 22) dX6_changeFollowing_8 (by decide) (fun _ => ?_) (fun q => absurd q (by decide))
  refine lv_iload S.1 S.2.1 dX6_changeFollowing_22 (lv_at hl 0 rfl) ?_
  refine lv_iload_n S.1 S.2.1 dX6_changeFollowing_24 rfl (lv_at hl 2 rfl) ?_
  refine lv_iload_n S.1 S.2.1 dX6_changeFollowing_25 rfl (lv_at hl 3 rfl) ?_
  refine rd_callS (rest := [.int (nI fb), .ref (c 4)]) S (r_X6_pairOf l D cT e f (by omega) (by omega)) gX6_changeFollowing_X6_pairOf rfl pd_X6_pairOf ⟨rfl, rfl, Nat.le_of_ble_eq_true rfl, Nat.le_of_ble_eq_true rfl⟩ (sx_P0 D _) hK hl rfl rfl (Nat.le_of_ble_eq_true rfl) ⟨Nat.zero_le _, Nat.zero_le _⟩ dX6_changeFollowing_26 ?_
  refine lv_iconst (v := (-1)) S.1 S.2.1 dX6_changeFollowing_29 (by decide) ?_
  refine lv_ixor S.1 S.2.1 dX6_changeFollowing_30 ?_
  refine lv_iand S.1 S.2.1 dX6_changeFollowing_31 ?_
  refine n_top (show ((nI fb) &&& ((nI (1 * 2 ^ (e * 4 + f))) ^^^ (-1))) = (nI (bset fb (4 * e + f) 0)) from by rw [Nat.mul_comm e 4]; exact bs_clrI _ _) ?_
  refine w_put (C := RX6) (T := TX6) (N := 2) (v := .int (nI (bset fb (4 * e + f) 0))) (ty := .int) S 4 5 0 in_X6_changeFollowing_X6 tyX6 tyX6_ok nmX6 hK hP hD hS rfl rfl (by decide) w_X6_changeFollowing_0 rfl (by decide +kernel) rfl rfl (Nat.le_of_ble_eq_true rfl) dX6_changeFollowing_32 (fun H locs hP hD hS => ?_)
  have hP : va_P D vwCl (cX cT c a6 a7 n ro cl (bset fb (4 * e + f) 0) rn nd V V2 PR pa ++ pool n pa (per sk mo wk fx wi la da we)) H := hP
  have hD : va_D A (cX cT c a6 a7 n ro cl (bset fb (4 * e + f) 0) rn nd V V2 PR pa ++ pool n pa (per sk mo wk fx wi la da we)) := hD
  refine lv_aload_n S.1 S.2.1 dX6_changeFollowing_35 rfl (lv_at hl 1 rfl) ?_
  refine g_get (C := RX6) (T := TX6) (N := 2) (v := .int (nI (bset fb (4 * e + f) 0))) S 4 5 0 in_X6_changeFollowing_X6 hK hP rfl rfl (by decide) w_X6_changeFollowing_0 rfl dX6_changeFollowing_36 ?_
  refine lv_iload S.1 S.2.1 dX6_changeFollowing_39 (lv_at hl 0 rfl) ?_
  refine n_ceq S (tgt := 48) (⟨Nat.lt_trans (bs_lt (n := 16) (by decide) hfb (by omega)) (by decide), by omega⟩) dX6_changeFollowing_41 (by decide) (fun c41 => ?_) (fun c41 => ?_)
  · refine lv_iconst (v := (nI 0)) S.1 S.2.1 dX6_changeFollowing_48 (by decide) ?_
    exact wr_iret S (()) hr (by decide) hlocks (r_f (fun h => (bne_iff_ne.mp h) (Decidable.byContradiction (fun q => ((bs_ne (by omega)).mpr q) c41)))) (hP) (hD) hS dX6_changeFollowing_49
  · refine lv_iconst (v := (nI 1)) S.1 S.2.1 dX6_changeFollowing_44 (by decide) ?_
    refine lv_goto (tgt := 49) S.1 S.2.1 dX6_changeFollowing_45 (by decide) ?_
    exact wr_iret S (()) hr (by decide) hlocks (r_t (bne_iff_ne.mpr ((bs_ne (by omega)).mp c41))) (hP) (hD) hS dX6_changeFollowing_49

set_option maxHeartbeats 4000000 in
set_option maxRecDepth 100000 in
theorem w_X4_changeWish_false (l : Launch) (D : va_G) (cT : ClassId × ClassId × ClassId) (sz : Nat) (c pa : Nat → Nat) (bd a6 a7 n ro cl fb rn : Nat) (nd sk mo wk fx wi la da we : Nat → Nat) (V V2 PR : Nat → Int64) (i d : Nat) (hwf : wfC n bd fb rn nd sk mo wk fx wi la da we) (hi : i < n) (hd : d < 7) : Met l yX4_changeWish wsX4_changeWish ({ frames := 0, cells := 0, slots := 0, locals := 0 } : Room) (va_Pc [.ref (pa i), .int (nI d), .int (nI false.toNat)] (wr_R D (TY cT) (cX cT c a6 a7 n ro cl fb rn nd V V2 PR pa ++ pool n pa (per sk mo wk fx wi la da we)) sz)) (wQi (fun (r_ : Int32) (_ : Unit) => r_ = (nI (bit (wi i) d != 0).toNat)) D (fun (_ : Unit) => cX cT c a6 a7 n ro cl fb rn nd V V2 PR pa ++ pool n pa (per sk mo wk fx (va_up wi i (bset (wi i) d 0)) la da we)) (va_A (cX cT c a6 a7 n ro cl fb rn nd V V2 PR pa ++ pool n pa (per sk mo wk fx wi la da we)) sz)) 0 0 (va_A (cX cT c a6 a7 n ro cl fb rn nd V V2 PR pa ++ pool n pa (per sk mo wk fx wi la da we)) sz) := by
  refine wr_start (cc := cX4_changeWish) (maxL := 4) (ret := (some .boolean)) RX4 ⟨by decide +kernel, rfl⟩ rfl (Nat.le_of_ble_eq_true rfl) ?_
  intro p0 e0 s0 m0 a0 b0 t0 c0 S hr hlocks hin hP hK hA hD hS ls hl
  generalize va_A (cX cT c a6 a7 n ro cl fb rn nd V V2 PR pa ++ pool n pa (per sk mo wk fx wi la da we)) sz = A at hA hD hS ⊢
  have hl : lv_has ls 4 [(0, .ref (pa i)), (1, .int (nI d)), (2, .int (nI false.toNat))] := hl
  obtain ⟨hn, hcl, hfb, hrn, hnd, hper⟩ := id hwf
  have hpi := hper i
  refine lv_aload_n S.1 S.2.1 dX4_changeWish_0 rfl (lv_at hl 0 rfl) ?_
  refine g_get (C := RX4) (T := TX4) (N := 8) (v := .int (nI (wi i))) S _ 3 4 in_X4_changeWish_X4 hK hP (pool_at (by omega)) rfl (by decide) w_X4_changeWish_0 rfl dX4_changeWish_1 ?_
  refine lv_istore_n (lv' := [(3, .int (nI (wi i))), (0, .ref (pa i)), (1, .int (nI d)), (2, .int (nI false.toNat))]) S.1 S.2.1 dX4_changeWish_4 rfl hl (by decide) rfl (fun ls hl => ?_)
  refine lv_aload_n S.1 S.2.1 dX4_changeWish_5 rfl (lv_at hl 1 rfl) ?_
  refine lv_iload_n S.1 S.2.1 dX4_changeWish_6 rfl (lv_at hl 3 rfl) ?_
  refine n_beq S (tgt := 18) dX4_changeWish_7 (by decide) (fun _ => ?_) (fun q => absurd q (by decide))
  refine lv_iload_n S.1 S.2.1 dX4_changeWish_18 rfl (lv_at hl 0 rfl) ?_
  refine lv_iconst (v := (nI 1)) S.1 S.2.1 dX4_changeWish_19 (by decide) ?_
  refine lv_iload_n S.1 S.2.1 dX4_changeWish_20 rfl (lv_at hl 2 rfl) ?_
  refine n_shl S (by omega) dX4_changeWish_21 ?_
  refine lv_iconst (v := (-1)) S.1 S.2.1 dX4_changeWish_22 (by decide) ?_
  refine lv_ixor S.1 S.2.1 dX4_changeWish_23 ?_
  refine lv_iand S.1 S.2.1 dX4_changeWish_24 ?_
  refine n_top (show ((nI (wi i)) &&& ((nI (1 * 2 ^ d)) ^^^ (-1))) = (nI (bset (wi i) d 0)) from bs_clrI _ _) ?_
  refine w_put (C := RX4) (T := TX4) (N := 8) (v := .int (nI (bset (wi i) d 0))) (ty := .int) S _ 3 4 in_X4_changeWish_X4 tyX4 tyX4_ok nmX4 hK hP hD hS (pool_at (by omega)) rfl (by decide) w_X4_changeWish_0 rfl (by decide +kernel) rfl rfl (Nat.le_of_ble_eq_true rfl) dX4_changeWish_25 (fun H locs hP hD hS => ?_)
  have hP : va_P D vwCl (cX cT c a6 a7 n ro cl fb rn nd V V2 PR pa ++ pool n pa (per sk mo wk fx (va_up wi i (bset (wi i) d 0)) la da we)) H := by rw [← per_set_wi (i := i) (by omega)]; exact hP
  have hD : va_D A (cX cT c a6 a7 n ro cl fb rn nd V V2 PR pa ++ pool n pa (per sk mo wk fx (va_up wi i (bset (wi i) d 0)) la da we)) := by rw [← per_set_wi (i := i) (by omega)]; exact hD
  refine lv_aload_n S.1 S.2.1 dX4_changeWish_28 rfl (lv_at hl 1 rfl) ?_
  refine g_get (C := RX4) (T := TX4) (N := 8) (v := .int (nI ((va_up wi i (bset (wi i) d 0)) i))) S _ 3 4 in_X4_changeWish_X4 hK hP (pool_at (by omega)) rfl (by decide) w_X4_changeWish_0 rfl dX4_changeWish_29 ?_
  refine n_top (show (nI ((va_up wi i (bset (wi i) d 0)) i)) = (nI (bset (wi i) d 0)) from by rw [vu_s]) ?_
  refine lv_iload_n S.1 S.2.1 dX4_changeWish_32 rfl (lv_at hl 0 rfl) ?_
  refine n_ceq S (tgt := 40) (⟨Nat.lt_trans (bs_lt (n := 7) (by decide) hpi.2.2.2.2.1 (by omega)) (by decide), by omega⟩) dX4_changeWish_33 (by decide) (fun c33 => ?_) (fun c33 => ?_)
  · refine lv_iconst (v := (nI 0)) S.1 S.2.1 dX4_changeWish_40 (by decide) ?_
    exact wr_iret S (()) hr (by decide) hlocks (r_f (fun h => (bne_iff_ne.mp h) (Decidable.byContradiction (fun q => ((bs_ne (by omega)).mpr q) c33)))) (hP) (hD) hS dX4_changeWish_41
  · refine lv_iconst (v := (nI 1)) S.1 S.2.1 dX4_changeWish_36 (by decide) ?_
    refine lv_goto (tgt := 41) S.1 S.2.1 dX4_changeWish_37 (by decide) ?_
    exact wr_iret S (()) hr (by decide) hlocks (r_t (bne_iff_ne.mpr ((bs_ne (by omega)).mp c33))) (hP) (hD) hS dX4_changeWish_41

theorem pd_X4_changeFixed : yX4_changeFixed.cls = RX4 ∧ yX4_changeFixed.cls ≠ "java/lang/invoke/MethodHandle" ∧ yX4_changeFixed.cls ≠ "java/lang/invoke/VarHandle" ∧ (parseMethodDescriptor yX4_changeFixed.desc).map (fun d => d.parameters.length) = some 2 := by decide +kernel
theorem w_X4_changeFixed_0 : Cond.fieldLink RX4 34 "CoverSheet$Person" "fixed" "I" ∈ wsX4_changeFixed := by decide +kernel
theorem in_X4_changeFixed_X4 : ∀ w ∈ u_ws RX4 TX4 8, w ∈ wsX4_changeFixed := by decide +kernel
set_option maxHeartbeats 4000000 in
set_option maxRecDepth 100000 in
theorem r_X4_changeFixed (l : Launch) (D : va_G) (cT : ClassId × ClassId × ClassId) (sz : Nat) (c pa : Nat → Nat) (bd a6 a7 n ro cl fb rn : Nat) (nd sk mo wk fx wi la da we : Nat → Nat) (V V2 PR : Nat → Int64) (i d e : Nat) (hwf : wfC n bd fb rn nd sk mo wk fx wi la da we) (hi : i < n) (hd : d < 7) (he : e < 5) : Met l yX4_changeFixed wsX4_changeFixed ({ frames := 0, cells := 0, slots := 0, locals := 0 } : Room) (va_Pc [.ref (pa i), .int (nI d), .int (nI e - nI 1)] (wr_R D (TY cT) (cX cT c a6 a7 n ro cl fb rn nd V V2 PR pa ++ pool n pa (per sk mo wk fx wi la da we)) sz)) (wQv (fun (_ : Unit) => True) D (fun (_ : Unit) => cX cT c a6 a7 n ro cl fb rn nd V V2 PR pa ++ pool n pa (per sk mo wk (va_up fx i (nset (fx i) d e)) wi la da we)) (va_A (cX cT c a6 a7 n ro cl fb rn nd V V2 PR pa ++ pool n pa (per sk mo wk fx wi la da we)) sz)) 0 0 (va_A (cX cT c a6 a7 n ro cl fb rn nd V V2 PR pa ++ pool n pa (per sk mo wk fx wi la da we)) sz) := by
  refine wr_start (cc := cX4_changeFixed) (maxL := 4) (ret := none) RX4 ⟨by decide +kernel, rfl⟩ rfl (Nat.le_of_ble_eq_true rfl) ?_
  intro p0 e0 s0 m0 a0 b0 t0 c0 S hr hlocks hin hP hK hA hD hS ls hl
  generalize va_A (cX cT c a6 a7 n ro cl fb rn nd V V2 PR pa ++ pool n pa (per sk mo wk fx wi la da we)) sz = A at hA hD hS ⊢
  have hl : lv_has ls 4 [(0, .ref (pa i)), (1, .int (nI d)), (2, .int (nI e - nI 1))] := hl
  obtain ⟨hn, hcl, hfb, hrn, hnd, hper⟩ := id hwf
  have hpi := hper i
  refine lv_iconst (v := (nI 4)) S.1 S.2.1 dX4_changeFixed_0 (by decide) ?_
  refine lv_iload_n S.1 S.2.1 dX4_changeFixed_1 rfl (lv_at hl 1 rfl) ?_
  refine n_mul S dX4_changeFixed_2 ?_
  refine lv_istore_n (lv' := [(3, .int (nI (4 * d))), (0, .ref (pa i)), (1, .int (nI d)), (2, .int (nI e - nI 1))]) S.1 S.2.1 dX4_changeFixed_3 rfl hl (by decide) rfl (fun ls hl => ?_)
  refine lv_aload_n S.1 S.2.1 dX4_changeFixed_4 rfl (lv_at hl 1 rfl) ?_
  refine lv_aload_n S.1 S.2.1 dX4_changeFixed_5 rfl (lv_at hl 1 rfl) ?_
  refine g_get (C := RX4) (T := TX4) (N := 8) (v := .int (nI (fx i))) S _ 3 3 in_X4_changeFixed_X4 hK hP (pool_at (by omega)) rfl (by decide) w_X4_changeFixed_0 rfl dX4_changeFixed_6 ?_
  refine lv_bipush (v := (nI 15)) S.1 S.2.1 dX4_changeFixed_9 (by decide) ?_
  refine lv_iload_n S.1 S.2.1 dX4_changeFixed_11 rfl (lv_at hl 0 rfl) ?_
  refine n_shl S (by omega) dX4_changeFixed_12 ?_
  refine lv_iconst (v := (-1)) S.1 S.2.1 dX4_changeFixed_13 (by decide) ?_
  refine lv_ixor S.1 S.2.1 dX4_changeFixed_14 ?_
  refine lv_iand S.1 S.2.1 dX4_changeFixed_15 ?_
  refine n_top (show ((nI (fx i)) &&& ((nI (15 * 2 ^ (4 * d))) ^^^ (-1))) = (nI (fx i - nib (fx i) d * 2 ^ (4 * d))) from fs_clrI (fx i) (4 * d) 4 _ rfl) ?_
  refine lv_iload_n S.1 S.2.1 dX4_changeFixed_16 rfl (lv_at hl 3 rfl) ?_
  refine lv_iconst (v := (nI 1)) S.1 S.2.1 dX4_changeFixed_17 (by decide) ?_
  refine lv_iadd S.1 S.2.1 dX4_changeFixed_18 ?_
  refine n_top (show ((nI e - nI 1) + (nI 1)) = (nI e) from Int32.sub_add_cancel _ _) ?_
  refine lv_iload_n S.1 S.2.1 dX4_changeFixed_19 rfl (lv_at hl 0 rfl) ?_
  refine n_shl S (by omega) dX4_changeFixed_20 ?_
  refine n_or S dX4_changeFixed_21 ?_
  refine n_top (show (nI ((fx i - nib (fx i) d * 2 ^ (4 * d)) ||| (e * 2 ^ (4 * d)))) = (nI (nset (fx i) d e)) from congrArg nI (fs_or (fx i) (4 * d) 4 e (by omega))) ?_
  refine w_put (C := RX4) (T := TX4) (N := 8) (v := .int (nI (nset (fx i) d e))) (ty := .int) S _ 3 3 in_X4_changeFixed_X4 tyX4 tyX4_ok nmX4 hK hP hD hS (pool_at (by omega)) rfl (by decide) w_X4_changeFixed_0 rfl (by decide +kernel) rfl rfl (Nat.le_of_ble_eq_true rfl) dX4_changeFixed_22 (fun H locs hP hD hS => ?_)
  have hP : va_P D vwCl (cX cT c a6 a7 n ro cl fb rn nd V V2 PR pa ++ pool n pa (per sk mo wk (va_up fx i (nset (fx i) d e)) wi la da we)) H := by rw [← per_set_fx (i := i) (by omega)]; exact hP
  have hD : va_D A (cX cT c a6 a7 n ro cl fb rn nd V V2 PR pa ++ pool n pa (per sk mo wk (va_up fx i (nset (fx i) d e)) wi la da we)) := by rw [← per_set_fx (i := i) (by omega)]; exact hD
  exact wr_vret S (()) hr hlocks (trivial) (hP) (hD) hS dX4_changeFixed_25

theorem pd_X4_noteWeek : yX4_noteWeek.cls = RX4 ∧ yX4_noteWeek.cls ≠ "java/lang/invoke/MethodHandle" ∧ yX4_noteWeek.cls ≠ "java/lang/invoke/VarHandle" ∧ (parseMethodDescriptor yX4_noteWeek.desc).map (fun d => d.parameters.length) = some 0 := by decide +kernel
theorem w_X4_noteWeek_0 : Cond.fieldLink RX4 21 "CoverSheet$Person" "week" "I" ∈ wsX4_noteWeek := by decide +kernel
theorem w_X4_noteWeek_1 : Cond.fieldLink RX4 41 "CoverSheet$Person" "lastEntry" "I" ∈ wsX4_noteWeek := by decide +kernel
theorem w_X4_noteWeek_2 : Cond.fieldLink RX4 59 "CoverSheet$Person" "weekendShifts" "I" ∈ wsX4_noteWeek := by decide +kernel
theorem w_X4_noteWeek_3 : Cond.fieldLink RX4 18 "CoverSheet$Person" "wishes" "I" ∈ wsX4_noteWeek := by decide +kernel
theorem w_X4_noteWeek_4 : Cond.fieldLink RX4 34 "CoverSheet$Person" "fixed" "I" ∈ wsX4_noteWeek := by decide +kernel
theorem w_X4_noteWeek_5 : Cond.fieldLink RX4 44 "CoverSheet$Person" "daysInARow" "I" ∈ wsX4_noteWeek := by decide +kernel
theorem in_X4_noteWeek_X4 : ∀ w ∈ u_ws RX4 TX4 8, w ∈ wsX4_noteWeek := by decide +kernel
set_option maxHeartbeats 4000000 in
set_option maxRecDepth 100000 in
theorem r_X4_noteWeek (l : Launch) (D : va_G) (cT : ClassId × ClassId × ClassId) (sz : Nat) (c pa : Nat → Nat) (bd a6 a7 n ro cl fb rn : Nat) (nd sk mo wk fx wi la da we : Nat → Nat) (V V2 PR : Nat → Int64) (i : Nat) (hwf : wfC n bd fb rn nd sk mo wk fx wi la da we) (hi : i < n) : Met l yX4_noteWeek wsX4_noteWeek ({ frames := 3, cells := 0, slots := 0, locals := 64 } : Room) (va_Pc [.ref (pa i)] (wr_R D (TY cT) (cX cT c a6 a7 n ro cl fb rn nd V V2 PR pa ++ pool n pa (per sk mo wk fx wi la da we)) sz)) (wQv (fun (_ : Unit) => True) D (fun (_ : Unit) => cX cT c a6 a7 n ro cl fb rn nd V V2 PR pa ++ pool n pa (per sk mo (va_up wk i 0) (va_up fx i 0) (va_up wi i 0) (va_up la i (ent (wk i) 6)) (va_up da i (rnb (wk i) (da i) 7)) (va_up we i (we i + shc (wk i) 5 2)))) (va_A (cX cT c a6 a7 n ro cl fb rn nd V V2 PR pa ++ pool n pa (per sk mo wk fx wi la da we)) sz)) 0 0 (va_A (cX cT c a6 a7 n ro cl fb rn nd V V2 PR pa ++ pool n pa (per sk mo wk fx wi la da we)) sz) := by
  refine wr_start (cc := cX4_noteWeek) (maxL := 2) (ret := none) RX4 ⟨by decide +kernel, rfl⟩ rfl (Nat.le_of_ble_eq_true rfl) ?_
  intro p0 e0 s0 m0 a0 b0 t0 c0 S hr hlocks hin hP hK hA hD hS ls hl
  generalize va_A (cX cT c a6 a7 n ro cl fb rn nd V V2 PR pa ++ pool n pa (per sk mo wk fx wi la da we)) sz = A at hA hD hS ⊢
  have hl : lv_has ls 2 [(0, .ref (pa i))] := hl
  obtain ⟨hn, hcl, hfb, hrn, hnd, hper⟩ := id hwf
  have hpi := hper i
  refine lv_iconst (v := (nI 0)) S.1 S.2.1 dX4_noteWeek_0 (by decide) ?_
  refine lv_istore_n (lv' := [(1, .int (nI 0)), (0, .ref (pa i))]) S.1 S.2.1 dX4_noteWeek_1 rfl hl (by decide) rfl (fun ls hl => ?_)
  have lp2 : ∀ (fu : Nat) (d1 : Nat → Nat) (d : Nat), (d ≤ 7) → (d1 = va_up da i (rnb (wk i) (da i) d)) → (7 - d) < fu → ∀ (H : Heap) (locs : List Loc), va_P D vwCl (cX cT c a6 a7 n ro cl fb rn nd V V2 PR pa ++ pool n pa (per sk mo wk fx wi la d1 we)) H → va_D A (cX cT c a6 a7 n ro cl fb rn nd V V2 PR pa ++ pool n pa (per sk mo wk fx wi la d1 we)) → va_S A s0.heap H locs → ∀ ls : Array Slot, lv_has ls 2 [(0, .ref (pa i)), (1, .int (nI d))] → W p0 l e0 ({ frames := 3, cells := 0, slots := 0, locals := 64 } : Room) s0 m0 a0 b0 t0 c0 H locs 0 0 (MQ b0 (wQv (fun (_ : Unit) => True) D (fun (_ : Unit) => cX cT c a6 a7 n ro cl fb rn nd V V2 PR pa ++ pool n pa (per sk mo (va_up wk i 0) (va_up fx i 0) (va_up wi i 0) (va_up la i (ent (wk i) 6)) (va_up da i (rnb (wk i) (da i) 7)) (va_up we i (we i + shc (wk i) 5 2)))) A) a0 s0 0 0 A) (F0 m0 2 ls []) := by
    intro fu
    induction fu with
    | zero =>
      intro d1 d h2 hd1 hm
      exact absurd hm (Nat.not_lt_zero _)
    | succ fu ih2 =>
      intro d1 d h2 hd1 hm H locs hP hD hS ls hl
      refine lv_iload_n S.1 S.2.1 dX4_noteWeek_2 rfl (lv_at hl 1 rfl) ?_
      refine lv_bipush (v := (nI 7)) S.1 S.2.1 dX4_noteWeek_3 (by decide) ?_
      refine n_cge S (tgt := 39) (by omega) dX4_noteWeek_5 (by decide) (fun c5 => ?_) (fun c5 => ?_)
      · refine lv_aload_n S.1 S.2.1 dX4_noteWeek_39 rfl (lv_at hl 0 rfl) ?_
        refine lv_aload_n S.1 S.2.1 dX4_noteWeek_40 rfl (lv_at hl 0 rfl) ?_
        refine g_get (C := RX4) (T := TX4) (N := 8) (v := .int (nI (wk i))) S _ 3 2 in_X4_noteWeek_X4 hK hP (pool_at (by omega)) rfl (by decide) w_X4_noteWeek_0 rfl dX4_noteWeek_41 ?_
        refine lv_bipush (v := (nI 6)) S.1 S.2.1 dX4_noteWeek_44 (by decide) ?_
        refine rd_callS (rest := [.ref (pa i)]) S (r_X7_at l D cT (wk i) 6 (by omega) (by omega)) gX4_noteWeek_X7_at rfl pd_X7_at ⟨rfl, rfl, Nat.le_of_ble_eq_true rfl, Nat.le_of_ble_eq_true rfl⟩ (sx_P0 D _) hK hl rfl rfl (Nat.le_of_ble_eq_true rfl) ⟨Nat.zero_le _, Nat.zero_le _⟩ dX4_noteWeek_46 ?_
        refine w_put (C := RX4) (T := TX4) (N := 8) (v := .int (nI (ent (wk i) 6))) (ty := .int) S _ 3 5 in_X4_noteWeek_X4 tyX4 tyX4_ok nmX4 hK hP hD hS (pool_at (by omega)) rfl (by decide) w_X4_noteWeek_1 rfl (by decide +kernel) rfl rfl (Nat.le_of_ble_eq_true rfl) dX4_noteWeek_49 (fun H locs hP hD hS => ?_)
        have hP : va_P D vwCl (cX cT c a6 a7 n ro cl fb rn nd V V2 PR pa ++ pool n pa (per sk mo wk fx wi (va_up la i (ent (wk i) 6)) d1 we)) H := by rw [← per_set_la (i := i) (by omega)]; exact hP
        have hD : va_D A (cX cT c a6 a7 n ro cl fb rn nd V V2 PR pa ++ pool n pa (per sk mo wk fx wi (va_up la i (ent (wk i) 6)) d1 we)) := by rw [← per_set_la (i := i) (by omega)]; exact hD
        refine lv_aload_n S.1 S.2.1 dX4_noteWeek_52 rfl (lv_at hl 0 rfl) ?_
        refine lv_dup S.1 S.2.1 dX4_noteWeek_53 rfl ?_
        refine g_get (C := RX4) (T := TX4) (N := 8) (v := .int (nI (we i))) S _ 3 7 in_X4_noteWeek_X4 hK hP (pool_at (by omega)) rfl (by decide) w_X4_noteWeek_2 rfl dX4_noteWeek_54 ?_
        refine lv_aload_n S.1 S.2.1 dX4_noteWeek_57 rfl (lv_at hl 0 rfl) ?_
        refine g_get (C := RX4) (T := TX4) (N := 8) (v := .int (nI (wk i))) S _ 3 2 in_X4_noteWeek_X4 hK hP (pool_at (by omega)) rfl (by decide) w_X4_noteWeek_0 rfl dX4_noteWeek_58 ?_
        refine lv_iconst (v := (nI 5)) S.1 S.2.1 dX4_noteWeek_61 (by decide) ?_
        refine rd_callS (rest := [.int (nI (we i)), .ref (pa i)]) S (r_X7_shiftsFrom l D cT (wk i) 5 (by omega) (by omega)) gX4_noteWeek_X7_shiftsFrom rfl pd_X7_shiftsFrom ⟨rfl, rfl, Nat.le_of_ble_eq_true rfl, Nat.le_of_ble_eq_true rfl⟩ (sx_P0 D _) hK hl rfl rfl (Nat.le_of_ble_eq_true rfl) ⟨Nat.zero_le _, Nat.zero_le _⟩ dX4_noteWeek_62 ?_
        refine n_add S dX4_noteWeek_65 ?_
        refine w_put (C := RX4) (T := TX4) (N := 8) (v := .int (nI ((we i) + (shc (wk i) 5 (7 - 5))))) (ty := .int) S _ 3 7 in_X4_noteWeek_X4 tyX4 tyX4_ok nmX4 hK hP hD hS (pool_at (by omega)) rfl (by decide) w_X4_noteWeek_2 rfl (by decide +kernel) rfl rfl (Nat.le_of_ble_eq_true rfl) dX4_noteWeek_66 (fun H locs hP hD hS => ?_)
        have hP : va_P D vwCl (cX cT c a6 a7 n ro cl fb rn nd V V2 PR pa ++ pool n pa (per sk mo wk fx wi (va_up la i (ent (wk i) 6)) d1 (va_up we i ((we i) + (shc (wk i) 5 (7 - 5)))))) H := by rw [← per_set_we (i := i) (by omega)]; exact hP
        have hD : va_D A (cX cT c a6 a7 n ro cl fb rn nd V V2 PR pa ++ pool n pa (per sk mo wk fx wi (va_up la i (ent (wk i) 6)) d1 (va_up we i ((we i) + (shc (wk i) 5 (7 - 5)))))) := by rw [← per_set_we (i := i) (by omega)]; exact hD
        refine lv_aload_n S.1 S.2.1 dX4_noteWeek_69 rfl (lv_at hl 0 rfl) ?_
        refine lv_iconst (v := (nI 0)) S.1 S.2.1 dX4_noteWeek_70 (by decide) ?_
        refine w_put (C := RX4) (T := TX4) (N := 8) (v := .int (nI 0)) (ty := .int) S _ 3 2 in_X4_noteWeek_X4 tyX4 tyX4_ok nmX4 hK hP hD hS (pool_at (by omega)) rfl (by decide) w_X4_noteWeek_0 rfl (by decide +kernel) rfl rfl (Nat.le_of_ble_eq_true rfl) dX4_noteWeek_71 (fun H locs hP hD hS => ?_)
        have hP : va_P D vwCl (cX cT c a6 a7 n ro cl fb rn nd V V2 PR pa ++ pool n pa (per sk mo (va_up wk i 0) fx wi (va_up la i (ent (wk i) 6)) d1 (va_up we i ((we i) + (shc (wk i) 5 (7 - 5)))))) H := by rw [← per_set_wk (i := i) (by omega)]; exact hP
        have hD : va_D A (cX cT c a6 a7 n ro cl fb rn nd V V2 PR pa ++ pool n pa (per sk mo (va_up wk i 0) fx wi (va_up la i (ent (wk i) 6)) d1 (va_up we i ((we i) + (shc (wk i) 5 (7 - 5)))))) := by rw [← per_set_wk (i := i) (by omega)]; exact hD
        refine lv_aload_n S.1 S.2.1 dX4_noteWeek_74 rfl (lv_at hl 0 rfl) ?_
        refine lv_iconst (v := (nI 0)) S.1 S.2.1 dX4_noteWeek_75 (by decide) ?_
        refine w_put (C := RX4) (T := TX4) (N := 8) (v := .int (nI 0)) (ty := .int) S _ 3 4 in_X4_noteWeek_X4 tyX4 tyX4_ok nmX4 hK hP hD hS (pool_at (by omega)) rfl (by decide) w_X4_noteWeek_3 rfl (by decide +kernel) rfl rfl (Nat.le_of_ble_eq_true rfl) dX4_noteWeek_76 (fun H locs hP hD hS => ?_)
        have hP : va_P D vwCl (cX cT c a6 a7 n ro cl fb rn nd V V2 PR pa ++ pool n pa (per sk mo (va_up wk i 0) fx (va_up wi i 0) (va_up la i (ent (wk i) 6)) d1 (va_up we i ((we i) + (shc (wk i) 5 (7 - 5)))))) H := by rw [← per_set_wi (i := i) (by omega)]; exact hP
        have hD : va_D A (cX cT c a6 a7 n ro cl fb rn nd V V2 PR pa ++ pool n pa (per sk mo (va_up wk i 0) fx (va_up wi i 0) (va_up la i (ent (wk i) 6)) d1 (va_up we i ((we i) + (shc (wk i) 5 (7 - 5)))))) := by rw [← per_set_wi (i := i) (by omega)]; exact hD
        refine lv_aload_n S.1 S.2.1 dX4_noteWeek_79 rfl (lv_at hl 0 rfl) ?_
        refine lv_iconst (v := (nI 0)) S.1 S.2.1 dX4_noteWeek_80 (by decide) ?_
        refine w_put (C := RX4) (T := TX4) (N := 8) (v := .int (nI 0)) (ty := .int) S _ 3 3 in_X4_noteWeek_X4 tyX4 tyX4_ok nmX4 hK hP hD hS (pool_at (by omega)) rfl (by decide) w_X4_noteWeek_4 rfl (by decide +kernel) rfl rfl (Nat.le_of_ble_eq_true rfl) dX4_noteWeek_81 (fun H locs hP hD hS => ?_)
        have hP : va_P D vwCl (cX cT c a6 a7 n ro cl fb rn nd V V2 PR pa ++ pool n pa (per sk mo (va_up wk i 0) (va_up fx i 0) (va_up wi i 0) (va_up la i (ent (wk i) 6)) d1 (va_up we i ((we i) + (shc (wk i) 5 (7 - 5)))))) H := by rw [← per_set_fx (i := i) (by omega)]; exact hP
        have hD : va_D A (cX cT c a6 a7 n ro cl fb rn nd V V2 PR pa ++ pool n pa (per sk mo (va_up wk i 0) (va_up fx i 0) (va_up wi i 0) (va_up la i (ent (wk i) 6)) d1 (va_up we i ((we i) + (shc (wk i) 5 (7 - 5)))))) := by rw [← per_set_fx (i := i) (by omega)]; exact hD
        exact wr_vret S (()) hr hlocks (trivial) (by rw [hd1, show d = 7 by omega] at hP; exact hP) (by rw [hd1, show d = 7 by omega] at hD; exact hD) hS dX4_noteWeek_84
      · refine lv_aload_n S.1 S.2.1 dX4_noteWeek_8 rfl (lv_at hl 0 rfl) ?_
        refine lv_aload_n S.1 S.2.1 dX4_noteWeek_9 rfl (lv_at hl 0 rfl) ?_
        refine g_get (C := RX4) (T := TX4) (N := 8) (v := .int (nI (wk i))) S _ 3 2 in_X4_noteWeek_X4 hK hP (pool_at (by omega)) rfl (by decide) w_X4_noteWeek_0 rfl dX4_noteWeek_10 ?_
        refine lv_iload_n S.1 S.2.1 dX4_noteWeek_13 rfl (lv_at hl 1 rfl) ?_
        refine rd_callS (rest := [.ref (pa i)]) S (r_X7_at l D cT (wk i) d (by omega) (by omega)) gX4_noteWeek_X7_at rfl pd_X7_at ⟨rfl, rfl, Nat.le_of_ble_eq_true rfl, Nat.le_of_ble_eq_true rfl⟩ (sx_P0 D _) hK hl rfl rfl (Nat.le_of_ble_eq_true rfl) ⟨Nat.zero_le _, Nat.zero_le _⟩ dX4_noteWeek_14 ?_
        refine n_zne S (tgt := 24) (Nat.lt_trans (ent_lt _ _) (by decide)) dX4_noteWeek_17 (by decide) (fun c17 => ?_) (fun c17 => ?_)
        · refine lv_aload_n S.1 S.2.1 dX4_noteWeek_24 rfl (lv_at hl 0 rfl) ?_
          refine g_get (C := RX4) (T := TX4) (N := 8) (v := .int (nI (d1 i))) S _ 3 6 in_X4_noteWeek_X4 hK hP (pool_at (by omega)) rfl (by decide) w_X4_noteWeek_5 rfl dX4_noteWeek_25 ?_
          refine lv_iconst (v := (nI 1)) S.1 S.2.1 dX4_noteWeek_28 (by decide) ?_
          refine n_add S dX4_noteWeek_29 ?_
          refine w_put (C := RX4) (T := TX4) (N := 8) (v := .int (nI ((d1 i) + 1))) (ty := .int) S _ 3 6 in_X4_noteWeek_X4 tyX4 tyX4_ok nmX4 hK hP hD hS (pool_at (by omega)) rfl (by decide) w_X4_noteWeek_5 rfl (by decide +kernel) rfl rfl (Nat.le_of_ble_eq_true rfl) dX4_noteWeek_30 (fun H locs hP hD hS => ?_)
          have hP : va_P D vwCl (cX cT c a6 a7 n ro cl fb rn nd V V2 PR pa ++ pool n pa (per sk mo wk fx wi la (va_up d1 i ((d1 i) + 1)) we)) H := by rw [← per_set_da (i := i) (by omega)]; exact hP
          have hD : va_D A (cX cT c a6 a7 n ro cl fb rn nd V V2 PR pa ++ pool n pa (per sk mo wk fx wi la (va_up d1 i ((d1 i) + 1)) we)) := by rw [← per_set_da (i := i) (by omega)]; exact hD
          refine lv_iinc (v := (nI (d + 1))) (lv' := [(1, .int (nI (d + 1))), (0, .ref (pa i))]) S.1 S.2.1 dX4_noteWeek_33 hl (k := 1) rfl (nI_1 _) (by decide) rfl (fun ls hl => ?_)
          refine lv_goto (tgt := 2) S.1 S.2.1 dX4_noteWeek_36 (by decide) ?_
          exact ih2 (va_up d1 i ((d1 i) + 1)) (d + 1) (by omega) (by first | (rw [hd1, vu_s, vu_vu]; exact congrArg (va_up da i) (rnb_y (Nat.pos_of_ne_zero c17))) | (rw [hd1, vu_vu]; exact congrArg (va_up da i) (rnb_z c17))) (by omega) _ _ hP hD hS ls (lv_sub hl [1, 0] rfl)
        · refine lv_iconst (v := (nI 0)) S.1 S.2.1 dX4_noteWeek_20 (by decide) ?_
          refine lv_goto (tgt := 30) S.1 S.2.1 dX4_noteWeek_21 (by decide) ?_
          refine w_put (C := RX4) (T := TX4) (N := 8) (v := .int (nI 0)) (ty := .int) S _ 3 6 in_X4_noteWeek_X4 tyX4 tyX4_ok nmX4 hK hP hD hS (pool_at (by omega)) rfl (by decide) w_X4_noteWeek_5 rfl (by decide +kernel) rfl rfl (Nat.le_of_ble_eq_true rfl) dX4_noteWeek_30 (fun H locs hP hD hS => ?_)
          have hP : va_P D vwCl (cX cT c a6 a7 n ro cl fb rn nd V V2 PR pa ++ pool n pa (per sk mo wk fx wi la (va_up d1 i 0) we)) H := by rw [← per_set_da (i := i) (by omega)]; exact hP
          have hD : va_D A (cX cT c a6 a7 n ro cl fb rn nd V V2 PR pa ++ pool n pa (per sk mo wk fx wi la (va_up d1 i 0) we)) := by rw [← per_set_da (i := i) (by omega)]; exact hD
          refine lv_iinc (v := (nI (d + 1))) (lv' := [(1, .int (nI (d + 1))), (0, .ref (pa i))]) S.1 S.2.1 dX4_noteWeek_33 hl (k := 1) rfl (nI_1 _) (by decide) rfl (fun ls hl => ?_)
          refine lv_goto (tgt := 2) S.1 S.2.1 dX4_noteWeek_36 (by decide) ?_
          exact ih2 (va_up d1 i 0) (d + 1) (by omega) (by first | (rw [hd1, vu_s, vu_vu]; exact congrArg (va_up da i) (rnb_y (Nat.pos_of_ne_zero c17))) | (rw [hd1, vu_vu]; exact congrArg (va_up da i) (rnb_z c17))) (by omega) _ _ hP hD hS ls (lv_sub hl [1, 0] rfl)
  exact lp2 _ da 0 (Nat.zero_le _) (vu_id.symm) (Nat.lt_succ_self _) _ _ hP hD hS ls (lv_sub hl [1, 0] rfl)

theorem pd_X5_put : yX5_put.cls = RX5 ∧ yX5_put.cls ≠ "java/lang/invoke/MethodHandle" ∧ yX5_put.cls ≠ "java/lang/invoke/VarHandle" ∧ (parseMethodDescriptor yX5_put.desc).map (fun d => d.parameters.length) = some 3 := by decide +kernel
theorem w_X5_put_0 : Cond.fieldLink RX5 15 "CoverSheet$Pricing" "prices" "[J" ∈ wsX5_put := by decide +kernel
theorem in_X5_put_X5 : ∀ w ∈ u_ws RX5 TX5 1, w ∈ wsX5_put := by decide +kernel
set_option maxHeartbeats 4000000 in
set_option maxRecDepth 100000 in
theorem r_X5_put (l : Launch) (D : va_G) (cT : ClassId × ClassId × ClassId) (sz : Nat) (c pa : Nat → Nat) (bd a6 a7 n ro cl fb rn : Nat) (nd sk mo wk fx wi la da we : Nat → Nat) (V V2 PR : Nat → Int64) (d e : Nat) (v : Int64) (hwf : wfC n bd fb rn nd sk mo wk fx wi la da we) (hd : d < 7) (he : e < 4) : Met l yX5_put wsX5_put ({ frames := 0, cells := 0, slots := 0, locals := 0 } : Room) (va_Pc [.ref (c 9), .int (nI d), .int (nI e), .long v] (wr_R D (TY cT) (cX cT c a6 a7 n ro cl fb rn nd V V2 PR pa ++ pool n pa (per sk mo wk fx wi la da we)) sz)) (wQv (fun (_ : Unit) => True) D (fun (_ : Unit) => cX cT c a6 a7 n ro cl fb rn nd V V2 (vp_updL PR (d * 4 + e) v) pa ++ pool n pa (per sk mo wk fx wi la da we)) (va_A (cX cT c a6 a7 n ro cl fb rn nd V V2 PR pa ++ pool n pa (per sk mo wk fx wi la da we)) sz)) 0 0 (va_A (cX cT c a6 a7 n ro cl fb rn nd V V2 PR pa ++ pool n pa (per sk mo wk fx wi la da we)) sz) := by
  refine wr_start (cc := cX5_put) (maxL := 6) (ret := none) RX5 ⟨by decide +kernel, rfl⟩ rfl (Nat.le_of_ble_eq_true rfl) ?_
  intro p0 e0 s0 m0 a0 b0 t0 c0 S hr hlocks hin hP hK hA hD hS ls hl
  generalize va_A (cX cT c a6 a7 n ro cl fb rn nd V V2 PR pa ++ pool n pa (per sk mo wk fx wi la da we)) sz = A at hA hD hS ⊢
  have hl : lv_has ls 6 [(0, .ref (c 9)), (1, .int (nI d)), (2, .int (nI e)), (3, .long v)] := hl
  obtain ⟨hn, hcl, hfb, hrn, hnd, hper⟩ := id hwf
  refine lv_iload_n S.1 S.2.1 dX5_put_0 rfl (lv_at hl 1 rfl) ?_
  refine lv_iconst (v := (nI 4)) S.1 S.2.1 dX5_put_1 (by decide) ?_
  refine n_mul S dX5_put_2 ?_
  refine lv_iload_n S.1 S.2.1 dX5_put_3 rfl (lv_at hl 2 rfl) ?_
  refine n_add S dX5_put_4 ?_
  refine lv_istore (lv' := [(5, .int (nI ((d * 4) + e))), (0, .ref (c 9)), (1, .int (nI d)), (2, .int (nI e)), (3, .long v)]) S.1 S.2.1 dX5_put_5 hl (by decide) rfl (fun ls hl => ?_)
  refine lv_iload S.1 S.2.1 dX5_put_7 (lv_at hl 0 rfl) ?_
  refine n_zlt S (tgt := 30) (by omega) dX5_put_9 (by decide) ?_
  refine lv_iload S.1 S.2.1 dX5_put_12 (lv_at hl 0 rfl) ?_
  refine lv_aload_n S.1 S.2.1 dX5_put_14 rfl (lv_at hl 1 rfl) ?_
  refine g_get (C := RX5) (T := TX5) (N := 1) (v := .ref (c 10)) S 9 4 0 in_X5_put_X5 hK hP rfl rfl (by decide) w_X5_put_0 rfl dX5_put_15 ?_
  refine g_alen S 10 1 hK hP rfl rfl dX5_put_18 ?_
  refine n_cge S (tgt := 30) (by omega) dX5_put_19 (by decide) (fun c19 => ?_) (fun c19 => ?_)
  · exact absurd c19 (by omega)
  refine lv_aload_n S.1 S.2.1 dX5_put_22 rfl (lv_at hl 1 rfl) ?_
  refine g_get (C := RX5) (T := TX5) (N := 1) (v := .ref (c 10)) S 9 4 0 in_X5_put_X5 hK hP rfl rfl (by decide) w_X5_put_0 rfl dX5_put_23 ?_
  refine lv_iload S.1 S.2.1 dX5_put_26 (lv_at hl 0 rfl) ?_
  refine lv_lload_n S.1 S.2.1 dX5_put_28 rfl (lv_at hl 4 rfl) ?_
  refine w_last S 10 hK hP hD hS rfl (by omega) dX5_put_29 (fun H locs hP hD hS => ?_)
  have hP : va_P D vwCl (cX cT c a6 a7 n ro cl fb rn nd V V2 (vp_updL PR ((d * 4) + e) v) pa ++ pool n pa (per sk mo wk fx wi la da we)) H := hP
  have hD : va_D A (cX cT c a6 a7 n ro cl fb rn nd V V2 (vp_updL PR ((d * 4) + e) v) pa ++ pool n pa (per sk mo wk fx wi la da we)) := hD
  exact wr_vret S (()) hr hlocks (trivial) (hP) (hD) hS dX5_put_30

theorem pd_X8_setNeed : yX8_setNeed.cls = RX8 ∧ yX8_setNeed.cls ≠ "java/lang/invoke/MethodHandle" ∧ yX8_setNeed.cls ≠ "java/lang/invoke/VarHandle" ∧ (parseMethodDescriptor yX8_setNeed.desc).map (fun d => d.parameters.length) = some 3 := by decide +kernel
theorem w_X8_setNeed_0 : Cond.fieldLink RX8 18 "CoverSheet" "needs" "LCoverSheet$Needs;" ∈ wsX8_setNeed := by decide +kernel
theorem in_X8_setNeed_X8 : ∀ w ∈ u_ws RX8 TX8 9, w ∈ wsX8_setNeed := by decide +kernel
set_option maxHeartbeats 4000000 in
set_option maxRecDepth 100000 in
theorem w_X8_setNeed (l : Launch) (D : va_G) (cT : ClassId × ClassId × ClassId) (sz : Nat) (c pa : Nat → Nat) (bd a6 a7 n ro cl fb rn : Nat) (nd sk mo wk fx wi la da we : Nat → Nat) (V V2 PR : Nat → Int64) (d : Nat) (e : Nat) (v : Nat) (hwf : wfC n bd fb rn nd sk mo wk fx wi la da we) (hd : d < 7) (he : 1 ≤ e ∧ e < 4) (hv : v < 6) : Met l yX8_setNeed wsX8_setNeed ({ frames := 1, cells := 0, slots := 0, locals := 24 } : Room) (va_Pc [.ref (c 0), .int (nI d), .int (nI e), .int (nI v)] (wr_R D (TY cT) (cX cT c a6 a7 n ro cl fb rn nd V V2 PR pa ++ pool n pa (per sk mo wk fx wi la da we)) sz)) (wQi (fun (r_ : Int32) (_ : Unit) => r_ = (nI (nd (d * 4 + e)))) D (fun (_ : Unit) => cX cT c a6 a7 n ro cl fb rn (va_up nd (d * 4 + e) v) V V2 PR pa ++ pool n pa (per sk mo wk fx wi la da we)) (va_A (cX cT c a6 a7 n ro cl fb rn nd V V2 PR pa ++ pool n pa (per sk mo wk fx wi la da we)) sz)) 0 0 (va_A (cX cT c a6 a7 n ro cl fb rn nd V V2 PR pa ++ pool n pa (per sk mo wk fx wi la da we)) sz) := by
  refine wr_start (cc := cX8_setNeed) (maxL := 5) (ret := (some .int)) RX8 ⟨by decide +kernel, rfl⟩ rfl (Nat.le_of_ble_eq_true rfl) ?_
  intro p0 e0 s0 m0 a0 b0 t0 c0 S hr hlocks hin hP hK hA hD hS ls hl
  generalize va_A (cX cT c a6 a7 n ro cl fb rn nd V V2 PR pa ++ pool n pa (per sk mo wk fx wi la da we)) sz = A at hA hD hS ⊢
  have hl : lv_has ls 5 [(0, .ref (c 0)), (1, .int (nI d)), (2, .int (nI e)), (3, .int (nI v))] := hl
  obtain ⟨hn, hcl, hfb, hrn, hnd, hper⟩ := id hwf
  refine lv_iload_n S.1 S.2.1 dX8_setNeed_0 rfl (lv_at hl 1 rfl) ?_
  refine rd_callS (rest := []) S (r_X8_isDay l D cT d (by omega)) gX8_setNeed_X8_isDay rfl pd_X8_isDay ⟨rfl, rfl, Nat.le_of_ble_eq_true rfl, Nat.le_of_ble_eq_true rfl⟩ (sx_P0 D _) hK hl rfl rfl (Nat.le_of_ble_eq_true rfl) ⟨Nat.zero_le _, Nat.zero_le _⟩ dX8_setNeed_1 ?_
  refine n_beq S (tgt := 14) dX8_setNeed_4 (by decide) (fun q => absurd q (by decide)) (fun _ => ?_)
  refine lv_iload_n S.1 S.2.1 dX8_setNeed_7 rfl (lv_at hl 2 rfl) ?_
  refine rd_callS (rest := []) S (r_X8_isKind l D cT e (by omega)) gX8_setNeed_X8_isKind rfl pd_X8_isKind ⟨rfl, rfl, Nat.le_of_ble_eq_true rfl, Nat.le_of_ble_eq_true rfl⟩ (sx_P0 D _) hK hl rfl rfl (Nat.le_of_ble_eq_true rfl) ⟨Nat.zero_le _, Nat.zero_le _⟩ dX8_setNeed_8 ?_
  refine n_bne S (tgt := 24) dX8_setNeed_11 (by decide) (fun _ => ?_) (fun q => absurd q (by decide))
  refine lv_iload_n S.1 S.2.1 dX8_setNeed_24 rfl (lv_at hl 3 rfl) ?_
  refine n_zlt S (tgt := 33) (by omega) dX8_setNeed_25 (by decide) ?_
  refine lv_iload_n S.1 S.2.1 dX8_setNeed_28 rfl (lv_at hl 3 rfl) ?_
  refine lv_iconst (v := (nI 5)) S.1 S.2.1 dX8_setNeed_29 (by decide) ?_
  refine n_cle S (tgt := 43) (by omega) dX8_setNeed_30 (by decide) (fun c30 => ?_) (fun c30 => ?_)
  rotate_left
  · exact absurd c30 (by omega)
  refine lv_aload_n S.1 S.2.1 dX8_setNeed_43 rfl (lv_at hl 0 rfl) ?_
  refine g_get (C := RX8) (T := TX8) (N := 9) (v := .ref (c 2)) S 0 6 1 in_X8_setNeed_X8 hK hP rfl rfl (by decide) w_X8_setNeed_0 rfl dX8_setNeed_44 ?_
  refine lv_iload_n S.1 S.2.1 dX8_setNeed_47 rfl (lv_at hl 1 rfl) ?_
  refine lv_iload_n S.1 S.2.1 dX8_setNeed_48 rfl (lv_at hl 2 rfl) ?_
  refine rd_callV (rest := []) S (r_X3_of l D cT (c 2) (c 3) nd d e (by omega) (by omega)) gX8_setNeed_X3_of rfl pd_X3_of ⟨rfl, rfl, Nat.le_of_ble_eq_true rfl, Nat.le_of_ble_eq_true rfl⟩ (sx_P2 (hP.sub (ws' := [(c 2, .inr (2, [.ref (c 3)]))]) [2] rfl) (hP.sub (ws' := [(c 3, .inl (cT.1, 28, .inl (fun k => nI (nd k))))]) [3] rfl)) hK (va_recv hK.1 hP (ci := 2) (q0 := 2) rfl rfl) hl rfl rfl (Nat.le_of_ble_eq_true rfl) ⟨Nat.zero_le _, Nat.zero_le _⟩ dX8_setNeed_49 ?_
  refine lv_istore (lv' := [(4, .int (nI (nd (d * 4 + e)))), (0, .ref (c 0)), (1, .int (nI d)), (2, .int (nI e)), (3, .int (nI v))]) S.1 S.2.1 dX8_setNeed_52 hl (by decide) rfl (fun ls hl => ?_)
  refine lv_aload_n S.1 S.2.1 dX8_setNeed_54 rfl (lv_at hl 1 rfl) ?_
  refine g_get (C := RX8) (T := TX8) (N := 9) (v := .ref (c 2)) S 0 6 1 in_X8_setNeed_X8 hK hP rfl rfl (by decide) w_X8_setNeed_0 rfl dX8_setNeed_55 ?_
  refine lv_iload_n S.1 S.2.1 dX8_setNeed_58 rfl (lv_at hl 2 rfl) ?_
  refine lv_iload_n S.1 S.2.1 dX8_setNeed_59 rfl (lv_at hl 3 rfl) ?_
  refine lv_iload_n S.1 S.2.1 dX8_setNeed_60 rfl (lv_at hl 4 rfl) ?_
  refine wr_callVv (rest := []) S (r_X3_put l D cT _ c pa bd a6 a7 n ro cl fb rn nd sk mo wk fx wi la da we V V2 PR d e v (hwf) (by omega) (by omega)) gX8_setNeed_X3_put rfl pd_X3_put ⟨rfl, rfl, Nat.le_of_ble_eq_true rfl, Nat.le_of_ble_eq_true rfl⟩ hP hK hD hS hA (va_recv hK.1 hP (ci := 2) (q0 := 2) rfl rfl) hl rfl rfl (Nat.le_of_ble_eq_true rfl) ⟨Nat.zero_le _, Nat.zero_le _⟩ dX8_setNeed_61 (fun u_ H locs hr_ hP hD hS => ?_)
  have hP : va_P D vwCl (cX cT c a6 a7 n ro cl fb rn (va_up nd (d * 4 + e) v) V V2 PR pa ++ pool n pa (per sk mo wk fx wi la da we)) H := hP
  have hD : va_D A (cX cT c a6 a7 n ro cl fb rn (va_up nd (d * 4 + e) v) V V2 PR pa ++ pool n pa (per sk mo wk fx wi la da we)) := hD
  refine lv_iload S.1 S.2.1 dX8_setNeed_64 (lv_at hl 0 rfl) ?_
  exact wr_iret S (()) hr rfl hlocks (rfl) (hP) (hD) hS dX8_setNeed_66

theorem pd_X8_setRun : yX8_setRun.cls = RX8 ∧ yX8_setRun.cls ≠ "java/lang/invoke/MethodHandle" ∧ yX8_setRun.cls ≠ "java/lang/invoke/VarHandle" ∧ (parseMethodDescriptor yX8_setRun.desc).map (fun d => d.parameters.length) = some 1 := by decide +kernel
theorem w_X8_setRun_0 : Cond.fieldLink RX8 25 "CoverSheet" "rules" "LCoverSheet$Rules;" ∈ wsX8_setRun := by decide +kernel
theorem in_X8_setRun_X6 : ∀ w ∈ u_ws RX6 TX6 2, w ∈ wsX8_setRun := by decide +kernel
theorem in_X8_setRun_X8 : ∀ w ∈ u_ws RX8 TX8 9, w ∈ wsX8_setRun := by decide +kernel
set_option maxHeartbeats 4000000 in
set_option maxRecDepth 100000 in
theorem w_X8_setRun (l : Launch) (D : va_G) (cT : ClassId × ClassId × ClassId) (sz : Nat) (c pa : Nat → Nat) (bd a6 a7 n ro cl fb rn : Nat) (nd sk mo wk fx wi la da we : Nat → Nat) (V V2 PR : Nat → Int64) (v : Nat) (hwf : wfC n bd fb rn nd sk mo wk fx wi la da we) (hv : 1 ≤ v ∧ v < 15) : Met l yX8_setRun wsX8_setRun ({ frames := 0, cells := 0, slots := 0, locals := 0 } : Room) (va_Pc [.ref (c 0), .int (nI v)] (wr_R D (TY cT) (cX cT c a6 a7 n ro cl fb rn nd V V2 PR pa ++ pool n pa (per sk mo wk fx wi la da we)) sz)) (wQi (fun (r_ : Int32) (_ : Unit) => r_ = (nI rn)) D (fun (_ : Unit) => cX cT c a6 a7 n ro cl fb v nd V V2 PR pa ++ pool n pa (per sk mo wk fx wi la da we)) (va_A (cX cT c a6 a7 n ro cl fb rn nd V V2 PR pa ++ pool n pa (per sk mo wk fx wi la da we)) sz)) 0 0 (va_A (cX cT c a6 a7 n ro cl fb rn nd V V2 PR pa ++ pool n pa (per sk mo wk fx wi la da we)) sz) := by
  refine wr_start (cc := cX8_setRun) (maxL := 3) (ret := (some .int)) RX8 ⟨by decide +kernel, rfl⟩ rfl (Nat.le_of_ble_eq_true rfl) ?_
  intro p0 e0 s0 m0 a0 b0 t0 c0 S hr hlocks hin hP hK hA hD hS ls hl
  generalize va_A (cX cT c a6 a7 n ro cl fb rn nd V V2 PR pa ++ pool n pa (per sk mo wk fx wi la da we)) sz = A at hA hD hS ⊢
  have hl : lv_has ls 3 [(0, .ref (c 0)), (1, .int (nI v))] := hl
  obtain ⟨hn, hcl, hfb, hrn, hnd, hper⟩ := id hwf
  refine lv_iload_n S.1 S.2.1 dX8_setRun_0 rfl (lv_at hl 1 rfl) ?_
  refine lv_iconst (v := (nI 1)) S.1 S.2.1 dX8_setRun_1 (by decide) ?_
  refine n_clt S (tgt := 11) (by omega) dX8_setRun_2 (by decide) (fun c2 => ?_) (fun c2 => ?_)
  · exact absurd c2 (by omega)
  refine lv_iload_n S.1 S.2.1 dX8_setRun_5 rfl (lv_at hl 1 rfl) ?_
  refine lv_bipush (v := (nI 14)) S.1 S.2.1 dX8_setRun_6 (by decide) ?_
  refine n_cle S (tgt := 21) (by omega) dX8_setRun_8 (by decide) (fun c8 => ?_) (fun c8 => ?_)
  rotate_left
  · exact absurd c8 (by omega)
  refine lv_aload_n S.1 S.2.1 dX8_setRun_21 rfl (lv_at hl 0 rfl) ?_
  refine g_get (C := RX8) (T := TX8) (N := 9) (v := .ref (c 4)) S 0 6 2 in_X8_setRun_X8 hK hP rfl rfl (by decide) w_X8_setRun_0 rfl dX8_setRun_22 ?_
  refine g_getN (C := RX6) (T := TX6) (N := 2) (v := .int (nI rn)) S 4 5 1 in_X8_setRun_X6 hK hP rfl rfl (by decide) (List.mem_of_getElem? (i := 2) rfl) rfl dX8_setRun_25 ?_
  refine lv_istore_n (lv' := [(2, .int (nI rn)), (0, .ref (c 0)), (1, .int (nI v))]) S.1 S.2.1 dX8_setRun_28 rfl hl (by decide) rfl (fun ls hl => ?_)
  refine lv_aload_n S.1 S.2.1 dX8_setRun_29 rfl (lv_at hl 1 rfl) ?_
  refine g_get (C := RX8) (T := TX8) (N := 9) (v := .ref (c 4)) S 0 6 2 in_X8_setRun_X8 hK hP rfl rfl (by decide) w_X8_setRun_0 rfl dX8_setRun_30 ?_
  refine lv_iload_n S.1 S.2.1 dX8_setRun_33 rfl (lv_at hl 2 rfl) ?_
  refine w_putN (C := RX6) (T := TX6) (N := 2) (v := .int (nI v)) (ty := .int) S 4 5 1 in_X8_setRun_X6 tyX6 tyX6_ok nmX6 hK hP hD hS rfl rfl (by decide) (List.mem_of_getElem? (i := 2) rfl) rfl (by decide +kernel) rfl rfl (Nat.le_of_ble_eq_true rfl) dX8_setRun_34 (fun H locs hP hD hS => ?_)
  have hP : va_P D vwCl (cX cT c a6 a7 n ro cl fb v nd V V2 PR pa ++ pool n pa (per sk mo wk fx wi la da we)) H := hP
  have hD : va_D A (cX cT c a6 a7 n ro cl fb v nd V V2 PR pa ++ pool n pa (per sk mo wk fx wi la da we)) := hD
  refine lv_iload_n S.1 S.2.1 dX8_setRun_37 rfl (lv_at hl 0 rfl) ?_
  exact wr_iret S (()) hr rfl hlocks (rfl) (hP) (hD) hS dX8_setRun_38

theorem pd_X8_forbid : yX8_forbid.cls = RX8 ∧ yX8_forbid.cls ≠ "java/lang/invoke/MethodHandle" ∧ yX8_forbid.cls ≠ "java/lang/invoke/VarHandle" ∧ (parseMethodDescriptor yX8_forbid.desc).map (fun d => d.parameters.length) = some 3 := by decide +kernel
theorem w_X8_forbid_0 : Cond.fieldLink RX8 25 "CoverSheet" "rules" "LCoverSheet$Rules;" ∈ wsX8_forbid := by decide +kernel
theorem in_X8_forbid_X8 : ∀ w ∈ u_ws RX8 TX8 9, w ∈ wsX8_forbid := by decide +kernel
set_option maxHeartbeats 4000000 in
set_option maxRecDepth 100000 in
theorem w_X8_forbid_true (l : Launch) (D : va_G) (cT : ClassId × ClassId × ClassId) (sz : Nat) (c pa : Nat → Nat) (bd a6 a7 n ro cl fb rn : Nat) (nd sk mo wk fx wi la da we : Nat → Nat) (V V2 PR : Nat → Int64) (e f : Nat) (hwf : wfC n bd fb rn nd sk mo wk fx wi la da we) (he : 1 ≤ e ∧ e < 4) (hf : 1 ≤ f ∧ f < 4) : Met l yX8_forbid wsX8_forbid ({ frames := 2, cells := 0, slots := 0, locals := 45 } : Room) (va_Pc [.ref (c 0), .int (nI e), .int (nI f), .int (nI true.toNat)] (wr_R D (TY cT) (cX cT c a6 a7 n ro cl fb rn nd V V2 PR pa ++ pool n pa (per sk mo wk fx wi la da we)) sz)) (wQi (fun (r_ : Int32) (_ : Unit) => r_ = (nI (bit fb (4 * e + f) != 1).toNat)) D (fun (_ : Unit) => cX cT c a6 a7 n ro cl (bset fb (4 * e + f) 1) rn nd V V2 PR pa ++ pool n pa (per sk mo wk fx wi la da we)) (va_A (cX cT c a6 a7 n ro cl fb rn nd V V2 PR pa ++ pool n pa (per sk mo wk fx wi la da we)) sz)) 0 0 (va_A (cX cT c a6 a7 n ro cl fb rn nd V V2 PR pa ++ pool n pa (per sk mo wk fx wi la da we)) sz) := by
  refine wr_start (cc := cX8_forbid) (maxL := 4) (ret := (some .boolean)) RX8 ⟨by decide +kernel, rfl⟩ rfl (Nat.le_of_ble_eq_true rfl) ?_
  intro p0 e0 s0 m0 a0 b0 t0 c0 S hr hlocks hin hP hK hA hD hS ls hl
  generalize va_A (cX cT c a6 a7 n ro cl fb rn nd V V2 PR pa ++ pool n pa (per sk mo wk fx wi la da we)) sz = A at hA hD hS ⊢
  have hl : lv_has ls 4 [(0, .ref (c 0)), (1, .int (nI e)), (2, .int (nI f)), (3, .int (nI true.toNat))] := hl
  obtain ⟨hn, hcl, hfb, hrn, hnd, hper⟩ := id hwf
  refine lv_iload_n S.1 S.2.1 dX8_forbid_0 rfl (lv_at hl 1 rfl) ?_
  refine rd_callS (rest := []) S (r_X8_isKind l D cT e (by omega)) gX8_forbid_X8_isKind rfl pd_X8_isKind ⟨rfl, rfl, Nat.le_of_ble_eq_true rfl, Nat.le_of_ble_eq_true rfl⟩ (sx_P0 D _) hK hl rfl rfl (Nat.le_of_ble_eq_true rfl) ⟨Nat.zero_le _, Nat.zero_le _⟩ dX8_forbid_1 ?_
  refine n_beq S (tgt := 14) dX8_forbid_4 (by decide) (fun q => absurd q (by decide)) (fun _ => ?_)
  refine lv_iload_n S.1 S.2.1 dX8_forbid_7 rfl (lv_at hl 2 rfl) ?_
  refine rd_callS (rest := []) S (r_X8_isKind l D cT f (by omega)) gX8_forbid_X8_isKind rfl pd_X8_isKind ⟨rfl, rfl, Nat.le_of_ble_eq_true rfl, Nat.le_of_ble_eq_true rfl⟩ (sx_P0 D _) hK hl rfl rfl (Nat.le_of_ble_eq_true rfl) ⟨Nat.zero_le _, Nat.zero_le _⟩ dX8_forbid_8 ?_
  refine n_bne S (tgt := 24) dX8_forbid_11 (by decide) (fun _ => ?_) (fun q => absurd q (by decide))
  refine lv_aload_n S.1 S.2.1 dX8_forbid_24 rfl (lv_at hl 0 rfl) ?_
  refine g_get (C := RX8) (T := TX8) (N := 9) (v := .ref (c 4)) S 0 6 2 in_X8_forbid_X8 hK hP rfl rfl (by decide) w_X8_forbid_0 rfl dX8_forbid_25 ?_
  refine lv_iload_n S.1 S.2.1 dX8_forbid_28 rfl (lv_at hl 1 rfl) ?_
  refine lv_iload_n S.1 S.2.1 dX8_forbid_29 rfl (lv_at hl 2 rfl) ?_
  refine lv_iload_n S.1 S.2.1 dX8_forbid_30 rfl (lv_at hl 3 rfl) ?_
  refine wr_callVi (rest := []) S (w_X6_changeFollowing_true l D cT _ c pa bd a6 a7 n ro cl fb rn nd sk mo wk fx wi la da we V V2 PR e f (hwf) (by omega) (by omega)) gX8_forbid_X6_changeFollowing rfl pd_X6_changeFollowing ⟨rfl, rfl, Nat.le_of_ble_eq_true rfl, Nat.le_of_ble_eq_true rfl⟩ hP hK hD hS hA (va_recv hK.1 hP (ci := 5) (q0 := 4) rfl rfl) hl rfl rfl (Nat.le_of_ble_eq_true rfl) ⟨Nat.zero_le _, Nat.zero_le _⟩ dX8_forbid_31 (fun r_ u_ H locs hr_ hP hD hS => ?_)
  subst hr_
  have hP : va_P D vwCl (cX cT c a6 a7 n ro cl (bset fb (4 * e + f) 1) rn nd V V2 PR pa ++ pool n pa (per sk mo wk fx wi la da we)) H := hP
  have hD : va_D A (cX cT c a6 a7 n ro cl (bset fb (4 * e + f) 1) rn nd V V2 PR pa ++ pool n pa (per sk mo wk fx wi la da we)) := hD
  exact wr_iret S (()) hr (sx_bt _) hlocks (rfl) (hP) (hD) hS dX8_forbid_34

theorem pd_X8_wish : yX8_wish.cls = RX8 ∧ yX8_wish.cls ≠ "java/lang/invoke/MethodHandle" ∧ yX8_wish.cls ≠ "java/lang/invoke/VarHandle" ∧ (parseMethodDescriptor yX8_wish.desc).map (fun d => d.parameters.length) = some 3 := by decide +kernel
set_option maxHeartbeats 4000000 in
set_option maxRecDepth 100000 in
theorem w_X8_wish_true (l : Launch) (D : va_G) (cT : ClassId × ClassId × ClassId) (sz : Nat) (c pa : Nat → Nat) (bd a6 a7 n ro cl fb rn : Nat) (nd sk mo wk fx wi la da we : Nat → Nat) (V V2 PR : Nat → Int64) (i d : Nat) (hwf : wfC n bd fb rn nd sk mo wk fx wi la da we) (hi : i < n) (hd : d < 7) : Met l yX8_wish wsX8_wish ({ frames := 1, cells := 0, slots := 0, locals := 23 } : Room) (va_Pc [.ref (c 0), .int (nI i), .int (nI d), .int (nI true.toNat)] (wr_R D (TY cT) (cX cT c a6 a7 n ro cl fb rn nd V V2 PR pa ++ pool n pa (per sk mo wk fx wi la da we)) sz)) (wQi (fun (r_ : Int32) (_ : Unit) => r_ = (nI (bit (wi i) d != 1).toNat)) D (fun (_ : Unit) => cX cT c a6 a7 n ro cl fb rn nd V V2 PR pa ++ pool n pa (per sk mo wk fx (va_up wi i (bset (wi i) d 1)) la da we)) (va_A (cX cT c a6 a7 n ro cl fb rn nd V V2 PR pa ++ pool n pa (per sk mo wk fx wi la da we)) sz)) 0 0 (va_A (cX cT c a6 a7 n ro cl fb rn nd V V2 PR pa ++ pool n pa (per sk mo wk fx wi la da we)) sz) := by
  refine wr_start (cc := cX8_wish) (maxL := 5) (ret := (some .boolean)) RX8 ⟨by decide +kernel, rfl⟩ rfl (Nat.le_of_ble_eq_true rfl) ?_
  intro p0 e0 s0 m0 a0 b0 t0 c0 S hr hlocks hin hP hK hA hD hS ls hl
  generalize va_A (cX cT c a6 a7 n ro cl fb rn nd V V2 PR pa ++ pool n pa (per sk mo wk fx wi la da we)) sz = A at hA hD hS ⊢
  have hl : lv_has ls 5 [(0, .ref (c 0)), (1, .int (nI i)), (2, .int (nI d)), (3, .int (nI true.toNat))] := hl
  obtain ⟨hn, hcl, hfb, hrn, hnd, hper⟩ := id hwf
  refine lv_aload_n S.1 S.2.1 dX8_wish_0 rfl (lv_at hl 0 rfl) ?_
  refine lv_iload_n S.1 S.2.1 dX8_wish_1 rfl (lv_at hl 1 rfl) ?_
  refine rd_callVr (rest := []) S (r_X8_personAt l D cT c pa bd a6 a7 n ro cl fb rn nd sk mo wk fx wi la da we V V2 PR i (hwf) (by omega)) gX8_wish_X8_personAt rfl pd_X8_personAt ⟨rfl, rfl, Nat.le_of_ble_eq_true rfl, Nat.le_of_ble_eq_true rfl⟩ hP hK (va_recv hK.1 hP (ci := 6) (q0 := 0) rfl rfl) hl rfl rfl (Nat.le_of_ble_eq_true rfl) ⟨Nat.zero_le _, Nat.zero_le _⟩ dX8_wish_2 ?_
  refine lv_astore (lv' := [(4, .ref (pa i)), (0, .ref (c 0)), (1, .int (nI i)), (2, .int (nI d)), (3, .int (nI true.toNat))]) S.1 S.2.1 dX8_wish_5 hl (by decide) rfl (fun ls hl => ?_)
  refine lv_aload S.1 S.2.1 dX8_wish_7 (lv_at hl 0 rfl) ?_
  refine lv_ifnull S.1 S.2.1 dX8_wish_9 ?_
  refine lv_iload_n S.1 S.2.1 dX8_wish_12 rfl (lv_at hl 3 rfl) ?_
  refine rd_callS (rest := []) S (r_X8_isDay l D cT d (by omega)) gX8_wish_X8_isDay rfl pd_X8_isDay ⟨rfl, rfl, Nat.le_of_ble_eq_true rfl, Nat.le_of_ble_eq_true rfl⟩ (sx_P0 D _) hK hl rfl rfl (Nat.le_of_ble_eq_true rfl) ⟨Nat.zero_le _, Nat.zero_le _⟩ dX8_wish_13 ?_
  refine n_bne S (tgt := 29) dX8_wish_16 (by decide) (fun _ => ?_) (fun q => absurd q (by decide))
  refine lv_aload S.1 S.2.1 dX8_wish_29 (lv_at hl 0 rfl) ?_
  refine lv_iload_n S.1 S.2.1 dX8_wish_31 rfl (lv_at hl 3 rfl) ?_
  refine lv_iload_n S.1 S.2.1 dX8_wish_32 rfl (lv_at hl 4 rfl) ?_
  refine wr_callVi (rest := []) S (w_X4_changeWish_true l D cT _ c pa bd a6 a7 n ro cl fb rn nd sk mo wk fx wi la da we V V2 PR i d (hwf) (by omega) (by omega)) gX8_wish_X4_changeWish rfl pd_X4_changeWish ⟨rfl, rfl, Nat.le_of_ble_eq_true rfl, Nat.le_of_ble_eq_true rfl⟩ hP hK hD hS hA (va_recv hK.1 hP (ci := 3) (q0 := _) rfl (pool_at (by omega))) hl rfl rfl (Nat.le_of_ble_eq_true rfl) ⟨Nat.zero_le _, Nat.zero_le _⟩ dX8_wish_33 (fun r_ u_ H locs hr_ hP hD hS => ?_)
  subst hr_
  have hP : va_P D vwCl (cX cT c a6 a7 n ro cl fb rn nd V V2 PR pa ++ pool n pa (per sk mo wk fx (va_up wi i (bset (wi i) d 1)) la da we)) H := hP
  have hD : va_D A (cX cT c a6 a7 n ro cl fb rn nd V V2 PR pa ++ pool n pa (per sk mo wk fx (va_up wi i (bset (wi i) d 1)) la da we)) := hD
  exact wr_iret S (()) hr (sx_bt _) hlocks (rfl) (hP) (hD) hS dX8_wish_36

set_option maxHeartbeats 4000000 in
set_option maxRecDepth 100000 in
theorem w_X8_forbid_false (l : Launch) (D : va_G) (cT : ClassId × ClassId × ClassId) (sz : Nat) (c pa : Nat → Nat) (bd a6 a7 n ro cl fb rn : Nat) (nd sk mo wk fx wi la da we : Nat → Nat) (V V2 PR : Nat → Int64) (e f : Nat) (hwf : wfC n bd fb rn nd sk mo wk fx wi la da we) (he : 1 ≤ e ∧ e < 4) (hf : 1 ≤ f ∧ f < 4) : Met l yX8_forbid wsX8_forbid ({ frames := 2, cells := 0, slots := 0, locals := 45 } : Room) (va_Pc [.ref (c 0), .int (nI e), .int (nI f), .int (nI false.toNat)] (wr_R D (TY cT) (cX cT c a6 a7 n ro cl fb rn nd V V2 PR pa ++ pool n pa (per sk mo wk fx wi la da we)) sz)) (wQi (fun (r_ : Int32) (_ : Unit) => r_ = (nI (bit fb (4 * e + f) != 0).toNat)) D (fun (_ : Unit) => cX cT c a6 a7 n ro cl (bset fb (4 * e + f) 0) rn nd V V2 PR pa ++ pool n pa (per sk mo wk fx wi la da we)) (va_A (cX cT c a6 a7 n ro cl fb rn nd V V2 PR pa ++ pool n pa (per sk mo wk fx wi la da we)) sz)) 0 0 (va_A (cX cT c a6 a7 n ro cl fb rn nd V V2 PR pa ++ pool n pa (per sk mo wk fx wi la da we)) sz) := by
  refine wr_start (cc := cX8_forbid) (maxL := 4) (ret := (some .boolean)) RX8 ⟨by decide +kernel, rfl⟩ rfl (Nat.le_of_ble_eq_true rfl) ?_
  intro p0 e0 s0 m0 a0 b0 t0 c0 S hr hlocks hin hP hK hA hD hS ls hl
  generalize va_A (cX cT c a6 a7 n ro cl fb rn nd V V2 PR pa ++ pool n pa (per sk mo wk fx wi la da we)) sz = A at hA hD hS ⊢
  have hl : lv_has ls 4 [(0, .ref (c 0)), (1, .int (nI e)), (2, .int (nI f)), (3, .int (nI false.toNat))] := hl
  obtain ⟨hn, hcl, hfb, hrn, hnd, hper⟩ := id hwf
  refine lv_iload_n S.1 S.2.1 dX8_forbid_0 rfl (lv_at hl 1 rfl) ?_
  refine rd_callS (rest := []) S (r_X8_isKind l D cT e (by omega)) gX8_forbid_X8_isKind rfl pd_X8_isKind ⟨rfl, rfl, Nat.le_of_ble_eq_true rfl, Nat.le_of_ble_eq_true rfl⟩ (sx_P0 D _) hK hl rfl rfl (Nat.le_of_ble_eq_true rfl) ⟨Nat.zero_le _, Nat.zero_le _⟩ dX8_forbid_1 ?_
  refine n_beq S (tgt := 14) dX8_forbid_4 (by decide) (fun q => absurd q (by decide)) (fun _ => ?_)
  refine lv_iload_n S.1 S.2.1 dX8_forbid_7 rfl (lv_at hl 2 rfl) ?_
  refine rd_callS (rest := []) S (r_X8_isKind l D cT f (by omega)) gX8_forbid_X8_isKind rfl pd_X8_isKind ⟨rfl, rfl, Nat.le_of_ble_eq_true rfl, Nat.le_of_ble_eq_true rfl⟩ (sx_P0 D _) hK hl rfl rfl (Nat.le_of_ble_eq_true rfl) ⟨Nat.zero_le _, Nat.zero_le _⟩ dX8_forbid_8 ?_
  refine n_bne S (tgt := 24) dX8_forbid_11 (by decide) (fun _ => ?_) (fun q => absurd q (by decide))
  refine lv_aload_n S.1 S.2.1 dX8_forbid_24 rfl (lv_at hl 0 rfl) ?_
  refine g_get (C := RX8) (T := TX8) (N := 9) (v := .ref (c 4)) S 0 6 2 in_X8_forbid_X8 hK hP rfl rfl (by decide) w_X8_forbid_0 rfl dX8_forbid_25 ?_
  refine lv_iload_n S.1 S.2.1 dX8_forbid_28 rfl (lv_at hl 1 rfl) ?_
  refine lv_iload_n S.1 S.2.1 dX8_forbid_29 rfl (lv_at hl 2 rfl) ?_
  refine lv_iload_n S.1 S.2.1 dX8_forbid_30 rfl (lv_at hl 3 rfl) ?_
  refine wr_callVi (rest := []) S (w_X6_changeFollowing_false l D cT _ c pa bd a6 a7 n ro cl fb rn nd sk mo wk fx wi la da we V V2 PR e f (hwf) (by omega) (by omega)) gX8_forbid_X6_changeFollowing rfl pd_X6_changeFollowing ⟨rfl, rfl, Nat.le_of_ble_eq_true rfl, Nat.le_of_ble_eq_true rfl⟩ hP hK hD hS hA (va_recv hK.1 hP (ci := 5) (q0 := 4) rfl rfl) hl rfl rfl (Nat.le_of_ble_eq_true rfl) ⟨Nat.zero_le _, Nat.zero_le _⟩ dX8_forbid_31 (fun r_ u_ H locs hr_ hP hD hS => ?_)
  subst hr_
  have hP : va_P D vwCl (cX cT c a6 a7 n ro cl (bset fb (4 * e + f) 0) rn nd V V2 PR pa ++ pool n pa (per sk mo wk fx wi la da we)) H := hP
  have hD : va_D A (cX cT c a6 a7 n ro cl (bset fb (4 * e + f) 0) rn nd V V2 PR pa ++ pool n pa (per sk mo wk fx wi la da we)) := hD
  exact wr_iret S (()) hr (sx_bt _) hlocks (rfl) (hP) (hD) hS dX8_forbid_34

set_option maxHeartbeats 4000000 in
set_option maxRecDepth 100000 in
theorem w_X8_wish_false (l : Launch) (D : va_G) (cT : ClassId × ClassId × ClassId) (sz : Nat) (c pa : Nat → Nat) (bd a6 a7 n ro cl fb rn : Nat) (nd sk mo wk fx wi la da we : Nat → Nat) (V V2 PR : Nat → Int64) (i d : Nat) (hwf : wfC n bd fb rn nd sk mo wk fx wi la da we) (hi : i < n) (hd : d < 7) : Met l yX8_wish wsX8_wish ({ frames := 1, cells := 0, slots := 0, locals := 23 } : Room) (va_Pc [.ref (c 0), .int (nI i), .int (nI d), .int (nI false.toNat)] (wr_R D (TY cT) (cX cT c a6 a7 n ro cl fb rn nd V V2 PR pa ++ pool n pa (per sk mo wk fx wi la da we)) sz)) (wQi (fun (r_ : Int32) (_ : Unit) => r_ = (nI (bit (wi i) d != 0).toNat)) D (fun (_ : Unit) => cX cT c a6 a7 n ro cl fb rn nd V V2 PR pa ++ pool n pa (per sk mo wk fx (va_up wi i (bset (wi i) d 0)) la da we)) (va_A (cX cT c a6 a7 n ro cl fb rn nd V V2 PR pa ++ pool n pa (per sk mo wk fx wi la da we)) sz)) 0 0 (va_A (cX cT c a6 a7 n ro cl fb rn nd V V2 PR pa ++ pool n pa (per sk mo wk fx wi la da we)) sz) := by
  refine wr_start (cc := cX8_wish) (maxL := 5) (ret := (some .boolean)) RX8 ⟨by decide +kernel, rfl⟩ rfl (Nat.le_of_ble_eq_true rfl) ?_
  intro p0 e0 s0 m0 a0 b0 t0 c0 S hr hlocks hin hP hK hA hD hS ls hl
  generalize va_A (cX cT c a6 a7 n ro cl fb rn nd V V2 PR pa ++ pool n pa (per sk mo wk fx wi la da we)) sz = A at hA hD hS ⊢
  have hl : lv_has ls 5 [(0, .ref (c 0)), (1, .int (nI i)), (2, .int (nI d)), (3, .int (nI false.toNat))] := hl
  obtain ⟨hn, hcl, hfb, hrn, hnd, hper⟩ := id hwf
  refine lv_aload_n S.1 S.2.1 dX8_wish_0 rfl (lv_at hl 0 rfl) ?_
  refine lv_iload_n S.1 S.2.1 dX8_wish_1 rfl (lv_at hl 1 rfl) ?_
  refine rd_callVr (rest := []) S (r_X8_personAt l D cT c pa bd a6 a7 n ro cl fb rn nd sk mo wk fx wi la da we V V2 PR i (hwf) (by omega)) gX8_wish_X8_personAt rfl pd_X8_personAt ⟨rfl, rfl, Nat.le_of_ble_eq_true rfl, Nat.le_of_ble_eq_true rfl⟩ hP hK (va_recv hK.1 hP (ci := 6) (q0 := 0) rfl rfl) hl rfl rfl (Nat.le_of_ble_eq_true rfl) ⟨Nat.zero_le _, Nat.zero_le _⟩ dX8_wish_2 ?_
  refine lv_astore (lv' := [(4, .ref (pa i)), (0, .ref (c 0)), (1, .int (nI i)), (2, .int (nI d)), (3, .int (nI false.toNat))]) S.1 S.2.1 dX8_wish_5 hl (by decide) rfl (fun ls hl => ?_)
  refine lv_aload S.1 S.2.1 dX8_wish_7 (lv_at hl 0 rfl) ?_
  refine lv_ifnull S.1 S.2.1 dX8_wish_9 ?_
  refine lv_iload_n S.1 S.2.1 dX8_wish_12 rfl (lv_at hl 3 rfl) ?_
  refine rd_callS (rest := []) S (r_X8_isDay l D cT d (by omega)) gX8_wish_X8_isDay rfl pd_X8_isDay ⟨rfl, rfl, Nat.le_of_ble_eq_true rfl, Nat.le_of_ble_eq_true rfl⟩ (sx_P0 D _) hK hl rfl rfl (Nat.le_of_ble_eq_true rfl) ⟨Nat.zero_le _, Nat.zero_le _⟩ dX8_wish_13 ?_
  refine n_bne S (tgt := 29) dX8_wish_16 (by decide) (fun _ => ?_) (fun q => absurd q (by decide))
  refine lv_aload S.1 S.2.1 dX8_wish_29 (lv_at hl 0 rfl) ?_
  refine lv_iload_n S.1 S.2.1 dX8_wish_31 rfl (lv_at hl 3 rfl) ?_
  refine lv_iload_n S.1 S.2.1 dX8_wish_32 rfl (lv_at hl 4 rfl) ?_
  refine wr_callVi (rest := []) S (w_X4_changeWish_false l D cT _ c pa bd a6 a7 n ro cl fb rn nd sk mo wk fx wi la da we V V2 PR i d (hwf) (by omega) (by omega)) gX8_wish_X4_changeWish rfl pd_X4_changeWish ⟨rfl, rfl, Nat.le_of_ble_eq_true rfl, Nat.le_of_ble_eq_true rfl⟩ hP hK hD hS hA (va_recv hK.1 hP (ci := 3) (q0 := _) rfl (pool_at (by omega))) hl rfl rfl (Nat.le_of_ble_eq_true rfl) ⟨Nat.zero_le _, Nat.zero_le _⟩ dX8_wish_33 (fun r_ u_ H locs hr_ hP hD hS => ?_)
  subst hr_
  have hP : va_P D vwCl (cX cT c a6 a7 n ro cl fb rn nd V V2 PR pa ++ pool n pa (per sk mo wk fx (va_up wi i (bset (wi i) d 0)) la da we)) H := hP
  have hD : va_D A (cX cT c a6 a7 n ro cl fb rn nd V V2 PR pa ++ pool n pa (per sk mo wk fx (va_up wi i (bset (wi i) d 0)) la da we)) := hD
  exact wr_iret S (()) hr (sx_bt _) hlocks (rfl) (hP) (hD) hS dX8_wish_36

theorem pd_X8_fix : yX8_fix.cls = RX8 ∧ yX8_fix.cls ≠ "java/lang/invoke/MethodHandle" ∧ yX8_fix.cls ≠ "java/lang/invoke/VarHandle" ∧ (parseMethodDescriptor yX8_fix.desc).map (fun d => d.parameters.length) = some 3 := by decide +kernel
set_option maxHeartbeats 4000000 in
set_option maxRecDepth 100000 in
theorem w_X8_fix (l : Launch) (D : va_G) (cT : ClassId × ClassId × ClassId) (sz : Nat) (c pa : Nat → Nat) (bd a6 a7 n ro cl fb rn : Nat) (nd sk mo wk fx wi la da we : Nat → Nat) (V V2 PR : Nat → Int64) (i : Nat) (d : Nat) (e : Nat) (hwf : wfC n bd fb rn nd sk mo wk fx wi la da we) (hi : i < n) (hd : d < 7) (he : e < 5) : Met l yX8_fix wsX8_fix ({ frames := 1, cells := 0, slots := 0, locals := 23 } : Room) (va_Pc [.ref (c 0), .int (nI i), .int (nI d), .int (nI e - nI 1)] (wr_R D (TY cT) (cX cT c a6 a7 n ro cl fb rn nd V V2 PR pa ++ pool n pa (per sk mo wk fx wi la da we)) sz)) (wQi (fun (r_ : Int32) (_ : Unit) => r_ = (nI (nib (fx i) d) - nI 1)) D (fun (_ : Unit) => cX cT c a6 a7 n ro cl fb rn nd V V2 PR pa ++ pool n pa (per sk mo wk (va_up fx i (nset (fx i) d e)) wi la da we)) (va_A (cX cT c a6 a7 n ro cl fb rn nd V V2 PR pa ++ pool n pa (per sk mo wk fx wi la da we)) sz)) 0 0 (va_A (cX cT c a6 a7 n ro cl fb rn nd V V2 PR pa ++ pool n pa (per sk mo wk fx wi la da we)) sz) := by
  refine wr_start (cc := cX8_fix) (maxL := 6) (ret := (some .int)) RX8 ⟨by decide +kernel, rfl⟩ rfl (Nat.le_of_ble_eq_true rfl) ?_
  intro p0 e0 s0 m0 a0 b0 t0 c0 S hr hlocks hin hP hK hA hD hS ls hl
  generalize va_A (cX cT c a6 a7 n ro cl fb rn nd V V2 PR pa ++ pool n pa (per sk mo wk fx wi la da we)) sz = A at hA hD hS ⊢
  have hl : lv_has ls 6 [(0, .ref (c 0)), (1, .int (nI i)), (2, .int (nI d)), (3, .int (nI e - nI 1))] := hl
  obtain ⟨hn, hcl, hfb, hrn, hnd, hper⟩ := id hwf
  have hpi := hper i
  refine lv_aload_n S.1 S.2.1 dX8_fix_0 rfl (lv_at hl 0 rfl) ?_
  refine lv_iload_n S.1 S.2.1 dX8_fix_1 rfl (lv_at hl 1 rfl) ?_
  refine rd_callVr (rest := []) S (r_X8_personAt l D cT c pa bd a6 a7 n ro cl fb rn nd sk mo wk fx wi la da we V V2 PR i (hwf) (by omega)) gX8_fix_X8_personAt rfl pd_X8_personAt ⟨rfl, rfl, Nat.le_of_ble_eq_true rfl, Nat.le_of_ble_eq_true rfl⟩ hP hK (va_recv hK.1 hP (ci := 6) (q0 := 0) rfl rfl) hl rfl rfl (Nat.le_of_ble_eq_true rfl) ⟨Nat.zero_le _, Nat.zero_le _⟩ dX8_fix_2 ?_
  refine lv_astore (lv' := [(4, .ref (pa i)), (0, .ref (c 0)), (1, .int (nI i)), (2, .int (nI d)), (3, .int (nI e - nI 1))]) S.1 S.2.1 dX8_fix_5 hl (by decide) rfl (fun ls hl => ?_)
  refine lv_aload S.1 S.2.1 dX8_fix_7 (lv_at hl 0 rfl) ?_
  refine lv_ifnull S.1 S.2.1 dX8_fix_9 ?_
  refine lv_iload_n S.1 S.2.1 dX8_fix_12 rfl (lv_at hl 3 rfl) ?_
  refine rd_callS (rest := []) S (r_X8_isDay l D cT d (by omega)) gX8_fix_X8_isDay rfl pd_X8_isDay ⟨rfl, rfl, Nat.le_of_ble_eq_true rfl, Nat.le_of_ble_eq_true rfl⟩ (sx_P0 D _) hK hl rfl rfl (Nat.le_of_ble_eq_true rfl) ⟨Nat.zero_le _, Nat.zero_le _⟩ dX8_fix_13 ?_
  refine n_bne S (tgt := 29) dX8_fix_16 (by decide) (fun _ => ?_) (fun q => absurd q (by decide))
  refine lv_iload_n S.1 S.2.1 dX8_fix_29 rfl (lv_at hl 4 rfl) ?_
  refine lv_iconst (v := (-1)) S.1 S.2.1 dX8_fix_30 (by decide) ?_
  refine lv_icmp_eq (tgt := 51) S.1 S.2.1 dX8_fix_31 (by decide) (fun c31 => ?_) (fun c31 => ?_)
  · refine lv_aload S.1 S.2.1 dX8_fix_51 (lv_at hl 0 rfl) ?_
    refine lv_iload_n S.1 S.2.1 dX8_fix_53 rfl (lv_at hl 3 rfl) ?_
    refine rd_callV (rest := []) S (r_X4_fixedAt l D cT (pa i) (sk i) (mo i) (wk i) (fx i) (wi i) (la i) (da i) (we i) d (by omega) (by omega)) gX8_fix_X4_fixedAt rfl pd_X4_fixedAt ⟨rfl, rfl, Nat.le_of_ble_eq_true rfl, Nat.le_of_ble_eq_true rfl⟩ (pool_one hP (by omega)) hK (va_recv hK.1 hP (ci := 3) (q0 := _) rfl (pool_at (by omega))) hl rfl rfl (Nat.le_of_ble_eq_true rfl) ⟨Nat.zero_le _, Nat.zero_le _⟩ dX8_fix_54 ?_
    refine lv_istore (lv' := [(5, .int (nI (nib (fx i) d) - nI 1)), (4, .ref (pa i)), (0, .ref (c 0)), (1, .int (nI i)), (2, .int (nI d)), (3, .int (nI e - nI 1))]) S.1 S.2.1 dX8_fix_57 hl (by decide) rfl (fun ls hl => ?_)
    refine lv_aload S.1 S.2.1 dX8_fix_59 (lv_at hl 1 rfl) ?_
    refine lv_iload_n S.1 S.2.1 dX8_fix_61 rfl (lv_at hl 4 rfl) ?_
    refine lv_iload_n S.1 S.2.1 dX8_fix_62 rfl (lv_at hl 5 rfl) ?_
    refine wr_callVv (rest := []) S (r_X4_changeFixed l D cT _ c pa bd a6 a7 n ro cl fb rn nd sk mo wk fx wi la da we V V2 PR i d e (hwf) (by omega) (by omega) (by omega)) gX8_fix_X4_changeFixed rfl pd_X4_changeFixed ⟨rfl, rfl, Nat.le_of_ble_eq_true rfl, Nat.le_of_ble_eq_true rfl⟩ hP hK hD hS hA (va_recv hK.1 hP (ci := 3) (q0 := _) rfl (pool_at (by omega))) hl rfl rfl (Nat.le_of_ble_eq_true rfl) ⟨Nat.zero_le _, Nat.zero_le _⟩ dX8_fix_63 (fun u_ H locs hr_ hP hD hS => ?_)
    have hP : va_P D vwCl (cX cT c a6 a7 n ro cl fb rn nd V V2 PR pa ++ pool n pa (per sk mo wk (va_up fx i (nset (fx i) d e)) wi la da we)) H := hP
    have hD : va_D A (cX cT c a6 a7 n ro cl fb rn nd V V2 PR pa ++ pool n pa (per sk mo wk (va_up fx i (nset (fx i) d e)) wi la da we)) := hD
    refine lv_iload S.1 S.2.1 dX8_fix_66 (lv_at hl 0 rfl) ?_
    exact wr_iret S (()) hr rfl hlocks (rfl) (hP) (hD) hS dX8_fix_68
  · refine lv_iload_n S.1 S.2.1 dX8_fix_34 rfl (lv_at hl 4 rfl) ?_
    refine n_top (show nI e - nI 1 = nI (e - 1) from sx_sub (by have := (not_congr (fx_m1 (n := e) (by omega))).mp c31; omega)) ?_
    refine rd_callS (rest := []) S (r_X8_isEntry l D cT (e - 1) (by omega)) gX8_fix_X8_isEntry rfl pd_X8_isEntry ⟨rfl, rfl, Nat.le_of_ble_eq_true rfl, Nat.le_of_ble_eq_true rfl⟩ (sx_P0 D _) hK hl rfl rfl (Nat.le_of_ble_eq_true rfl) ⟨Nat.zero_le _, Nat.zero_le _⟩ dX8_fix_35 ?_
    refine n_bne S (tgt := 51) dX8_fix_38 (by decide) (fun _ => ?_) (fun q => absurd q (by decide))
    refine lv_aload S.1 S.2.1 dX8_fix_51 (lv_at hl 0 rfl) ?_
    refine lv_iload_n S.1 S.2.1 dX8_fix_53 rfl (lv_at hl 3 rfl) ?_
    refine rd_callV (rest := []) S (r_X4_fixedAt l D cT (pa i) (sk i) (mo i) (wk i) (fx i) (wi i) (la i) (da i) (we i) d (by omega) (by omega)) gX8_fix_X4_fixedAt rfl pd_X4_fixedAt ⟨rfl, rfl, Nat.le_of_ble_eq_true rfl, Nat.le_of_ble_eq_true rfl⟩ (pool_one hP (by omega)) hK (va_recv hK.1 hP (ci := 3) (q0 := _) rfl (pool_at (by omega))) hl rfl rfl (Nat.le_of_ble_eq_true rfl) ⟨Nat.zero_le _, Nat.zero_le _⟩ dX8_fix_54 ?_
    refine lv_istore (lv' := [(5, .int (nI (nib (fx i) d) - nI 1)), (4, .ref (pa i)), (0, .ref (c 0)), (1, .int (nI i)), (2, .int (nI d)), (3, .int (nI e - nI 1))]) S.1 S.2.1 dX8_fix_57 hl (by decide) rfl (fun ls hl => ?_)
    refine lv_aload S.1 S.2.1 dX8_fix_59 (lv_at hl 1 rfl) ?_
    refine lv_iload_n S.1 S.2.1 dX8_fix_61 rfl (lv_at hl 4 rfl) ?_
    refine lv_iload_n S.1 S.2.1 dX8_fix_62 rfl (lv_at hl 5 rfl) ?_
    refine wr_callVv (rest := []) S (r_X4_changeFixed l D cT _ c pa bd a6 a7 n ro cl fb rn nd sk mo wk fx wi la da we V V2 PR i d e (hwf) (by omega) (by omega) (by omega)) gX8_fix_X4_changeFixed rfl pd_X4_changeFixed ⟨rfl, rfl, Nat.le_of_ble_eq_true rfl, Nat.le_of_ble_eq_true rfl⟩ hP hK hD hS hA (va_recv hK.1 hP (ci := 3) (q0 := _) rfl (pool_at (by omega))) hl rfl rfl (Nat.le_of_ble_eq_true rfl) ⟨Nat.zero_le _, Nat.zero_le _⟩ dX8_fix_63 (fun u_ H locs hr_ hP hD hS => ?_)
    have hP : va_P D vwCl (cX cT c a6 a7 n ro cl fb rn nd V V2 PR pa ++ pool n pa (per sk mo wk (va_up fx i (nset (fx i) d e)) wi la da we)) H := hP
    have hD : va_D A (cX cT c a6 a7 n ro cl fb rn nd V V2 PR pa ++ pool n pa (per sk mo wk (va_up fx i (nset (fx i) d e)) wi la da we)) := hD
    refine lv_iload S.1 S.2.1 dX8_fix_66 (lv_at hl 0 rfl) ?_
    exact wr_iret S (()) hr rfl hlocks (rfl) (hP) (hD) hS dX8_fix_68

theorem pd_X8_set : yX8_set.cls = RX8 ∧ yX8_set.cls ≠ "java/lang/invoke/MethodHandle" ∧ yX8_set.cls ≠ "java/lang/invoke/VarHandle" ∧ (parseMethodDescriptor yX8_set.desc).map (fun d => d.parameters.length) = some 3 := by decide +kernel
theorem w_X8_set_0 : Cond.fieldLink RX8 25 "CoverSheet" "rules" "LCoverSheet$Rules;" ∈ wsX8_set := by decide +kernel
theorem in_X8_set_X4 : ∀ w ∈ u_ws RX4 TX4 8, w ∈ wsX8_set := by decide +kernel
theorem in_X8_set_X8 : ∀ w ∈ u_ws RX8 TX8 9, w ∈ wsX8_set := by decide +kernel
set_option maxHeartbeats 4000000 in
set_option maxRecDepth 100000 in
theorem w_X8_set (l : Launch) (D : va_G) (cT : ClassId × ClassId × ClassId) (sz : Nat) (c pa : Nat → Nat) (bd a6 a7 n ro cl fb rn : Nat) (nd sk mo wk fx wi la da we : Nat → Nat) (V V2 PR : Nat → Int64) (i : Nat) (d : Nat) (e : Nat) (hwf : wfC n bd fb rn nd sk mo wk fx wi la da we) (hi : i < n) (hd : d < 7) (he : e < 4) (hf : fe sk mo fx la da fb rn i (wset (wk i) d e) = true) : Met l yX8_set wsX8_set ({ frames := 4, cells := 0, slots := 0, locals := 90 } : Room) (va_Pc [.ref (c 0), .int (nI i), .int (nI d), .int (nI e)] (wr_R D (TY cT) (cX cT c a6 a7 n ro cl fb rn nd V V2 PR pa ++ pool n pa (per sk mo wk fx wi la da we)) sz)) (wQi (fun (r_ : Int32) (_ : Unit) => r_ = (nI (ent (wk i) d))) D (fun (_ : Unit) => cX cT c a6 a7 n ro cl fb rn nd V V2 PR pa ++ pool n pa (per sk mo (va_up wk i (wset (wk i) d e)) fx wi la da we)) (va_A (cX cT c a6 a7 n ro cl fb rn nd V V2 PR pa ++ pool n pa (per sk mo wk fx wi la da we)) sz)) 0 0 (va_A (cX cT c a6 a7 n ro cl fb rn nd V V2 PR pa ++ pool n pa (per sk mo wk fx wi la da we)) sz) := by
  refine wr_start (cc := cX8_set) (maxL := 7) (ret := (some .int)) RX8 ⟨by decide +kernel, rfl⟩ rfl (Nat.le_of_ble_eq_true rfl) ?_
  intro p0 e0 s0 m0 a0 b0 t0 c0 S hr hlocks hin hP hK hA hD hS ls hl
  generalize va_A (cX cT c a6 a7 n ro cl fb rn nd V V2 PR pa ++ pool n pa (per sk mo wk fx wi la da we)) sz = A at hA hD hS ⊢
  have hl : lv_has ls 7 [(0, .ref (c 0)), (1, .int (nI i)), (2, .int (nI d)), (3, .int (nI e))] := hl
  obtain ⟨hn, hcl, hfb, hrn, hnd, hper⟩ := id hwf
  have hpii := hper i
  refine lv_aload_n S.1 S.2.1 dX8_set_0 rfl (lv_at hl 0 rfl) ?_
  refine lv_iload_n S.1 S.2.1 dX8_set_1 rfl (lv_at hl 1 rfl) ?_
  refine rd_callVr (rest := []) S (r_X8_personAt l D cT c pa bd a6 a7 n ro cl fb rn nd sk mo wk fx wi la da we V V2 PR i (hwf) (by omega)) gX8_set_X8_personAt rfl pd_X8_personAt ⟨rfl, rfl, Nat.le_of_ble_eq_true rfl, Nat.le_of_ble_eq_true rfl⟩ hP hK (va_recv hK.1 hP (ci := 6) (q0 := 0) rfl rfl) hl rfl rfl (Nat.le_of_ble_eq_true rfl) ⟨Nat.zero_le _, Nat.zero_le _⟩ dX8_set_2 ?_
  refine lv_astore (lv' := [(4, .ref (pa i)), (0, .ref (c 0)), (1, .int (nI i)), (2, .int (nI d)), (3, .int (nI e))]) S.1 S.2.1 dX8_set_5 hl (by decide) rfl (fun ls hl => ?_)
  refine lv_aload S.1 S.2.1 dX8_set_7 (lv_at hl 0 rfl) ?_
  refine lv_ifnull S.1 S.2.1 dX8_set_9 ?_
  refine lv_iload_n S.1 S.2.1 dX8_set_12 rfl (lv_at hl 3 rfl) ?_
  refine rd_callS (rest := []) S (r_X8_isDay l D cT d (by omega)) gX8_set_X8_isDay rfl pd_X8_isDay ⟨rfl, rfl, Nat.le_of_ble_eq_true rfl, Nat.le_of_ble_eq_true rfl⟩ (sx_P0 D _) hK hl rfl rfl (Nat.le_of_ble_eq_true rfl) ⟨Nat.zero_le _, Nat.zero_le _⟩ dX8_set_13 ?_
  refine n_bne S (tgt := 29) dX8_set_16 (by decide) (fun _ => ?_) (fun q => absurd q (by decide))
  refine lv_iload_n S.1 S.2.1 dX8_set_29 rfl (lv_at hl 4 rfl) ?_
  refine rd_callS (rest := []) S (r_X8_isEntry l D cT e (by omega)) gX8_set_X8_isEntry rfl pd_X8_isEntry ⟨rfl, rfl, Nat.le_of_ble_eq_true rfl, Nat.le_of_ble_eq_true rfl⟩ (sx_P0 D _) hK hl rfl rfl (Nat.le_of_ble_eq_true rfl) ⟨Nat.zero_le _, Nat.zero_le _⟩ dX8_set_30 ?_
  refine n_bne S (tgt := 46) dX8_set_33 (by decide) (fun _ => ?_) (fun q => absurd q (by decide))
  refine lv_aload S.1 S.2.1 dX8_set_46 (lv_at hl 0 rfl) ?_
  refine g_getN (C := RX4) (T := TX4) (N := 8) (v := .int (nI (wk i))) S _ 3 2 in_X8_set_X4 hK hP (pool_at (by omega)) rfl (by decide) (List.mem_of_getElem? (i := 11) rfl) rfl dX8_set_48 ?_
  refine lv_iload_n S.1 S.2.1 dX8_set_51 rfl (lv_at hl 3 rfl) ?_
  refine lv_iload_n S.1 S.2.1 dX8_set_52 rfl (lv_at hl 4 rfl) ?_
  refine rd_callS (rest := []) S (r_X7_with l D cT (wk i) d e (by omega) (by omega) (by omega)) gX8_set_X7_with rfl pd_X7_with ⟨rfl, rfl, Nat.le_of_ble_eq_true rfl, Nat.le_of_ble_eq_true rfl⟩ (sx_P0 D _) hK hl rfl rfl (Nat.le_of_ble_eq_true rfl) ⟨Nat.zero_le _, Nat.zero_le _⟩ dX8_set_53 ?_
  refine lv_istore (lv' := [(5, .int (nI (wset (wk i) d e))), (4, .ref (pa i)), (0, .ref (c 0)), (1, .int (nI i)), (2, .int (nI d)), (3, .int (nI e))]) S.1 S.2.1 dX8_set_56 hl (by decide) rfl (fun ls hl => ?_)
  refine lv_aload S.1 S.2.1 dX8_set_58 (lv_at hl 1 rfl) ?_
  refine lv_iload S.1 S.2.1 dX8_set_60 (lv_at hl 0 rfl) ?_
  refine lv_aload_n S.1 S.2.1 dX8_set_62 rfl (lv_at hl 2 rfl) ?_
  refine g_get (C := RX8) (T := TX8) (N := 9) (v := .ref (c 4)) S 0 6 2 in_X8_set_X8 hK hP rfl rfl (by decide) w_X8_set_0 rfl dX8_set_63 ?_
  refine rd_callV (rest := []) S (r_X4_canHave l D cT (pa i) (c 4) (sk i) (mo i) (wk i) (fx i) (wi i) (la i) (da i) (we i) fb rn (wset (wk i) d e) (wset_lt (by omega) hd he) (⟨hpii.1, hpii.2.1, hpii.2.2.2.2.2.1, hfb, hrn, by omega⟩) (hpii.2.2.2.1)) gX8_set_X4_canHave rfl pd_X4_canHave ⟨rfl, rfl, Nat.le_of_ble_eq_true rfl, Nat.le_of_ble_eq_true rfl⟩ (sx_P2 (pool_one hP (by omega)) (hP.sub (ws' := [(c 4, .inr (5, [.int (nI fb), .int (nI rn)]))]) [4] rfl)) hK (va_recv hK.1 hP (ci := 3) (q0 := _) rfl (pool_at (by omega))) hl rfl rfl (Nat.le_of_ble_eq_true rfl) ⟨Nat.zero_le _, Nat.zero_le _⟩ dX8_set_66 ?_
  refine n_top (show (nI (feas (sk i) (mo i) (nib (fx i)) (bit fb) (la i) (da i) rn (wset (wk i) d e)).toNat) = (nI true.toNat) from by rw [show feas (sk i) (mo i) (nib (fx i)) (bit fb) (la i) (da i) rn (wset (wk i) d e) = true from hf]) ?_
  refine n_bne S (tgt := 82) dX8_set_69 (by decide) (fun _ => ?_) (fun q => absurd q (by decide))
  refine lv_aload S.1 S.2.1 dX8_set_82 (lv_at hl 1 rfl) ?_
  refine g_getN (C := RX4) (T := TX4) (N := 8) (v := .int (nI (wk i))) S _ 3 2 in_X8_set_X4 hK hP (pool_at (by omega)) rfl (by decide) (List.mem_of_getElem? (i := 11) rfl) rfl dX8_set_84 ?_
  refine lv_iload_n S.1 S.2.1 dX8_set_87 rfl (lv_at hl 4 rfl) ?_
  refine rd_callS (rest := []) S (r_X7_at l D cT (wk i) d (by omega) (by omega)) gX8_set_X7_at rfl pd_X7_at ⟨rfl, rfl, Nat.le_of_ble_eq_true rfl, Nat.le_of_ble_eq_true rfl⟩ (sx_P0 D _) hK hl rfl rfl (Nat.le_of_ble_eq_true rfl) ⟨Nat.zero_le _, Nat.zero_le _⟩ dX8_set_88 ?_
  refine lv_istore (lv' := [(6, .int (nI (ent (wk i) d))), (5, .int (nI (wset (wk i) d e))), (4, .ref (pa i)), (0, .ref (c 0)), (1, .int (nI i)), (2, .int (nI d)), (3, .int (nI e))]) S.1 S.2.1 dX8_set_91 hl (by decide) rfl (fun ls hl => ?_)
  refine lv_aload S.1 S.2.1 dX8_set_93 (lv_at hl 2 rfl) ?_
  refine lv_iload S.1 S.2.1 dX8_set_95 (lv_at hl 1 rfl) ?_
  refine w_putN (C := RX4) (T := TX4) (N := 8) (v := .int (nI (wset (wk i) d e))) (ty := .int) S _ 3 2 in_X8_set_X4 tyX4 tyX4_ok nmX4 hK hP hD hS (pool_at (by omega)) rfl (by decide) (List.mem_of_getElem? (i := 11) rfl) rfl (by decide +kernel) rfl rfl (Nat.le_of_ble_eq_true rfl) dX8_set_97 (fun H locs hP hD hS => ?_)
  have hP : va_P D vwCl (cX cT c a6 a7 n ro cl fb rn nd V V2 PR pa ++ pool n pa (per sk mo (va_up wk i (wset (wk i) d e)) fx wi la da we)) H := by rw [← per_set_wk (i := i) (by omega)]; exact hP
  have hD : va_D A (cX cT c a6 a7 n ro cl fb rn nd V V2 PR pa ++ pool n pa (per sk mo (va_up wk i (wset (wk i) d e)) fx wi la da we)) := by rw [← per_set_wk (i := i) (by omega)]; exact hD
  refine lv_iload S.1 S.2.1 dX8_set_100 (lv_at hl 0 rfl) ?_
  exact wr_iret S (()) hr rfl hlocks (rfl) (hP) (hD) hS dX8_set_102

theorem pd_X8_swap : yX8_swap.cls = RX8 ∧ yX8_swap.cls ≠ "java/lang/invoke/MethodHandle" ∧ yX8_swap.cls ≠ "java/lang/invoke/VarHandle" ∧ (parseMethodDescriptor yX8_swap.desc).map (fun d => d.parameters.length) = some 3 := by decide +kernel
theorem in_X8_swap_X4 : ∀ w ∈ u_ws RX4 TX4 8, w ∈ wsX8_swap := by decide +kernel
set_option maxHeartbeats 4000000 in
set_option maxRecDepth 100000 in
theorem w_X8_swap (l : Launch) (D : va_G) (cT : ClassId × ClassId × ClassId) (sz : Nat) (c pa : Nat → Nat) (bd a6 a7 n ro cl fb rn : Nat) (nd sk mo wk fx wi la da we : Nat → Nat) (V V2 PR : Nat → Int64) (i : Nat) (j : Nat) (d : Nat) (hwf : wfC n bd fb rn nd sk mo wk fx wi la da we) (hi : i < n) (hj : j < n) (hd : d < 7) (hinj : inj n pa) (hs : i ≠ j ∧ csw sk mo wk fx la da fb rn i j d = true) : Met l yX8_swap wsX8_swap ({ frames := 5, cells := 0, slots := 0, locals := 115 } : Room) (va_Pc [.ref (c 0), .int (nI i), .int (nI j), .int (nI d)] (wr_R D (TY cT) (cX cT c a6 a7 n ro cl fb rn nd V V2 PR pa ++ pool n pa (per sk mo wk fx wi la da we)) sz)) (wQi (fun (r_ : Int32) (_ : Unit) => r_ = (nI (brc (wi i) (wset (wk i) d (ent (wk j) d)) 7 + brc (wi j) (wset (wk j) d (ent (wk i) d)) 7))) D (fun (_ : Unit) => cX cT c a6 a7 n ro cl fb rn nd V V2 PR pa ++ pool n pa (per sk mo (va_up (va_up wk i (wset (wk i) d (ent (wk j) d))) j (wset (wk j) d (ent (wk i) d))) fx wi la da we)) (va_A (cX cT c a6 a7 n ro cl fb rn nd V V2 PR pa ++ pool n pa (per sk mo wk fx wi la da we)) sz)) 0 0 (va_A (cX cT c a6 a7 n ro cl fb rn nd V V2 PR pa ++ pool n pa (per sk mo wk fx wi la da we)) sz) := by
  refine wr_start (cc := cX8_swap) (maxL := 7) (ret := (some .int)) RX8 ⟨by decide +kernel, rfl⟩ rfl (Nat.le_of_ble_eq_true rfl) ?_
  intro p0 e0 s0 m0 a0 b0 t0 c0 S hr hlocks hin hP hK hA hD hS ls hl
  generalize va_A (cX cT c a6 a7 n ro cl fb rn nd V V2 PR pa ++ pool n pa (per sk mo wk fx wi la da we)) sz = A at hA hD hS ⊢
  have hl : lv_has ls 7 [(0, .ref (c 0)), (1, .int (nI i)), (2, .int (nI j)), (3, .int (nI d))] := hl
  obtain ⟨hn, hcl, hfb, hrn, hnd, hper⟩ := id hwf
  have hpi := hper i
  have hpj := hper j
  have hij : i ≠ j := hs.1
  refine lv_aload_n S.1 S.2.1 dX8_swap_0 rfl (lv_at hl 0 rfl) ?_
  refine lv_iload_n S.1 S.2.1 dX8_swap_1 rfl (lv_at hl 1 rfl) ?_
  refine rd_callVr (rest := []) S (r_X8_personAt l D cT c pa bd a6 a7 n ro cl fb rn nd sk mo wk fx wi la da we V V2 PR i (hwf) (by omega)) gX8_swap_X8_personAt rfl pd_X8_personAt ⟨rfl, rfl, Nat.le_of_ble_eq_true rfl, Nat.le_of_ble_eq_true rfl⟩ hP hK (va_recv hK.1 hP (ci := 6) (q0 := 0) rfl rfl) hl rfl rfl (Nat.le_of_ble_eq_true rfl) ⟨Nat.zero_le _, Nat.zero_le _⟩ dX8_swap_2 ?_
  refine lv_astore (lv' := [(4, .ref (pa i)), (0, .ref (c 0)), (1, .int (nI i)), (2, .int (nI j)), (3, .int (nI d))]) S.1 S.2.1 dX8_swap_5 hl (by decide) rfl (fun ls hl => ?_)
  refine lv_aload_n S.1 S.2.1 dX8_swap_7 rfl (lv_at hl 1 rfl) ?_
  refine lv_iload_n S.1 S.2.1 dX8_swap_8 rfl (lv_at hl 3 rfl) ?_
  refine rd_callVr (rest := []) S (r_X8_personAt l D cT c pa bd a6 a7 n ro cl fb rn nd sk mo wk fx wi la da we V V2 PR j (hwf) (by omega)) gX8_swap_X8_personAt rfl pd_X8_personAt ⟨rfl, rfl, Nat.le_of_ble_eq_true rfl, Nat.le_of_ble_eq_true rfl⟩ hP hK (va_recv hK.1 hP (ci := 6) (q0 := 0) rfl rfl) hl rfl rfl (Nat.le_of_ble_eq_true rfl) ⟨Nat.zero_le _, Nat.zero_le _⟩ dX8_swap_9 ?_
  refine lv_astore (lv' := [(5, .ref (pa j)), (4, .ref (pa i)), (0, .ref (c 0)), (1, .int (nI i)), (2, .int (nI j)), (3, .int (nI d))]) S.1 S.2.1 dX8_swap_12 hl (by decide) rfl (fun ls hl => ?_)
  refine lv_aload S.1 S.2.1 dX8_swap_14 (lv_at hl 1 rfl) ?_
  refine lv_ifnull S.1 S.2.1 dX8_swap_16 ?_
  refine lv_aload S.1 S.2.1 dX8_swap_19 (lv_at hl 0 rfl) ?_
  refine lv_ifnull S.1 S.2.1 dX8_swap_21 ?_
  refine lv_iload_n S.1 S.2.1 dX8_swap_24 rfl (lv_at hl 5 rfl) ?_
  refine rd_callS (rest := []) S (r_X8_isDay l D cT d (by omega)) gX8_swap_X8_isDay rfl pd_X8_isDay ⟨rfl, rfl, Nat.le_of_ble_eq_true rfl, Nat.le_of_ble_eq_true rfl⟩ (sx_P0 D _) hK hl rfl rfl (Nat.le_of_ble_eq_true rfl) ⟨Nat.zero_le _, Nat.zero_le _⟩ dX8_swap_25 ?_
  refine n_bne S (tgt := 41) dX8_swap_28 (by decide) (fun _ => ?_) (fun q => absurd q (by decide))
  refine lv_aload S.1 S.2.1 dX8_swap_41 (lv_at hl 1 rfl) ?_
  refine lv_aload S.1 S.2.1 dX8_swap_43 (lv_at hl 0 rfl) ?_
  refine lv_acmp_eq (rx := some (pa i)) (ry := some (pa j)) (tgt := 60) S.1 S.2.1 dX8_swap_45 (by decide) (fun c45 => ?_) (fun c45 => ?_)
  · exact absurd (hinj _ _ hi hj (Option.some.inj c45)) hs.1
  refine lv_aload_n S.1 S.2.1 dX8_swap_48 rfl (lv_at hl 2 rfl) ?_
  refine lv_aload S.1 S.2.1 dX8_swap_49 (lv_at hl 1 rfl) ?_
  refine lv_aload S.1 S.2.1 dX8_swap_51 (lv_at hl 0 rfl) ?_
  refine lv_iload_n S.1 S.2.1 dX8_swap_53 rfl (lv_at hl 5 rfl) ?_
  refine rd_callV (rest := []) S (r_X8_couldSwap l D cT c pa bd a6 a7 n ro cl fb rn nd sk mo wk fx wi la da we V V2 PR i j d (hwf) (by omega) (by omega) (by omega)) gX8_swap_X8_couldSwap rfl pd_X8_couldSwap ⟨rfl, rfl, Nat.le_of_ble_eq_true rfl, Nat.le_of_ble_eq_true rfl⟩ hP hK (va_recv hK.1 hP (ci := 6) (q0 := 0) rfl rfl) hl rfl rfl (Nat.le_of_ble_eq_true rfl) ⟨Nat.zero_le _, Nat.zero_le _⟩ dX8_swap_54 ?_
  refine n_top (show (nI (csw sk mo wk fx la da fb rn i j d).toNat) = (nI true.toNat) from by rw [hs.2]) ?_
  refine n_bne S (tgt := 70) dX8_swap_57 (by decide) (fun _ => ?_) (fun q => absurd q (by decide))
  refine lv_aload S.1 S.2.1 dX8_swap_70 (lv_at hl 1 rfl) ?_
  refine g_getN (C := RX4) (T := TX4) (N := 8) (v := .int (nI (wk i))) S _ 3 2 in_X8_swap_X4 hK hP (pool_at (by omega)) rfl (by decide) (List.mem_of_getElem? (i := 11) rfl) rfl dX8_swap_72 ?_
  refine lv_iload_n S.1 S.2.1 dX8_swap_75 rfl (lv_at hl 5 rfl) ?_
  refine rd_callS (rest := []) S (r_X7_at l D cT (wk i) d (by omega) (hd)) gX8_swap_X7_at rfl pd_X7_at ⟨rfl, rfl, Nat.le_of_ble_eq_true rfl, Nat.le_of_ble_eq_true rfl⟩ (sx_P0 D _) hK hl rfl rfl (Nat.le_of_ble_eq_true rfl) ⟨Nat.zero_le _, Nat.zero_le _⟩ dX8_swap_76 ?_
  refine lv_istore (lv' := [(6, .int (nI (ent (wk i) d))), (5, .ref (pa j)), (4, .ref (pa i)), (0, .ref (c 0)), (1, .int (nI i)), (2, .int (nI j)), (3, .int (nI d))]) S.1 S.2.1 dX8_swap_79 hl (by decide) rfl (fun ls hl => ?_)
  refine lv_aload S.1 S.2.1 dX8_swap_81 (lv_at hl 2 rfl) ?_
  refine lv_aload S.1 S.2.1 dX8_swap_83 (lv_at hl 2 rfl) ?_
  refine g_getN (C := RX4) (T := TX4) (N := 8) (v := .int (nI (wk i))) S _ 3 2 in_X8_swap_X4 hK hP (pool_at (by omega)) rfl (by decide) (List.mem_of_getElem? (i := 11) rfl) rfl dX8_swap_85 ?_
  refine lv_iload_n S.1 S.2.1 dX8_swap_88 rfl (lv_at hl 6 rfl) ?_
  refine lv_aload S.1 S.2.1 dX8_swap_89 (lv_at hl 1 rfl) ?_
  refine g_getN (C := RX4) (T := TX4) (N := 8) (v := .int (nI (wk j))) S _ 3 2 in_X8_swap_X4 hK hP (pool_at (by omega)) rfl (by decide) (List.mem_of_getElem? (i := 11) rfl) rfl dX8_swap_91 ?_
  refine lv_iload_n S.1 S.2.1 dX8_swap_94 rfl (lv_at hl 6 rfl) ?_
  refine rd_callS (rest := [.int (nI d), .int (nI (wk i)), .ref (pa i)]) S (r_X7_at l D cT (wk j) d (by omega) (hd)) gX8_swap_X7_at rfl pd_X7_at ⟨rfl, rfl, Nat.le_of_ble_eq_true rfl, Nat.le_of_ble_eq_true rfl⟩ (sx_P0 D _) hK hl rfl rfl (Nat.le_of_ble_eq_true rfl) ⟨Nat.zero_le _, Nat.zero_le _⟩ dX8_swap_95 ?_
  refine rd_callS (rest := [.ref (pa i)]) S (r_X7_with l D cT (wk i) d (ent (wk j) d) (by omega) (hd) (ent_lt _ _)) gX8_swap_X7_with rfl pd_X7_with ⟨rfl, rfl, Nat.le_of_ble_eq_true rfl, Nat.le_of_ble_eq_true rfl⟩ (sx_P0 D _) hK hl rfl rfl (Nat.le_of_ble_eq_true rfl) ⟨Nat.zero_le _, Nat.zero_le _⟩ dX8_swap_98 ?_
  refine w_putN (C := RX4) (T := TX4) (N := 8) (v := .int (nI (wset (wk i) d (ent (wk j) d)))) (ty := .int) S _ 3 2 in_X8_swap_X4 tyX4 tyX4_ok nmX4 hK hP hD hS (pool_at (by omega)) rfl (by decide) (List.mem_of_getElem? (i := 11) rfl) rfl (by decide +kernel) rfl rfl (Nat.le_of_ble_eq_true rfl) dX8_swap_101 (fun H locs hP hD hS => ?_)
  have hP : va_P D vwCl (cX cT c a6 a7 n ro cl fb rn nd V V2 PR pa ++ pool n pa (per sk mo (va_up wk i (wset (wk i) d (ent (wk j) d))) fx wi la da we)) H := by rw [← per_set_wk (i := i) (by omega)]; exact hP
  have hD : va_D A (cX cT c a6 a7 n ro cl fb rn nd V V2 PR pa ++ pool n pa (per sk mo (va_up wk i (wset (wk i) d (ent (wk j) d))) fx wi la da we)) := by rw [← per_set_wk (i := i) (by omega)]; exact hD
  refine lv_aload S.1 S.2.1 dX8_swap_104 (lv_at hl 1 rfl) ?_
  refine lv_aload S.1 S.2.1 dX8_swap_106 (lv_at hl 1 rfl) ?_
  refine g_getN (C := RX4) (T := TX4) (N := 8) (v := .int (nI ((va_up wk i (wset (wk i) d (ent (wk j) d))) j))) S _ 3 2 in_X8_swap_X4 hK hP (pool_at (by omega)) rfl (by decide) (List.mem_of_getElem? (i := 11) rfl) rfl dX8_swap_108 ?_
  refine n_top (show (nI ((va_up wk i (wset (wk i) d (ent (wk j) d))) j)) = (nI (wk j)) from by rw [vu_n (fun q => hij q.symm)]) ?_
  refine lv_iload_n S.1 S.2.1 dX8_swap_111 rfl (lv_at hl 6 rfl) ?_
  refine lv_iload S.1 S.2.1 dX8_swap_112 (lv_at hl 0 rfl) ?_
  refine rd_callS (rest := [.ref (pa j)]) S (r_X7_with l D cT (wk j) d (ent (wk i) d) (by omega) (hd) (ent_lt _ _)) gX8_swap_X7_with rfl pd_X7_with ⟨rfl, rfl, Nat.le_of_ble_eq_true rfl, Nat.le_of_ble_eq_true rfl⟩ (sx_P0 D _) hK hl rfl rfl (Nat.le_of_ble_eq_true rfl) ⟨Nat.zero_le _, Nat.zero_le _⟩ dX8_swap_114 ?_
  refine w_putN (C := RX4) (T := TX4) (N := 8) (v := .int (nI (wset (wk j) d (ent (wk i) d)))) (ty := .int) S _ 3 2 in_X8_swap_X4 tyX4 tyX4_ok nmX4 hK hP hD hS (pool_at (by omega)) rfl (by decide) (List.mem_of_getElem? (i := 11) rfl) rfl (by decide +kernel) rfl rfl (Nat.le_of_ble_eq_true rfl) dX8_swap_117 (fun H locs hP hD hS => ?_)
  have hP : va_P D vwCl (cX cT c a6 a7 n ro cl fb rn nd V V2 PR pa ++ pool n pa (per sk mo (va_up (va_up wk i (wset (wk i) d (ent (wk j) d))) j (wset (wk j) d (ent (wk i) d))) fx wi la da we)) H := by rw [← per_set_wk (i := j) (by omega)]; exact hP
  have hD : va_D A (cX cT c a6 a7 n ro cl fb rn nd V V2 PR pa ++ pool n pa (per sk mo (va_up (va_up wk i (wset (wk i) d (ent (wk j) d))) j (wset (wk j) d (ent (wk i) d))) fx wi la da we)) := by rw [← per_set_wk (i := j) (by omega)]; exact hD
  refine lv_aload S.1 S.2.1 dX8_swap_120 (lv_at hl 2 rfl) ?_
  refine rd_callV (rest := []) S (r_X4_brokenWishes l D cT (pa i) (sk i) (mo i) ((va_up (va_up wk i (wset (wk i) d (ent (wk j) d))) j (wset (wk j) d (ent (wk i) d))) i) (fx i) (wi i) (la i) (da i) (we i) (by rw [vu_n hij, vu_s]; exact wset_lt (by omega) hd (ent_lt _ _)) (by omega)) gX8_swap_X4_brokenWishes rfl pd_X4_brokenWishes ⟨rfl, rfl, Nat.le_of_ble_eq_true rfl, Nat.le_of_ble_eq_true rfl⟩ (pool_one hP (by omega)) hK (va_recv hK.1 hP (ci := 3) (q0 := _) rfl (pool_at (by omega))) hl rfl rfl (Nat.le_of_ble_eq_true rfl) ⟨Nat.zero_le _, Nat.zero_le _⟩ dX8_swap_122 ?_
  refine n_top (show (nI (brc (wi i) ((va_up (va_up wk i (wset (wk i) d (ent (wk j) d))) j (wset (wk j) d (ent (wk i) d))) i) 7)) = (nI (brc (wi i) (wset (wk i) d (ent (wk j) d)) 7)) from by rw [vu_n hij, vu_s]) ?_
  refine lv_aload S.1 S.2.1 dX8_swap_125 (lv_at hl 1 rfl) ?_
  refine rd_callV (rest := [.int (nI (brc (wi i) (wset (wk i) d (ent (wk j) d)) 7))]) S (r_X4_brokenWishes l D cT (pa j) (sk j) (mo j) ((va_up (va_up wk i (wset (wk i) d (ent (wk j) d))) j (wset (wk j) d (ent (wk i) d))) j) (fx j) (wi j) (la j) (da j) (we j) (by rw [vu_s]; exact wset_lt (by omega) hd (ent_lt _ _)) (by omega)) gX8_swap_X4_brokenWishes rfl pd_X4_brokenWishes ⟨rfl, rfl, Nat.le_of_ble_eq_true rfl, Nat.le_of_ble_eq_true rfl⟩ (pool_one hP (by omega)) hK (va_recv hK.1 hP (ci := 3) (q0 := _) rfl (pool_at (by omega))) hl rfl rfl (Nat.le_of_ble_eq_true rfl) ⟨Nat.zero_le _, Nat.zero_le _⟩ dX8_swap_127 ?_
  refine n_top (show (nI (brc (wi j) ((va_up (va_up wk i (wset (wk i) d (ent (wk j) d))) j (wset (wk j) d (ent (wk i) d))) j) 7)) = (nI (brc (wi j) (wset (wk j) d (ent (wk i) d)) 7)) from by rw [vu_s]) ?_
  refine n_add S dX8_swap_130 ?_
  exact wr_iret S (()) hr rfl hlocks (rfl) (hP) (hD) hS dX8_swap_131

theorem pd_X8_entry : yX8_entry.cls = RX8 ∧ yX8_entry.cls ≠ "java/lang/invoke/MethodHandle" ∧ yX8_entry.cls ≠ "java/lang/invoke/VarHandle" ∧ (parseMethodDescriptor yX8_entry.desc).map (fun d => d.parameters.length) = some 2 := by decide +kernel
theorem in_X8_entry_X4 : ∀ w ∈ u_ws RX4 TX4 8, w ∈ wsX8_entry := by decide +kernel
set_option maxHeartbeats 4000000 in
set_option maxRecDepth 100000 in
theorem r_X8_entry_ok (l : Launch) (D : va_G) (cT : ClassId × ClassId × ClassId) (c pa : Nat → Nat) (bd a6 a7 n ro cl fb rn : Nat) (nd sk mo wk fx wi la da we : Nat → Nat) (V V2 PR : Nat → Int64) (i : Nat) (d : Nat) (hwf : wfC n bd fb rn nd sk mo wk fx wi la da we) (hi : i < n) (hd : d < 7) : Met l yX8_entry wsX8_entry ({ frames := 2, cells := 0, slots := 0, locals := 41 }) (va_Pc [.ref (c 0), .int (nI i), .int (nI d)] (sx_R D (TY cT) (cX cT c a6 a7 n ro cl fb rn nd V V2 PR pa ++ pool n pa (per sk mo wk fx wi la da we)))) (vp_Si (fun r_ => r_ = (nI (ent (wk i) d)))) 0 0 (fun _ => False) := by
  refine rd_start (cc := cX8_entry) (maxL := 4) (ret := (some .int)) RX8 ⟨by decide +kernel, rfl⟩ rfl (Nat.le_of_ble_eq_true rfl) ?_
  intro p0 e0 s0 m0 a0 b0 t0 c0 S hr hlocks hP hK ls hl
  have hl : lv_has ls 4 [(0, .ref (c 0)), (1, .int (nI i)), (2, .int (nI d))] := hl
  obtain ⟨hn, hcl, hfb, hrn, hnd, hper⟩ := id hwf
  have hpi := hper i
  refine lv_aload_n S.1 S.2.1 dX8_entry_0 rfl (lv_at hl 0 rfl) ?_
  refine lv_iload_n S.1 S.2.1 dX8_entry_1 rfl (lv_at hl 1 rfl) ?_
  refine rd_callVr (rest := []) S (r_X8_personAt l D cT c pa bd a6 a7 n ro cl fb rn nd sk mo wk fx wi la da we V V2 PR i (hwf) (by omega)) gX8_entry_X8_personAt rfl pd_X8_personAt ⟨rfl, rfl, Nat.le_of_ble_eq_true rfl, Nat.le_of_ble_eq_true rfl⟩ hP hK (va_recv hK.1 hP (ci := 6) (q0 := 0) rfl rfl) hl rfl rfl (Nat.le_of_ble_eq_true rfl) ⟨Nat.zero_le _, Nat.zero_le _⟩ dX8_entry_2 ?_
  refine lv_astore_n (lv' := [(3, .ref (pa i)), (0, .ref (c 0)), (1, .int (nI i)), (2, .int (nI d))]) S.1 S.2.1 dX8_entry_5 rfl hl (by decide) rfl (fun ls hl => ?_)
  refine lv_aload_n S.1 S.2.1 dX8_entry_6 rfl (lv_at hl 0 rfl) ?_
  refine lv_ifnull S.1 S.2.1 dX8_entry_7 ?_
  refine lv_iload_n S.1 S.2.1 dX8_entry_10 rfl (lv_at hl 3 rfl) ?_
  refine rd_callS (rest := []) S (r_X8_isDay l D cT d (by omega)) gX8_entry_X8_isDay rfl pd_X8_isDay ⟨rfl, rfl, Nat.le_of_ble_eq_true rfl, Nat.le_of_ble_eq_true rfl⟩ (sx_P0 D _) hK hl rfl rfl (Nat.le_of_ble_eq_true rfl) ⟨Nat.zero_le _, Nat.zero_le _⟩ dX8_entry_11 ?_
  refine n_bne S (tgt := 27) dX8_entry_14 (by decide) (fun _ => ?_) (fun q => absurd q (by decide))
  refine lv_aload_n S.1 S.2.1 dX8_entry_27 rfl (lv_at hl 0 rfl) ?_
  refine g_getN (C := RX4) (T := TX4) (N := 8) (v := .int (nI (wk i))) S _ 3 2 in_X8_entry_X4 hK hP (pool_at (by omega)) rfl (by decide) (List.mem_of_getElem? (i := 11) rfl) rfl dX8_entry_28 ?_
  refine lv_iload_n S.1 S.2.1 dX8_entry_31 rfl (lv_at hl 3 rfl) ?_
  refine rd_callS (rest := []) S (r_X7_at l D cT (wk i) d (by omega) (by omega)) gX8_entry_X7_at rfl pd_X7_at ⟨rfl, rfl, Nat.le_of_ble_eq_true rfl, Nat.le_of_ble_eq_true rfl⟩ (sx_P0 D _) hK hl rfl rfl (Nat.le_of_ble_eq_true rfl) ⟨Nat.zero_le _, Nat.zero_le _⟩ dX8_entry_32 ?_
  exact rd_iret S hr rfl hlocks (rfl) dX8_entry_35

theorem pd_X8_gap : yX8_gap.cls = RX8 ∧ yX8_gap.cls ≠ "java/lang/invoke/MethodHandle" ∧ yX8_gap.cls ≠ "java/lang/invoke/VarHandle" ∧ (parseMethodDescriptor yX8_gap.desc).map (fun d => d.parameters.length) = some 2 := by decide +kernel
set_option maxHeartbeats 4000000 in
set_option maxRecDepth 100000 in
theorem r_X8_gap_ok (l : Launch) (D : va_G) (cT : ClassId × ClassId × ClassId) (c pa : Nat → Nat) (bd a6 a7 n ro cl fb rn : Nat) (nd sk mo wk fx wi la da we : Nat → Nat) (V V2 PR : Nat → Int64) (d : Nat) (e : Nat) (hwf : wfC n bd fb rn nd sk mo wk fx wi la da we) (hd : d < 7) (he : 1 ≤ e ∧ e < 4) : Met l yX8_gap wsX8_gap ({ frames := 3, cells := 0, slots := 0, locals := 69 }) (va_Pc [.ref (c 0), .int (nI d), .int (nI e)] (sx_R D (TY cT) (cX cT c a6 a7 n ro cl fb rn nd V V2 PR pa ++ pool n pa (per sk mo wk fx wi la da we)))) (vp_Si (fun r_ => r_ = (nI (gpw n nd wk 99 d e)))) 0 0 (fun _ => False) := by
  refine rd_start (cc := cX8_gap) (maxL := 3) (ret := (some .int)) RX8 ⟨by decide +kernel, rfl⟩ rfl (Nat.le_of_ble_eq_true rfl) ?_
  intro p0 e0 s0 m0 a0 b0 t0 c0 S hr hlocks hP hK ls hl
  have hl : lv_has ls 3 [(0, .ref (c 0)), (1, .int (nI d)), (2, .int (nI e))] := hl
  obtain ⟨hn, hcl, hfb, hrn, hnd, hper⟩ := id hwf
  refine lv_iload_n S.1 S.2.1 dX8_gap_0 rfl (lv_at hl 1 rfl) ?_
  refine rd_callS (rest := []) S (r_X8_isDay l D cT d (by omega)) gX8_gap_X8_isDay rfl pd_X8_isDay ⟨rfl, rfl, Nat.le_of_ble_eq_true rfl, Nat.le_of_ble_eq_true rfl⟩ (sx_P0 D _) hK hl rfl rfl (Nat.le_of_ble_eq_true rfl) ⟨Nat.zero_le _, Nat.zero_le _⟩ dX8_gap_1 ?_
  refine n_beq S (tgt := 14) dX8_gap_4 (by decide) (fun q => absurd q (by decide)) (fun _ => ?_)
  refine lv_iload_n S.1 S.2.1 dX8_gap_7 rfl (lv_at hl 2 rfl) ?_
  refine rd_callS (rest := []) S (r_X8_isKind l D cT e (by omega)) gX8_gap_X8_isKind rfl pd_X8_isKind ⟨rfl, rfl, Nat.le_of_ble_eq_true rfl, Nat.le_of_ble_eq_true rfl⟩ (sx_P0 D _) hK hl rfl rfl (Nat.le_of_ble_eq_true rfl) ⟨Nat.zero_le _, Nat.zero_le _⟩ dX8_gap_8 ?_
  refine n_bne S (tgt := 24) dX8_gap_11 (by decide) (fun _ => ?_) (fun q => absurd q (by decide))
  refine lv_aload_n S.1 S.2.1 dX8_gap_24 rfl (lv_at hl 0 rfl) ?_
  refine lv_null S.1 S.2.1 dX8_gap_25 ?_
  refine lv_iload_n S.1 S.2.1 dX8_gap_26 rfl (lv_at hl 1 rfl) ?_
  refine lv_iload_n S.1 S.2.1 dX8_gap_27 rfl (lv_at hl 2 rfl) ?_
  refine rd_callV (rest := []) S (r_X8_gapWithout l D cT c pa bd a6 a7 n ro cl fb rn nd sk mo wk fx wi la da we V V2 PR d e (hwf) (by omega) (by omega)) gX8_gap_X8_gapWithout rfl pd_X8_gapWithout ⟨rfl, rfl, Nat.le_of_ble_eq_true rfl, Nat.le_of_ble_eq_true rfl⟩ hP hK (va_recv hK.1 hP (ci := 6) (q0 := 0) rfl rfl) hl rfl rfl (Nat.le_of_ble_eq_true rfl) ⟨Nat.zero_le _, Nat.zero_le _⟩ dX8_gap_28 ?_
  exact rd_iret S hr rfl hlocks (rfl) dX8_gap_31

theorem pd_X8_shifts : yX8_shifts.cls = RX8 ∧ yX8_shifts.cls ≠ "java/lang/invoke/MethodHandle" ∧ yX8_shifts.cls ≠ "java/lang/invoke/VarHandle" ∧ (parseMethodDescriptor yX8_shifts.desc).map (fun d => d.parameters.length) = some 1 := by decide +kernel
theorem in_X8_shifts_X4 : ∀ w ∈ u_ws RX4 TX4 8, w ∈ wsX8_shifts := by decide +kernel
set_option maxHeartbeats 4000000 in
set_option maxRecDepth 100000 in
theorem r_X8_shifts_ok (l : Launch) (D : va_G) (cT : ClassId × ClassId × ClassId) (c pa : Nat → Nat) (bd a6 a7 n ro cl fb rn : Nat) (nd sk mo wk fx wi la da we : Nat → Nat) (V V2 PR : Nat → Int64) (i : Nat) (hwf : wfC n bd fb rn nd sk mo wk fx wi la da we) (hi : i < n) : Met l yX8_shifts wsX8_shifts ({ frames := 3, cells := 0, slots := 0, locals := 64 }) (va_Pc [.ref (c 0), .int (nI i)] (sx_R D (TY cT) (cX cT c a6 a7 n ro cl fb rn nd V V2 PR pa ++ pool n pa (per sk mo wk fx wi la da we)))) (vp_Si (fun r_ => r_ = (nI (shc (wk i) 0 7)))) 0 0 (fun _ => False) := by
  refine rd_start (cc := cX8_shifts) (maxL := 3) (ret := (some .int)) RX8 ⟨by decide +kernel, rfl⟩ rfl (Nat.le_of_ble_eq_true rfl) ?_
  intro p0 e0 s0 m0 a0 b0 t0 c0 S hr hlocks hP hK ls hl
  have hl : lv_has ls 3 [(0, .ref (c 0)), (1, .int (nI i))] := hl
  obtain ⟨hn, hcl, hfb, hrn, hnd, hper⟩ := id hwf
  have hpi := hper i
  refine lv_aload_n S.1 S.2.1 dX8_shifts_0 rfl (lv_at hl 0 rfl) ?_
  refine lv_iload_n S.1 S.2.1 dX8_shifts_1 rfl (lv_at hl 1 rfl) ?_
  refine rd_callVr (rest := []) S (r_X8_personAt l D cT c pa bd a6 a7 n ro cl fb rn nd sk mo wk fx wi la da we V V2 PR i (hwf) (by omega)) gX8_shifts_X8_personAt rfl pd_X8_personAt ⟨rfl, rfl, Nat.le_of_ble_eq_true rfl, Nat.le_of_ble_eq_true rfl⟩ hP hK (va_recv hK.1 hP (ci := 6) (q0 := 0) rfl rfl) hl rfl rfl (Nat.le_of_ble_eq_true rfl) ⟨Nat.zero_le _, Nat.zero_le _⟩ dX8_shifts_2 ?_
  refine lv_astore_n (lv' := [(2, .ref (pa i)), (0, .ref (c 0)), (1, .int (nI i))]) S.1 S.2.1 dX8_shifts_5 rfl hl (by decide) rfl (fun ls hl => ?_)
  refine lv_aload_n S.1 S.2.1 dX8_shifts_6 rfl (lv_at hl 0 rfl) ?_
  refine lv_ifnonnull (tgt := 20) S.1 S.2.1 dX8_shifts_7 (by decide) ?_
  refine lv_aload_n S.1 S.2.1 dX8_shifts_20 rfl (lv_at hl 0 rfl) ?_
  refine g_getN (C := RX4) (T := TX4) (N := 8) (v := .int (nI (wk i))) S _ 3 2 in_X8_shifts_X4 hK hP (pool_at (by omega)) rfl (by decide) (List.mem_of_getElem? (i := 11) rfl) rfl dX8_shifts_21 ?_
  refine lv_iconst (v := (nI 0)) S.1 S.2.1 dX8_shifts_24 (by decide) ?_
  refine rd_callS (rest := []) S (r_X7_shiftsFrom l D cT (wk i) 0 (by omega) (by omega)) gX8_shifts_X7_shiftsFrom rfl pd_X7_shiftsFrom ⟨rfl, rfl, Nat.le_of_ble_eq_true rfl, Nat.le_of_ble_eq_true rfl⟩ (sx_P0 D _) hK hl rfl rfl (Nat.le_of_ble_eq_true rfl) ⟨Nat.zero_le _, Nat.zero_le _⟩ dX8_shifts_25 ?_
  exact rd_iret S hr rfl hlocks (rfl) dX8_shifts_28

theorem pd_X8_weekends : yX8_weekends.cls = RX8 ∧ yX8_weekends.cls ≠ "java/lang/invoke/MethodHandle" ∧ yX8_weekends.cls ≠ "java/lang/invoke/VarHandle" ∧ (parseMethodDescriptor yX8_weekends.desc).map (fun d => d.parameters.length) = some 1 := by decide +kernel
theorem in_X8_weekends_X4 : ∀ w ∈ u_ws RX4 TX4 8, w ∈ wsX8_weekends := by decide +kernel
set_option maxHeartbeats 4000000 in
set_option maxRecDepth 100000 in
theorem r_X8_weekends_ok (l : Launch) (D : va_G) (cT : ClassId × ClassId × ClassId) (c pa : Nat → Nat) (bd a6 a7 n ro cl fb rn : Nat) (nd sk mo wk fx wi la da we : Nat → Nat) (V V2 PR : Nat → Int64) (i : Nat) (hwf : wfC n bd fb rn nd sk mo wk fx wi la da we) (hi : i < n) : Met l yX8_weekends wsX8_weekends ({ frames := 1, cells := 0, slots := 0, locals := 21 }) (va_Pc [.ref (c 0), .int (nI i)] (sx_R D (TY cT) (cX cT c a6 a7 n ro cl fb rn nd V V2 PR pa ++ pool n pa (per sk mo wk fx wi la da we)))) (vp_Si (fun r_ => r_ = (nI (we i)))) 0 0 (fun _ => False) := by
  refine rd_start (cc := cX8_weekends) (maxL := 3) (ret := (some .int)) RX8 ⟨by decide +kernel, rfl⟩ rfl (Nat.le_of_ble_eq_true rfl) ?_
  intro p0 e0 s0 m0 a0 b0 t0 c0 S hr hlocks hP hK ls hl
  have hl : lv_has ls 3 [(0, .ref (c 0)), (1, .int (nI i))] := hl
  obtain ⟨hn, hcl, hfb, hrn, hnd, hper⟩ := id hwf
  have hpi := hper i
  refine lv_aload_n S.1 S.2.1 dX8_weekends_0 rfl (lv_at hl 0 rfl) ?_
  refine lv_iload_n S.1 S.2.1 dX8_weekends_1 rfl (lv_at hl 1 rfl) ?_
  refine rd_callVr (rest := []) S (r_X8_personAt l D cT c pa bd a6 a7 n ro cl fb rn nd sk mo wk fx wi la da we V V2 PR i (hwf) (by omega)) gX8_weekends_X8_personAt rfl pd_X8_personAt ⟨rfl, rfl, Nat.le_of_ble_eq_true rfl, Nat.le_of_ble_eq_true rfl⟩ hP hK (va_recv hK.1 hP (ci := 6) (q0 := 0) rfl rfl) hl rfl rfl (Nat.le_of_ble_eq_true rfl) ⟨Nat.zero_le _, Nat.zero_le _⟩ dX8_weekends_2 ?_
  refine lv_astore_n (lv' := [(2, .ref (pa i)), (0, .ref (c 0)), (1, .int (nI i))]) S.1 S.2.1 dX8_weekends_5 rfl hl (by decide) rfl (fun ls hl => ?_)
  refine lv_aload_n S.1 S.2.1 dX8_weekends_6 rfl (lv_at hl 0 rfl) ?_
  refine lv_ifnonnull (tgt := 20) S.1 S.2.1 dX8_weekends_7 (by decide) ?_
  refine lv_aload_n S.1 S.2.1 dX8_weekends_20 rfl (lv_at hl 0 rfl) ?_
  refine g_getN (C := RX4) (T := TX4) (N := 8) (v := .int (nI (we i))) S _ 3 7 in_X8_weekends_X4 hK hP (pool_at (by omega)) rfl (by decide) (List.mem_of_getElem? (i := 16) rfl) rfl dX8_weekends_21 ?_
  exact rd_iret S hr rfl hlocks (rfl) dX8_weekends_24

theorem pd_X8_broken : yX8_broken.cls = RX8 ∧ yX8_broken.cls ≠ "java/lang/invoke/MethodHandle" ∧ yX8_broken.cls ≠ "java/lang/invoke/VarHandle" ∧ (parseMethodDescriptor yX8_broken.desc).map (fun d => d.parameters.length) = some 1 := by decide +kernel
set_option maxHeartbeats 4000000 in
set_option maxRecDepth 100000 in
theorem r_X8_broken_ok (l : Launch) (D : va_G) (cT : ClassId × ClassId × ClassId) (c pa : Nat → Nat) (bd a6 a7 n ro cl fb rn : Nat) (nd sk mo wk fx wi la da we : Nat → Nat) (V V2 PR : Nat → Int64) (i : Nat) (hwf : wfC n bd fb rn nd sk mo wk fx wi la da we) (hi : i < n) : Met l yX8_broken wsX8_broken ({ frames := 3, cells := 0, slots := 0, locals := 63 }) (va_Pc [.ref (c 0), .int (nI i)] (sx_R D (TY cT) (cX cT c a6 a7 n ro cl fb rn nd V V2 PR pa ++ pool n pa (per sk mo wk fx wi la da we)))) (vp_Si (fun r_ => r_ = (nI (brc (wi i) (wk i) 7)))) 0 0 (fun _ => False) := by
  refine rd_start (cc := cX8_broken) (maxL := 3) (ret := (some .int)) RX8 ⟨by decide +kernel, rfl⟩ rfl (Nat.le_of_ble_eq_true rfl) ?_
  intro p0 e0 s0 m0 a0 b0 t0 c0 S hr hlocks hP hK ls hl
  have hl : lv_has ls 3 [(0, .ref (c 0)), (1, .int (nI i))] := hl
  obtain ⟨hn, hcl, hfb, hrn, hnd, hper⟩ := id hwf
  have hpi := hper i
  refine lv_aload_n S.1 S.2.1 dX8_broken_0 rfl (lv_at hl 0 rfl) ?_
  refine lv_iload_n S.1 S.2.1 dX8_broken_1 rfl (lv_at hl 1 rfl) ?_
  refine rd_callVr (rest := []) S (r_X8_personAt l D cT c pa bd a6 a7 n ro cl fb rn nd sk mo wk fx wi la da we V V2 PR i (hwf) (by omega)) gX8_broken_X8_personAt rfl pd_X8_personAt ⟨rfl, rfl, Nat.le_of_ble_eq_true rfl, Nat.le_of_ble_eq_true rfl⟩ hP hK (va_recv hK.1 hP (ci := 6) (q0 := 0) rfl rfl) hl rfl rfl (Nat.le_of_ble_eq_true rfl) ⟨Nat.zero_le _, Nat.zero_le _⟩ dX8_broken_2 ?_
  refine lv_astore_n (lv' := [(2, .ref (pa i)), (0, .ref (c 0)), (1, .int (nI i))]) S.1 S.2.1 dX8_broken_5 rfl hl (by decide) rfl (fun ls hl => ?_)
  refine lv_aload_n S.1 S.2.1 dX8_broken_6 rfl (lv_at hl 0 rfl) ?_
  refine lv_ifnonnull (tgt := 20) S.1 S.2.1 dX8_broken_7 (by decide) ?_
  refine lv_aload_n S.1 S.2.1 dX8_broken_20 rfl (lv_at hl 0 rfl) ?_
  refine rd_callV (rest := []) S (r_X4_brokenWishes l D cT (pa i) (sk i) (mo i) (wk i) (fx i) (wi i) (la i) (da i) (we i) (by omega) (by omega)) gX8_broken_X4_brokenWishes rfl pd_X4_brokenWishes ⟨rfl, rfl, Nat.le_of_ble_eq_true rfl, Nat.le_of_ble_eq_true rfl⟩ (pool_one hP (by omega)) hK (va_recv hK.1 hP (ci := 3) (q0 := _) rfl (pool_at (by omega))) hl rfl rfl (Nat.le_of_ble_eq_true rfl) ⟨Nat.zero_le _, Nat.zero_le _⟩ dX8_broken_21 ?_
  exact rd_iret S hr rfl hlocks (rfl) dX8_broken_24

theorem pd_X8_runBefore : yX8_runBefore.cls = RX8 ∧ yX8_runBefore.cls ≠ "java/lang/invoke/MethodHandle" ∧ yX8_runBefore.cls ≠ "java/lang/invoke/VarHandle" ∧ (parseMethodDescriptor yX8_runBefore.desc).map (fun d => d.parameters.length) = some 1 := by decide +kernel
theorem in_X8_runBefore_X4 : ∀ w ∈ u_ws RX4 TX4 8, w ∈ wsX8_runBefore := by decide +kernel
set_option maxHeartbeats 4000000 in
set_option maxRecDepth 100000 in
theorem r_X8_runBefore_ok (l : Launch) (D : va_G) (cT : ClassId × ClassId × ClassId) (c pa : Nat → Nat) (bd a6 a7 n ro cl fb rn : Nat) (nd sk mo wk fx wi la da we : Nat → Nat) (V V2 PR : Nat → Int64) (i : Nat) (hwf : wfC n bd fb rn nd sk mo wk fx wi la da we) (hi : i < n) : Met l yX8_runBefore wsX8_runBefore ({ frames := 1, cells := 0, slots := 0, locals := 21 }) (va_Pc [.ref (c 0), .int (nI i)] (sx_R D (TY cT) (cX cT c a6 a7 n ro cl fb rn nd V V2 PR pa ++ pool n pa (per sk mo wk fx wi la da we)))) (vp_Si (fun r_ => r_ = (nI (da i)))) 0 0 (fun _ => False) := by
  refine rd_start (cc := cX8_runBefore) (maxL := 3) (ret := (some .int)) RX8 ⟨by decide +kernel, rfl⟩ rfl (Nat.le_of_ble_eq_true rfl) ?_
  intro p0 e0 s0 m0 a0 b0 t0 c0 S hr hlocks hP hK ls hl
  have hl : lv_has ls 3 [(0, .ref (c 0)), (1, .int (nI i))] := hl
  obtain ⟨hn, hcl, hfb, hrn, hnd, hper⟩ := id hwf
  have hpi := hper i
  refine lv_aload_n S.1 S.2.1 dX8_runBefore_0 rfl (lv_at hl 0 rfl) ?_
  refine lv_iload_n S.1 S.2.1 dX8_runBefore_1 rfl (lv_at hl 1 rfl) ?_
  refine rd_callVr (rest := []) S (r_X8_personAt l D cT c pa bd a6 a7 n ro cl fb rn nd sk mo wk fx wi la da we V V2 PR i (hwf) (by omega)) gX8_runBefore_X8_personAt rfl pd_X8_personAt ⟨rfl, rfl, Nat.le_of_ble_eq_true rfl, Nat.le_of_ble_eq_true rfl⟩ hP hK (va_recv hK.1 hP (ci := 6) (q0 := 0) rfl rfl) hl rfl rfl (Nat.le_of_ble_eq_true rfl) ⟨Nat.zero_le _, Nat.zero_le _⟩ dX8_runBefore_2 ?_
  refine lv_astore_n (lv' := [(2, .ref (pa i)), (0, .ref (c 0)), (1, .int (nI i))]) S.1 S.2.1 dX8_runBefore_5 rfl hl (by decide) rfl (fun ls hl => ?_)
  refine lv_aload_n S.1 S.2.1 dX8_runBefore_6 rfl (lv_at hl 0 rfl) ?_
  refine lv_ifnonnull (tgt := 20) S.1 S.2.1 dX8_runBefore_7 (by decide) ?_
  refine lv_aload_n S.1 S.2.1 dX8_runBefore_20 rfl (lv_at hl 0 rfl) ?_
  refine g_getN (C := RX4) (T := TX4) (N := 8) (v := .int (nI (da i))) S _ 3 6 in_X8_runBefore_X4 hK hP (pool_at (by omega)) rfl (by decide) (List.mem_of_getElem? (i := 14) rfl) rfl dX8_runBefore_21 ?_
  exact rd_iret S hr rfl hlocks (rfl) dX8_runBefore_24

theorem pd_X8_isFeasible : yX8_isFeasible.cls = RX8 ∧ yX8_isFeasible.cls ≠ "java/lang/invoke/MethodHandle" ∧ yX8_isFeasible.cls ≠ "java/lang/invoke/VarHandle" ∧ (parseMethodDescriptor yX8_isFeasible.desc).map (fun d => d.parameters.length) = some 1 := by decide +kernel
theorem w_X8_isFeasible_0 : Cond.fieldLink RX8 25 "CoverSheet" "rules" "LCoverSheet$Rules;" ∈ wsX8_isFeasible := by decide +kernel
theorem in_X8_isFeasible_X4 : ∀ w ∈ u_ws RX4 TX4 8, w ∈ wsX8_isFeasible := by decide +kernel
theorem in_X8_isFeasible_X8 : ∀ w ∈ u_ws RX8 TX8 9, w ∈ wsX8_isFeasible := by decide +kernel
set_option maxHeartbeats 4000000 in
set_option maxRecDepth 100000 in
theorem r_X8_isFeasible_ok (l : Launch) (D : va_G) (cT : ClassId × ClassId × ClassId) (c pa : Nat → Nat) (bd a6 a7 n ro cl fb rn : Nat) (nd sk mo wk fx wi la da we : Nat → Nat) (V V2 PR : Nat → Int64) (i : Nat) (hwf : wfC n bd fb rn nd sk mo wk fx wi la da we) (hi : i < n) : Met l yX8_isFeasible wsX8_isFeasible ({ frames := 4, cells := 0, slots := 0, locals := 90 }) (va_Pc [.ref (c 0), .int (nI i)] (sx_R D (TY cT) (cX cT c a6 a7 n ro cl fb rn nd V V2 PR pa ++ pool n pa (per sk mo wk fx wi la da we)))) (vp_Si (fun r_ => r_ = (nI (fe sk mo fx la da fb rn i (wk i)).toNat))) 0 0 (fun _ => False) := by
  refine rd_start (cc := cX8_isFeasible) (maxL := 3) (ret := (some .boolean)) RX8 ⟨by decide +kernel, rfl⟩ rfl (Nat.le_of_ble_eq_true rfl) ?_
  intro p0 e0 s0 m0 a0 b0 t0 c0 S hr hlocks hP hK ls hl
  have hl : lv_has ls 3 [(0, .ref (c 0)), (1, .int (nI i))] := hl
  obtain ⟨hn, hcl, hfb, hrn, hnd, hper⟩ := id hwf
  have hpii := hper i
  refine lv_aload_n S.1 S.2.1 dX8_isFeasible_0 rfl (lv_at hl 0 rfl) ?_
  refine lv_iload_n S.1 S.2.1 dX8_isFeasible_1 rfl (lv_at hl 1 rfl) ?_
  refine rd_callVr (rest := []) S (r_X8_personAt l D cT c pa bd a6 a7 n ro cl fb rn nd sk mo wk fx wi la da we V V2 PR i (hwf) (by omega)) gX8_isFeasible_X8_personAt rfl pd_X8_personAt ⟨rfl, rfl, Nat.le_of_ble_eq_true rfl, Nat.le_of_ble_eq_true rfl⟩ hP hK (va_recv hK.1 hP (ci := 6) (q0 := 0) rfl rfl) hl rfl rfl (Nat.le_of_ble_eq_true rfl) ⟨Nat.zero_le _, Nat.zero_le _⟩ dX8_isFeasible_2 ?_
  refine lv_astore_n (lv' := [(2, .ref (pa i)), (0, .ref (c 0)), (1, .int (nI i))]) S.1 S.2.1 dX8_isFeasible_5 rfl hl (by decide) rfl (fun ls hl => ?_)
  refine lv_aload_n S.1 S.2.1 dX8_isFeasible_6 rfl (lv_at hl 0 rfl) ?_
  refine lv_ifnonnull (tgt := 20) S.1 S.2.1 dX8_isFeasible_7 (by decide) ?_
  refine lv_aload_n S.1 S.2.1 dX8_isFeasible_20 rfl (lv_at hl 0 rfl) ?_
  refine lv_aload_n S.1 S.2.1 dX8_isFeasible_21 rfl (lv_at hl 0 rfl) ?_
  refine g_getN (C := RX4) (T := TX4) (N := 8) (v := .int (nI (wk i))) S _ 3 2 in_X8_isFeasible_X4 hK hP (pool_at (by omega)) rfl (by decide) (List.mem_of_getElem? (i := 11) rfl) rfl dX8_isFeasible_22 ?_
  refine lv_aload_n S.1 S.2.1 dX8_isFeasible_25 rfl (lv_at hl 1 rfl) ?_
  refine g_get (C := RX8) (T := TX8) (N := 9) (v := .ref (c 4)) S 0 6 2 in_X8_isFeasible_X8 hK hP rfl rfl (by decide) w_X8_isFeasible_0 rfl dX8_isFeasible_26 ?_
  refine rd_callV (rest := []) S (r_X4_canHave l D cT (pa i) (c 4) (sk i) (mo i) (wk i) (fx i) (wi i) (la i) (da i) (we i) fb rn (wk i) (by omega) (by omega) (by omega)) gX8_isFeasible_X4_canHave rfl pd_X4_canHave ⟨rfl, rfl, Nat.le_of_ble_eq_true rfl, Nat.le_of_ble_eq_true rfl⟩ (sx_P2 (pool_one hP (by omega)) (hP.sub (ws' := [(c 4, .inr (5, [.int (nI fb), .int (nI rn)]))]) [4] rfl)) hK (va_recv hK.1 hP (ci := 3) (q0 := _) rfl (pool_at (by omega))) hl rfl rfl (Nat.le_of_ble_eq_true rfl) ⟨Nat.zero_le _, Nat.zero_le _⟩ dX8_isFeasible_29 ?_
  exact rd_iret S hr (sx_bt _) hlocks (rfl) dX8_isFeasible_32

theorem pd_X8_weeks : yX8_weeks.cls = RX8 ∧ yX8_weeks.cls ≠ "java/lang/invoke/MethodHandle" ∧ yX8_weeks.cls ≠ "java/lang/invoke/VarHandle" ∧ (parseMethodDescriptor yX8_weeks.desc).map (fun d => d.parameters.length) = some 1 := by decide +kernel
theorem w_X8_weeks_0 : Cond.fieldLink RX8 25 "CoverSheet" "rules" "LCoverSheet$Rules;" ∈ wsX8_weeks := by decide +kernel
theorem in_X8_weeks_X8 : ∀ w ∈ u_ws RX8 TX8 9, w ∈ wsX8_weeks := by decide +kernel
set_option maxHeartbeats 4000000 in
set_option maxRecDepth 100000 in
theorem r_X8_weeks_ok (l : Launch) (D : va_G) (cT : ClassId × ClassId × ClassId) (c pa : Nat → Nat) (bd a6 a7 n ro cl fb rn : Nat) (nd sk mo wk fx wi la da we : Nat → Nat) (V V2 PR : Nat → Int64) (i : Nat) (hwf : wfC n bd fb rn nd sk mo wk fx wi la da we) (hi : i < n) : Met l yX8_weeks wsX8_weeks ({ frames := 4, cells := 0, slots := 0, locals := 90 }) (va_Pc [.ref (c 0), .int (nI i)] (sx_R D (TY cT) (cX cT c a6 a7 n ro cl fb rn nd V V2 PR pa ++ pool n pa (per sk mo wk fx wi la da we)))) (vp_Si (fun r_ => r_ = (nI (cnw (fe sk mo fx la da fb rn i) 16384)))) 0 0 (fun _ => False) := by
  refine rd_start (cc := cX8_weeks) (maxL := 5) (ret := (some .int)) RX8 ⟨by decide +kernel, rfl⟩ rfl (Nat.le_of_ble_eq_true rfl) ?_
  intro p0 e0 s0 m0 a0 b0 t0 c0 S hr hlocks hP hK ls hl
  have hl : lv_has ls 5 [(0, .ref (c 0)), (1, .int (nI i))] := hl
  obtain ⟨hn, hcl, hfb, hrn, hnd, hper⟩ := id hwf
  have hpii := hper i
  refine lv_aload_n S.1 S.2.1 dX8_weeks_0 rfl (lv_at hl 0 rfl) ?_
  refine lv_iload_n S.1 S.2.1 dX8_weeks_1 rfl (lv_at hl 1 rfl) ?_
  refine rd_callVr (rest := []) S (r_X8_personAt l D cT c pa bd a6 a7 n ro cl fb rn nd sk mo wk fx wi la da we V V2 PR i (hwf) (by omega)) gX8_weeks_X8_personAt rfl pd_X8_personAt ⟨rfl, rfl, Nat.le_of_ble_eq_true rfl, Nat.le_of_ble_eq_true rfl⟩ hP hK (va_recv hK.1 hP (ci := 6) (q0 := 0) rfl rfl) hl rfl rfl (Nat.le_of_ble_eq_true rfl) ⟨Nat.zero_le _, Nat.zero_le _⟩ dX8_weeks_2 ?_
  refine lv_astore_n (lv' := [(2, .ref (pa i)), (0, .ref (c 0)), (1, .int (nI i))]) S.1 S.2.1 dX8_weeks_5 rfl hl (by decide) rfl (fun ls hl => ?_)
  refine lv_aload_n S.1 S.2.1 dX8_weeks_6 rfl (lv_at hl 0 rfl) ?_
  refine lv_ifnonnull (tgt := 20) S.1 S.2.1 dX8_weeks_7 (by decide) ?_
  refine lv_iconst (v := (nI 0)) S.1 S.2.1 dX8_weeks_20 (by decide) ?_
  refine lv_istore_n (lv' := [(3, .int (nI 0)), (2, .ref (pa i)), (0, .ref (c 0)), (1, .int (nI i))]) S.1 S.2.1 dX8_weeks_21 rfl hl (by decide) rfl (fun ls hl => ?_)
  refine lv_iconst (v := (nI 0)) S.1 S.2.1 dX8_weeks_22 (by decide) ?_
  refine lv_istore (lv' := [(4, .int (nI 0)), (3, .int (nI 0)), (2, .ref (pa i)), (0, .ref (c 0)), (1, .int (nI i))]) S.1 S.2.1 dX8_weeks_23 hl (by decide) rfl (fun ls hl => ?_)
  have lp25 : ∀ (fu : Nat) (f : Nat) (w : Nat), (w ≤ 16384) → (f = cnw (fe sk mo fx la da fb rn i) w) → (16384 - w) < fu → ∀ ls : Array Slot, lv_has ls 5 [(0, .ref (c 0)), (2, .ref (pa i)), (3, .int (nI f)), (4, .int (nI w))] → W p0 l e0 ({ frames := 4, cells := 0, slots := 0, locals := 90 } : Room) s0 m0 a0 b0 t0 c0 s0.heap [] 0 0 (MQ b0 (vp_Si (fun r_ => r_ = (nI (cnw (fe sk mo fx la da fb rn i) 16384)))) a0 s0 0 0 (fun _ => False)) (F0 m0 25 ls []) := by
    intro fu
    induction fu with
    | zero =>
      intro f w h2 hf hm
      exact absurd hm (Nat.not_lt_zero _)
    | succ fu ih25 =>
      intro f w h2 hf hm ls hl
      refine lv_iload S.1 S.2.1 dX8_weeks_25 (lv_at hl 3 rfl) ?_
      refine lv_sipush (v := (nI 16384)) S.1 S.2.1 dX8_weeks_27 (by decide) ?_
      refine n_cge S (tgt := 55) (by omega) dX8_weeks_30 (by decide) (fun c30 => ?_) (fun c30 => ?_)
      · refine lv_iload_n S.1 S.2.1 dX8_weeks_55 rfl (lv_at hl 2 rfl) ?_
        exact rd_iret S hr rfl hlocks (by rw [hf, show w = 16384 by omega]) dX8_weeks_56
      · refine lv_aload_n S.1 S.2.1 dX8_weeks_33 rfl (lv_at hl 1 rfl) ?_
        refine lv_iload S.1 S.2.1 dX8_weeks_34 (lv_at hl 3 rfl) ?_
        refine lv_aload_n S.1 S.2.1 dX8_weeks_36 rfl (lv_at hl 0 rfl) ?_
        refine g_get (C := RX8) (T := TX8) (N := 9) (v := .ref (c 4)) S 0 6 2 in_X8_weeks_X8 hK hP rfl rfl (by decide) w_X8_weeks_0 rfl dX8_weeks_37 ?_
        refine rd_callV (rest := []) S (r_X4_canHave l D cT (pa i) (c 4) (sk i) (mo i) (wk i) (fx i) (wi i) (la i) (da i) (we i) fb rn w (by omega) (⟨hpii.1, hpii.2.1, hpii.2.2.2.2.2.1, hfb, hrn, by omega⟩) (hpii.2.2.2.1)) gX8_weeks_X4_canHave rfl pd_X4_canHave ⟨rfl, rfl, Nat.le_of_ble_eq_true rfl, Nat.le_of_ble_eq_true rfl⟩ (sx_P2 (pool_one hP (by omega)) (hP.sub (ws' := [(c 4, .inr (5, [.int (nI fb), .int (nI rn)]))]) [4] rfl)) hK (va_recv hK.1 hP (ci := 3) (q0 := _) rfl (pool_at (by omega))) hl rfl rfl (Nat.le_of_ble_eq_true rfl) ⟨Nat.zero_le _, Nat.zero_le _⟩ dX8_weeks_40 ?_
        refine n_beq S (tgt := 49) dX8_weeks_43 (by decide) (fun c43 => ?_) (fun c43 => ?_)
        · refine lv_iinc (v := (nI (w + 1))) (lv' := [(4, .int (nI (w + 1))), (0, .ref (c 0)), (2, .ref (pa i)), (3, .int (nI f))]) S.1 S.2.1 dX8_weeks_49 hl (k := 3) rfl (nI_1 _) (by decide) rfl (fun ls hl => ?_)
          refine lv_goto (tgt := 25) S.1 S.2.1 dX8_weeks_52 (by decide) ?_
          exact ih25 f (w + 1) (by omega) (by first | (rw [hf]; exact (cnw_1 c43).symm) | (rw [hf]; exact (cnw_0 c43).symm)) (by omega) ls (lv_sub hl [1, 2, 3, 0] rfl)
        · refine lv_iinc (v := (nI (f + 1))) (lv' := [(3, .int (nI (f + 1))), (0, .ref (c 0)), (2, .ref (pa i)), (4, .int (nI w))]) S.1 S.2.1 dX8_weeks_46 hl (k := 2) rfl (nI_1 _) (by decide) rfl (fun ls hl => ?_)
          refine lv_iinc (v := (nI (w + 1))) (lv' := [(4, .int (nI (w + 1))), (3, .int (nI (f + 1))), (0, .ref (c 0)), (2, .ref (pa i))]) S.1 S.2.1 dX8_weeks_49 hl (k := 3) rfl (nI_1 _) (by decide) rfl (fun ls hl => ?_)
          refine lv_goto (tgt := 25) S.1 S.2.1 dX8_weeks_52 (by decide) ?_
          exact ih25 (f + 1) (w + 1) (by omega) (by first | (rw [hf]; exact (cnw_1 c43).symm) | (rw [hf]; exact (cnw_0 c43).symm)) (by omega) ls (lv_sub hl [2, 3, 1, 0] rfl)
  exact lp25 _ 0 0 (Nat.zero_le _) (rfl) (Nat.lt_succ_self _) ls (lv_sub hl [3, 2, 1, 0] rfl)

theorem pd_X8_couldTake : yX8_couldTake.cls = RX8 ∧ yX8_couldTake.cls ≠ "java/lang/invoke/MethodHandle" ∧ yX8_couldTake.cls ≠ "java/lang/invoke/VarHandle" ∧ (parseMethodDescriptor yX8_couldTake.desc).map (fun d => d.parameters.length) = some 2 := by decide +kernel
theorem w_X8_couldTake_0 : Cond.fieldLink RX8 59 "CoverSheet" "teamSize" "I" ∈ wsX8_couldTake := by decide +kernel
theorem w_X8_couldTake_1 : Cond.fieldLink RX8 25 "CoverSheet" "rules" "LCoverSheet$Rules;" ∈ wsX8_couldTake := by decide +kernel
theorem in_X8_couldTake_X4 : ∀ w ∈ u_ws RX4 TX4 8, w ∈ wsX8_couldTake := by decide +kernel
theorem in_X8_couldTake_X8 : ∀ w ∈ u_ws RX8 TX8 9, w ∈ wsX8_couldTake := by decide +kernel
set_option maxHeartbeats 4000000 in
set_option maxRecDepth 100000 in
theorem r_X8_couldTake_ok (l : Launch) (D : va_G) (cT : ClassId × ClassId × ClassId) (c pa : Nat → Nat) (bd a6 a7 n ro cl fb rn : Nat) (nd sk mo wk fx wi la da we : Nat → Nat) (V V2 PR : Nat → Int64) (d : Nat) (e : Nat) (hwf : wfC n bd fb rn nd sk mo wk fx wi la da we) (hd : d < 7) (he : 1 ≤ e ∧ e < 4) : Met l yX8_couldTake wsX8_couldTake ({ frames := 4, cells := 0, slots := 0, locals := 90 }) (va_Pc [.ref (c 0), .int (nI d), .int (nI e)] (sx_R D (TY cT) (cX cT c a6 a7 n ro cl fb rn nd V V2 PR pa ++ pool n pa (per sk mo wk fx wi la da we)))) (vp_Si (fun r_ => r_ = (nI (ctk (ctf sk mo wk fx la da fb rn d e) n)))) 0 0 (fun _ => False) := by
  refine rd_start (cc := cX8_couldTake) (maxL := 6) (ret := (some .int)) RX8 ⟨by decide +kernel, rfl⟩ rfl (Nat.le_of_ble_eq_true rfl) ?_
  intro p0 e0 s0 m0 a0 b0 t0 c0 S hr hlocks hP hK ls hl
  have hl : lv_has ls 6 [(0, .ref (c 0)), (1, .int (nI d)), (2, .int (nI e))] := hl
  obtain ⟨hn, hcl, hfb, hrn, hnd, hper⟩ := id hwf
  refine lv_iload_n S.1 S.2.1 dX8_couldTake_0 rfl (lv_at hl 1 rfl) ?_
  refine rd_callS (rest := []) S (r_X8_isDay l D cT d (by omega)) gX8_couldTake_X8_isDay rfl pd_X8_isDay ⟨rfl, rfl, Nat.le_of_ble_eq_true rfl, Nat.le_of_ble_eq_true rfl⟩ (sx_P0 D _) hK hl rfl rfl (Nat.le_of_ble_eq_true rfl) ⟨Nat.zero_le _, Nat.zero_le _⟩ dX8_couldTake_1 ?_
  refine n_beq S (tgt := 14) dX8_couldTake_4 (by decide) (fun q => absurd q (by decide)) (fun _ => ?_)
  refine lv_iload_n S.1 S.2.1 dX8_couldTake_7 rfl (lv_at hl 2 rfl) ?_
  refine rd_callS (rest := []) S (r_X8_isKind l D cT e (by omega)) gX8_couldTake_X8_isKind rfl pd_X8_isKind ⟨rfl, rfl, Nat.le_of_ble_eq_true rfl, Nat.le_of_ble_eq_true rfl⟩ (sx_P0 D _) hK hl rfl rfl (Nat.le_of_ble_eq_true rfl) ⟨Nat.zero_le _, Nat.zero_le _⟩ dX8_couldTake_8 ?_
  refine n_bne S (tgt := 24) dX8_couldTake_11 (by decide) (fun _ => ?_) (fun q => absurd q (by decide))
  refine lv_iconst (v := (nI 0)) S.1 S.2.1 dX8_couldTake_24 (by decide) ?_
  refine lv_istore_n (lv' := [(3, .int (nI 0)), (0, .ref (c 0)), (1, .int (nI d)), (2, .int (nI e))]) S.1 S.2.1 dX8_couldTake_25 rfl hl (by decide) rfl (fun ls hl => ?_)
  refine lv_iconst (v := (nI 0)) S.1 S.2.1 dX8_couldTake_26 (by decide) ?_
  refine lv_istore (lv' := [(4, .int (nI 0)), (3, .int (nI 0)), (0, .ref (c 0)), (1, .int (nI d)), (2, .int (nI e))]) S.1 S.2.1 dX8_couldTake_27 hl (by decide) rfl (fun ls hl => ?_)
  have lp29 : ∀ (fu : Nat) (t : Nat) (k : Nat), (k ≤ n) → (t = ctk (ctf sk mo wk fx la da fb rn d e) k) → (n - k) < fu → ∀ ls : Array Slot, lv_has ls 6 [(0, .ref (c 0)), (1, .int (nI d)), (2, .int (nI e)), (3, .int (nI t)), (4, .int (nI k))] → W p0 l e0 ({ frames := 4, cells := 0, slots := 0, locals := 90 } : Room) s0 m0 a0 b0 t0 c0 s0.heap [] 0 0 (MQ b0 (vp_Si (fun r_ => r_ = (nI (ctk (ctf sk mo wk fx la da fb rn d e) n)))) a0 s0 0 0 (fun _ => False)) (F0 m0 29 ls []) := by
    intro fu
    induction fu with
    | zero =>
      intro t k h2 ht hm
      exact absurd hm (Nat.not_lt_zero _)
    | succ fu ih29 =>
      intro t k h2 ht hm ls hl
      have hpik := hper k
      refine lv_iload S.1 S.2.1 dX8_couldTake_29 (lv_at hl 4 rfl) ?_
      refine lv_aload_n S.1 S.2.1 dX8_couldTake_31 rfl (lv_at hl 0 rfl) ?_
      refine g_get (C := RX8) (T := TX8) (N := 9) (v := .int (nI n)) S 0 6 6 in_X8_couldTake_X8 hK hP rfl rfl (by decide) w_X8_couldTake_0 rfl dX8_couldTake_32 ?_
      refine n_cge S (tgt := 98) (by omega) dX8_couldTake_35 (by decide) (fun c35 => ?_) (fun c35 => ?_)
      · refine lv_iload_n S.1 S.2.1 dX8_couldTake_98 rfl (lv_at hl 3 rfl) ?_
        exact rd_iret S hr rfl hlocks (by rw [ht, show k = n by omega]) dX8_couldTake_99
      · refine lv_aload_n S.1 S.2.1 dX8_couldTake_38 rfl (lv_at hl 0 rfl) ?_
        refine lv_iload S.1 S.2.1 dX8_couldTake_39 (lv_at hl 4 rfl) ?_
        refine rd_callVr (rest := []) S (r_X8_personAt l D cT c pa bd a6 a7 n ro cl fb rn nd sk mo wk fx wi la da we V V2 PR k (hwf) (by omega)) gX8_couldTake_X8_personAt rfl pd_X8_personAt ⟨rfl, rfl, Nat.le_of_ble_eq_true rfl, Nat.le_of_ble_eq_true rfl⟩ hP hK (va_recv hK.1 hP (ci := 6) (q0 := 0) rfl rfl) hl rfl rfl (Nat.le_of_ble_eq_true rfl) ⟨Nat.zero_le _, Nat.zero_le _⟩ dX8_couldTake_41 ?_
        refine lv_astore (lv' := [(5, .ref (pa k)), (0, .ref (c 0)), (1, .int (nI d)), (2, .int (nI e)), (3, .int (nI t)), (4, .int (nI k))]) S.1 S.2.1 dX8_couldTake_44 hl (by decide) rfl (fun ls hl => ?_)
        refine lv_aload S.1 S.2.1 dX8_couldTake_46 (lv_at hl 0 rfl) ?_
        refine lv_ifnull S.1 S.2.1 dX8_couldTake_48 ?_
        refine lv_aload S.1 S.2.1 dX8_couldTake_51 (lv_at hl 0 rfl) ?_
        refine g_getN (C := RX4) (T := TX4) (N := 8) (v := .int (nI (wk k))) S _ 3 2 in_X8_couldTake_X4 hK hP (pool_at (by omega)) rfl (by decide) (List.mem_of_getElem? (i := 11) rfl) rfl dX8_couldTake_53 ?_
        refine lv_iload_n S.1 S.2.1 dX8_couldTake_56 rfl (lv_at hl 2 rfl) ?_
        refine rd_callS (rest := []) S (r_X7_at l D cT (wk k) d (by omega) (by omega)) gX8_couldTake_X7_at rfl pd_X7_at ⟨rfl, rfl, Nat.le_of_ble_eq_true rfl, Nat.le_of_ble_eq_true rfl⟩ (sx_P0 D _) hK hl rfl rfl (Nat.le_of_ble_eq_true rfl) ⟨Nat.zero_le _, Nat.zero_le _⟩ dX8_couldTake_57 ?_
        refine n_zne S (tgt := 92) (Nat.lt_trans (ent_lt _ _) (by decide)) dX8_couldTake_60 (by decide) (fun c60 => ?_) (fun c60 => ?_)
        · refine lv_iinc (v := (nI (k + 1))) (lv' := [(4, .int (nI (k + 1))), (5, .ref (pa k)), (0, .ref (c 0)), (1, .int (nI d)), (2, .int (nI e)), (3, .int (nI t))]) S.1 S.2.1 dX8_couldTake_92 hl (k := 5) rfl (nI_1 _) (by decide) rfl (fun ls hl => ?_)
          refine lv_goto (tgt := 29) S.1 S.2.1 dX8_couldTake_95 (by decide) ?_
          exact ih29 t (k + 1) (by omega) (by rw [ht]; exact ctk_0' (by show (ent (wk k) d == 0 && feas _ _ _ _ _ _ _ _) = false; first | rw [c82, Bool.and_false] | (rw [show (ent (wk k) d == 0) = false from Bool.eq_false_iff.mpr (fun q => c60 (by simpa using q))]; rfl))) (by omega) ls (lv_sub hl [2, 3, 4, 5, 0] rfl)
        · refine lv_aload S.1 S.2.1 dX8_couldTake_63 (lv_at hl 0 rfl) ?_
          refine lv_aload S.1 S.2.1 dX8_couldTake_65 (lv_at hl 0 rfl) ?_
          refine g_getN (C := RX4) (T := TX4) (N := 8) (v := .int (nI (wk k))) S _ 3 2 in_X8_couldTake_X4 hK hP (pool_at (by omega)) rfl (by decide) (List.mem_of_getElem? (i := 11) rfl) rfl dX8_couldTake_67 ?_
          refine lv_iload_n S.1 S.2.1 dX8_couldTake_70 rfl (lv_at hl 2 rfl) ?_
          refine lv_iload_n S.1 S.2.1 dX8_couldTake_71 rfl (lv_at hl 3 rfl) ?_
          refine rd_callS (rest := [.ref (pa k)]) S (r_X7_with l D cT (wk k) d e (by omega) (hd) (by omega)) gX8_couldTake_X7_with rfl pd_X7_with ⟨rfl, rfl, Nat.le_of_ble_eq_true rfl, Nat.le_of_ble_eq_true rfl⟩ (sx_P0 D _) hK hl rfl rfl (Nat.le_of_ble_eq_true rfl) ⟨Nat.zero_le _, Nat.zero_le _⟩ dX8_couldTake_72 ?_
          refine lv_aload_n S.1 S.2.1 dX8_couldTake_75 rfl (lv_at hl 1 rfl) ?_
          refine g_get (C := RX8) (T := TX8) (N := 9) (v := .ref (c 4)) S 0 6 2 in_X8_couldTake_X8 hK hP rfl rfl (by decide) w_X8_couldTake_1 rfl dX8_couldTake_76 ?_
          refine rd_callV (rest := []) S (r_X4_canHave l D cT (pa k) (c 4) (sk k) (mo k) (wk k) (fx k) (wi k) (la k) (da k) (we k) fb rn (wset (wk k) d e) (wset_lt (by omega) hd (by omega)) (⟨hpik.1, hpik.2.1, hpik.2.2.2.2.2.1, hfb, hrn, by omega⟩) (hpik.2.2.2.1)) gX8_couldTake_X4_canHave rfl pd_X4_canHave ⟨rfl, rfl, Nat.le_of_ble_eq_true rfl, Nat.le_of_ble_eq_true rfl⟩ (sx_P2 (pool_one hP (by omega)) (hP.sub (ws' := [(c 4, .inr (5, [.int (nI fb), .int (nI rn)]))]) [4] rfl)) hK (va_recv hK.1 hP (ci := 3) (q0 := _) rfl (pool_at (by omega))) hl rfl rfl (Nat.le_of_ble_eq_true rfl) ⟨Nat.zero_le _, Nat.zero_le _⟩ dX8_couldTake_79 ?_
          refine n_beq S (tgt := 92) dX8_couldTake_82 (by decide) (fun c82 => ?_) (fun c82 => ?_)
          · refine lv_iinc (v := (nI (k + 1))) (lv' := [(4, .int (nI (k + 1))), (5, .ref (pa k)), (0, .ref (c 0)), (1, .int (nI d)), (2, .int (nI e)), (3, .int (nI t))]) S.1 S.2.1 dX8_couldTake_92 hl (k := 5) rfl (nI_1 _) (by decide) rfl (fun ls hl => ?_)
            refine lv_goto (tgt := 29) S.1 S.2.1 dX8_couldTake_95 (by decide) ?_
            exact ih29 t (k + 1) (by omega) (by rw [ht]; exact ctk_0' (by show (ent (wk k) d == 0 && feas _ _ _ _ _ _ _ _) = false; first | rw [c82, Bool.and_false] | (rw [show (ent (wk k) d == 0) = false from Bool.eq_false_iff.mpr (fun q => c60 (by simpa using q))]; rfl))) (by omega) ls (lv_sub hl [2, 3, 4, 5, 0] rfl)
          · refine lv_iload_n S.1 S.2.1 dX8_couldTake_85 rfl (lv_at hl 4 rfl) ?_
            refine lv_iconst (v := (nI 1)) S.1 S.2.1 dX8_couldTake_86 (by decide) ?_
            refine lv_iload S.1 S.2.1 dX8_couldTake_87 (lv_at hl 5 rfl) ?_
            refine n_shl S (by omega) dX8_couldTake_89 ?_
            refine n_or S dX8_couldTake_90 ?_
            refine lv_istore_n (lv' := [(3, .int (nI (t ||| (1 * 2 ^ k)))), (5, .ref (pa k)), (0, .ref (c 0)), (1, .int (nI d)), (2, .int (nI e)), (4, .int (nI k))]) S.1 S.2.1 dX8_couldTake_91 rfl hl (by decide) rfl (fun ls hl => ?_)
            refine lv_iinc (v := (nI (k + 1))) (lv' := [(4, .int (nI (k + 1))), (3, .int (nI (t ||| (1 * 2 ^ k)))), (5, .ref (pa k)), (0, .ref (c 0)), (1, .int (nI d)), (2, .int (nI e))]) S.1 S.2.1 dX8_couldTake_92 hl (k := 5) rfl (nI_1 _) (by decide) rfl (fun ls hl => ?_)
            refine lv_goto (tgt := 29) S.1 S.2.1 dX8_couldTake_95 (by decide) ?_
            exact ih29 (t ||| (1 * 2 ^ k)) (k + 1) (by omega) (by rw [ht]; exact ctk_1 (by show (ent (wk k) d == 0 && feas _ _ _ _ _ _ _ _) = true; rw [c60, c82]; rfl)) (by omega) ls (lv_sub hl [3, 4, 5, 1, 0] rfl)
  exact lp29 _ 0 0 (Nat.zero_le _) (rfl) (Nat.lt_succ_self _) ls (lv_sub hl [2, 3, 4, 1, 0] rfl)

theorem pd_X8_swapFor : yX8_swapFor.cls = RX8 ∧ yX8_swapFor.cls ≠ "java/lang/invoke/MethodHandle" ∧ yX8_swapFor.cls ≠ "java/lang/invoke/VarHandle" ∧ (parseMethodDescriptor yX8_swapFor.desc).map (fun d => d.parameters.length) = some 2 := by decide +kernel
theorem w_X8_swapFor_0 : Cond.fieldLink RX8 59 "CoverSheet" "teamSize" "I" ∈ wsX8_swapFor := by decide +kernel
theorem in_X8_swapFor_X4 : ∀ w ∈ u_ws RX4 TX4 8, w ∈ wsX8_swapFor := by decide +kernel
theorem in_X8_swapFor_X8 : ∀ w ∈ u_ws RX8 TX8 9, w ∈ wsX8_swapFor := by decide +kernel
set_option maxHeartbeats 4000000 in
set_option maxRecDepth 100000 in
theorem r_X8_swapFor_ok (l : Launch) (D : va_G) (cT : ClassId × ClassId × ClassId) (c pa : Nat → Nat) (bd a6 a7 n ro cl fb rn : Nat) (nd sk mo wk fx wi la da we : Nat → Nat) (V V2 PR : Nat → Int64) (i : Nat) (d : Nat) (hwf : wfC n bd fb rn nd sk mo wk fx wi la da we) (hi : i < n) (hd : d < 7) : Met l yX8_swapFor wsX8_swapFor ({ frames := 5, cells := 0, slots := 0, locals := 115 }) (va_Pc [.ref (c 0), .int (nI i), .int (nI d)] (sx_R D (TY cT) (cX cT c a6 a7 n ro cl fb rn nd V V2 PR pa ++ pool n pa (per sk mo wk fx wi la da we)))) (vp_Si (fun r_ => r_ = (nI (swf (swc sk mo wk fx la da fb rn i d) (fun j => shc (wk j) 0 7) n).1 - nI 1))) 0 0 (fun _ => False) := by
  refine rd_start (cc := cX8_swapFor) (maxL := 9) (ret := (some .int)) RX8 ⟨by decide +kernel, rfl⟩ rfl (Nat.le_of_ble_eq_true rfl) ?_
  intro p0 e0 s0 m0 a0 b0 t0 c0 S hr hlocks hP hK ls hl
  have hl : lv_has ls 9 [(0, .ref (c 0)), (1, .int (nI i)), (2, .int (nI d))] := hl
  obtain ⟨hn, hcl, hfb, hrn, hnd, hper⟩ := id hwf
  have hpi := hper i
  refine lv_aload_n S.1 S.2.1 dX8_swapFor_0 rfl (lv_at hl 0 rfl) ?_
  refine lv_iload_n S.1 S.2.1 dX8_swapFor_1 rfl (lv_at hl 1 rfl) ?_
  refine rd_callVr (rest := []) S (r_X8_personAt l D cT c pa bd a6 a7 n ro cl fb rn nd sk mo wk fx wi la da we V V2 PR i (hwf) (by omega)) gX8_swapFor_X8_personAt rfl pd_X8_personAt ⟨rfl, rfl, Nat.le_of_ble_eq_true rfl, Nat.le_of_ble_eq_true rfl⟩ hP hK (va_recv hK.1 hP (ci := 6) (q0 := 0) rfl rfl) hl rfl rfl (Nat.le_of_ble_eq_true rfl) ⟨Nat.zero_le _, Nat.zero_le _⟩ dX8_swapFor_2 ?_
  refine lv_astore_n (lv' := [(3, .ref (pa i)), (0, .ref (c 0)), (1, .int (nI i)), (2, .int (nI d))]) S.1 S.2.1 dX8_swapFor_5 rfl hl (by decide) rfl (fun ls hl => ?_)
  refine lv_aload_n S.1 S.2.1 dX8_swapFor_6 rfl (lv_at hl 0 rfl) ?_
  refine lv_ifnull S.1 S.2.1 dX8_swapFor_7 ?_
  refine lv_iload_n S.1 S.2.1 dX8_swapFor_10 rfl (lv_at hl 3 rfl) ?_
  refine rd_callS (rest := []) S (r_X8_isDay l D cT d (by omega)) gX8_swapFor_X8_isDay rfl pd_X8_isDay ⟨rfl, rfl, Nat.le_of_ble_eq_true rfl, Nat.le_of_ble_eq_true rfl⟩ (sx_P0 D _) hK hl rfl rfl (Nat.le_of_ble_eq_true rfl) ⟨Nat.zero_le _, Nat.zero_le _⟩ dX8_swapFor_11 ?_
  refine n_bne S (tgt := 27) dX8_swapFor_14 (by decide) (fun _ => ?_) (fun q => absurd q (by decide))
  refine lv_iconst (v := (-1)) S.1 S.2.1 dX8_swapFor_27 (by decide) ?_
  refine n_top (show (-1 : Int32) = nI 0 - nI 1 from by decide) ?_
  refine lv_istore (lv' := [(4, .int (nI 0 - nI 1)), (3, .ref (pa i)), (0, .ref (c 0)), (1, .int (nI i)), (2, .int (nI d))]) S.1 S.2.1 dX8_swapFor_28 hl (by decide) rfl (fun ls hl => ?_)
  refine lv_bipush (v := (nI 8)) S.1 S.2.1 dX8_swapFor_30 (by decide) ?_
  refine lv_istore (lv' := [(5, .int (nI 8)), (4, .int (nI 0 - nI 1)), (3, .ref (pa i)), (0, .ref (c 0)), (1, .int (nI i)), (2, .int (nI d))]) S.1 S.2.1 dX8_swapFor_32 hl (by decide) rfl (fun ls hl => ?_)
  refine lv_iconst (v := (nI 0)) S.1 S.2.1 dX8_swapFor_34 (by decide) ?_
  refine lv_istore (lv' := [(6, .int (nI 0)), (5, .int (nI 8)), (4, .int (nI 0 - nI 1)), (3, .ref (pa i)), (0, .ref (c 0)), (1, .int (nI i)), (2, .int (nI d))]) S.1 S.2.1 dX8_swapFor_35 hl (by decide) rfl (fun ls hl => ?_)
  have lp37 : ∀ (fu : Nat) (f : Nat) (w : Nat) (k : Nat), (k ≤ n) → (f = (swf (swc sk mo wk fx la da fb rn i d) (fun j => shc (wk j) 0 7) k).1) → (w = (swf (swc sk mo wk fx la da fb rn i d) (fun j => shc (wk j) 0 7) k).2) → (n - k) < fu → ∀ ls : Array Slot, lv_has ls 9 [(0, .ref (c 0)), (1, .int (nI i)), (2, .int (nI d)), (3, .ref (pa i)), (4, .int (nI f - nI 1)), (5, .int (nI w)), (6, .int (nI k))] → W p0 l e0 ({ frames := 5, cells := 0, slots := 0, locals := 115 } : Room) s0 m0 a0 b0 t0 c0 s0.heap [] 0 0 (MQ b0 (vp_Si (fun r_ => r_ = (nI (swf (swc sk mo wk fx la da fb rn i d) (fun j => shc (wk j) 0 7) n).1 - nI 1))) a0 s0 0 0 (fun _ => False)) (F0 m0 37 ls []) := by
    intro fu
    induction fu with
    | zero =>
      intro f w k h2 hfo hw hm
      exact absurd hm (Nat.not_lt_zero _)
    | succ fu ih37 =>
      intro f w k h2 hfo hw hm ls hl
      have hpk := hper k
      have hsl := swf_le (can := swc sk mo wk fx la da fb rn i d) (its := fun j => shc (wk j) 0 7) k
      have hshl := shc_le (wk k) 0 7
      refine lv_iload S.1 S.2.1 dX8_swapFor_37 (lv_at hl 6 rfl) ?_
      refine lv_aload_n S.1 S.2.1 dX8_swapFor_39 rfl (lv_at hl 0 rfl) ?_
      refine g_get (C := RX8) (T := TX8) (N := 9) (v := .int (nI n)) S 0 6 6 in_X8_swapFor_X8 hK hP rfl rfl (by decide) w_X8_swapFor_0 rfl dX8_swapFor_40 ?_
      refine n_cge S (tgt := 125) (by omega) dX8_swapFor_43 (by decide) (fun c43 => ?_) (fun c43 => ?_)
      · refine lv_iload S.1 S.2.1 dX8_swapFor_125 (lv_at hl 4 rfl) ?_
        exact rd_iret S hr rfl hlocks (by rw [hfo, show k = n by omega]) dX8_swapFor_127
      · refine lv_aload_n S.1 S.2.1 dX8_swapFor_46 rfl (lv_at hl 0 rfl) ?_
        refine lv_iload S.1 S.2.1 dX8_swapFor_47 (lv_at hl 6 rfl) ?_
        refine rd_callVr (rest := []) S (r_X8_personAt l D cT c pa bd a6 a7 n ro cl fb rn nd sk mo wk fx wi la da we V V2 PR k (hwf) (by omega)) gX8_swapFor_X8_personAt rfl pd_X8_personAt ⟨rfl, rfl, Nat.le_of_ble_eq_true rfl, Nat.le_of_ble_eq_true rfl⟩ hP hK (va_recv hK.1 hP (ci := 6) (q0 := 0) rfl rfl) hl rfl rfl (Nat.le_of_ble_eq_true rfl) ⟨Nat.zero_le _, Nat.zero_le _⟩ dX8_swapFor_49 ?_
        refine lv_astore (lv' := [(7, .ref (pa k)), (0, .ref (c 0)), (1, .int (nI i)), (2, .int (nI d)), (3, .ref (pa i)), (4, .int (nI f - nI 1)), (5, .int (nI w)), (6, .int (nI k))]) S.1 S.2.1 dX8_swapFor_52 hl (by decide) rfl (fun ls hl => ?_)
        refine lv_aload S.1 S.2.1 dX8_swapFor_54 (lv_at hl 0 rfl) ?_
        refine lv_ifnull S.1 S.2.1 dX8_swapFor_56 ?_
        refine lv_aload S.1 S.2.1 dX8_swapFor_59 (lv_at hl 0 rfl) ?_
        refine g_getN (C := RX4) (T := TX4) (N := 8) (v := .int (nI (wk k))) S _ 3 2 in_X8_swapFor_X4 hK hP (pool_at (by omega)) rfl (by decide) (List.mem_of_getElem? (i := 11) rfl) rfl dX8_swapFor_61 ?_
        refine lv_iload_n S.1 S.2.1 dX8_swapFor_64 rfl (lv_at hl 3 rfl) ?_
        refine rd_callS (rest := []) S (r_X7_at l D cT (wk k) d (by omega) (hd)) gX8_swapFor_X7_at rfl pd_X7_at ⟨rfl, rfl, Nat.le_of_ble_eq_true rfl, Nat.le_of_ble_eq_true rfl⟩ (sx_P0 D _) hK hl rfl rfl (Nat.le_of_ble_eq_true rfl) ⟨Nat.zero_le _, Nat.zero_le _⟩ dX8_swapFor_65 ?_
        refine lv_aload_n S.1 S.2.1 dX8_swapFor_68 rfl (lv_at hl 4 rfl) ?_
        refine g_getN (C := RX4) (T := TX4) (N := 8) (v := .int (nI (wk i))) S _ 3 2 in_X8_swapFor_X4 hK hP (pool_at (by omega)) rfl (by decide) (List.mem_of_getElem? (i := 11) rfl) rfl dX8_swapFor_69 ?_
        refine lv_iload_n S.1 S.2.1 dX8_swapFor_72 rfl (lv_at hl 3 rfl) ?_
        refine rd_callS (rest := [.int (nI (ent (wk k) d))]) S (r_X7_at l D cT (wk i) d (by omega) (hd)) gX8_swapFor_X7_at rfl pd_X7_at ⟨rfl, rfl, Nat.le_of_ble_eq_true rfl, Nat.le_of_ble_eq_true rfl⟩ (sx_P0 D _) hK hl rfl rfl (Nat.le_of_ble_eq_true rfl) ⟨Nat.zero_le _, Nat.zero_le _⟩ dX8_swapFor_73 ?_
        refine n_cne S (tgt := 82) (⟨Nat.lt_trans (ent_lt _ _) (by decide), Nat.lt_trans (ent_lt _ _) (by decide)⟩) dX8_swapFor_76 (by decide) (fun c76 => ?_) (fun c76 => ?_)
        · refine lv_aload S.1 S.2.1 dX8_swapFor_82 (lv_at hl 0 rfl) ?_
          refine g_getN (C := RX4) (T := TX4) (N := 8) (v := .int (nI (wk k))) S _ 3 2 in_X8_swapFor_X4 hK hP (pool_at (by omega)) rfl (by decide) (List.mem_of_getElem? (i := 11) rfl) rfl dX8_swapFor_84 ?_
          refine lv_iconst (v := (nI 0)) S.1 S.2.1 dX8_swapFor_87 (by decide) ?_
          refine rd_callS (rest := []) S (r_X7_shiftsFrom l D cT (wk k) 0 (by omega) (by omega)) gX8_swapFor_X7_shiftsFrom rfl pd_X7_shiftsFrom ⟨rfl, rfl, Nat.le_of_ble_eq_true rfl, Nat.le_of_ble_eq_true rfl⟩ (sx_P0 D _) hK hl rfl rfl (Nat.le_of_ble_eq_true rfl) ⟨Nat.zero_le _, Nat.zero_le _⟩ dX8_swapFor_88 ?_
          refine n_top (show (nI (shc (wk k) 0 (7 - 0))) = (nI (shc (wk k) 0 7)) from rfl) ?_
          refine lv_istore (lv' := [(8, .int (nI (shc (wk k) 0 7))), (7, .ref (pa k)), (0, .ref (c 0)), (1, .int (nI i)), (2, .int (nI d)), (3, .ref (pa i)), (4, .int (nI f - nI 1)), (5, .int (nI w)), (6, .int (nI k))]) S.1 S.2.1 dX8_swapFor_91 hl (by decide) rfl (fun ls hl => ?_)
          refine lv_iload S.1 S.2.1 dX8_swapFor_93 (lv_at hl 0 rfl) ?_
          refine lv_iload S.1 S.2.1 dX8_swapFor_95 (lv_at hl 7 rfl) ?_
          refine n_cge S (tgt := 119) (by omega) dX8_swapFor_97 (by decide) (fun c97 => ?_) (fun c97 => ?_)
          · refine lv_iinc (v := (nI (k + 1))) (lv' := [(6, .int (nI (k + 1))), (8, .int (nI (shc (wk k) 0 7))), (7, .ref (pa k)), (0, .ref (c 0)), (1, .int (nI i)), (2, .int (nI d)), (3, .ref (pa i)), (4, .int (nI f - nI 1)), (5, .int (nI w))]) S.1 S.2.1 dX8_swapFor_119 hl (k := 8) rfl (nI_1 _) (by decide) rfl (fun ls hl => ?_)
            refine lv_goto (tgt := 37) S.1 S.2.1 dX8_swapFor_122 (by decide) ?_
            exact ih37 f w (k + 1) (by omega) (by rw [swf_n (Or.inr (by rw [← hw]; exact c97))]; exact hfo) (by rw [swf_n (Or.inr (by rw [← hw]; exact c97))]; exact hw) (by omega) ls (lv_sub hl [3, 4, 5, 6, 7, 8, 0] rfl)
          · refine lv_aload_n S.1 S.2.1 dX8_swapFor_100 rfl (lv_at hl 2 rfl) ?_
            refine lv_aload_n S.1 S.2.1 dX8_swapFor_101 rfl (lv_at hl 5 rfl) ?_
            refine lv_aload S.1 S.2.1 dX8_swapFor_102 (lv_at hl 1 rfl) ?_
            refine lv_iload_n S.1 S.2.1 dX8_swapFor_104 rfl (lv_at hl 4 rfl) ?_
            refine rd_callV (rest := []) S (r_X8_couldSwap l D cT c pa bd a6 a7 n ro cl fb rn nd sk mo wk fx wi la da we V V2 PR i k d (hwf) (by omega) (by omega) (by omega)) gX8_swapFor_X8_couldSwap rfl pd_X8_couldSwap ⟨rfl, rfl, Nat.le_of_ble_eq_true rfl, Nat.le_of_ble_eq_true rfl⟩ hP hK (va_recv hK.1 hP (ci := 6) (q0 := 0) rfl rfl) hl rfl rfl (Nat.le_of_ble_eq_true rfl) ⟨Nat.zero_le _, Nat.zero_le _⟩ dX8_swapFor_105 ?_
            refine n_beq S (tgt := 119) dX8_swapFor_108 (by decide) (fun c108 => ?_) (fun c108 => ?_)
            · refine lv_iinc (v := (nI (k + 1))) (lv' := [(6, .int (nI (k + 1))), (8, .int (nI (shc (wk k) 0 7))), (7, .ref (pa k)), (0, .ref (c 0)), (1, .int (nI i)), (2, .int (nI d)), (3, .ref (pa i)), (4, .int (nI f - nI 1)), (5, .int (nI w))]) S.1 S.2.1 dX8_swapFor_119 hl (k := 8) rfl (nI_1 _) (by decide) rfl (fun ls hl => ?_)
              refine lv_goto (tgt := 37) S.1 S.2.1 dX8_swapFor_122 (by decide) ?_
              exact ih37 f w (k + 1) (by omega) (by rw [swf_n (Or.inl (show (ent (wk i) d != ent (wk k) d && csw sk mo wk fx la da fb rn i k d) = false from (by rw [c108, Bool.and_false])))]; exact hfo) (by rw [swf_n (Or.inl (show (ent (wk i) d != ent (wk k) d && csw sk mo wk fx la da fb rn i k d) = false from (by rw [c108, Bool.and_false])))]; exact hw) (by omega) ls (lv_sub hl [3, 4, 5, 6, 7, 8, 0] rfl)
            · refine lv_iload S.1 S.2.1 dX8_swapFor_111 (lv_at hl 8 rfl) ?_
              refine n_top (show (nI k) = nI (k + 1) - nI 1 from by rw [sx_sub (by omega), Nat.add_sub_cancel]) ?_
              refine lv_istore (lv' := [(4, .int (nI (k + 1) - nI 1)), (8, .int (nI (shc (wk k) 0 7))), (7, .ref (pa k)), (0, .ref (c 0)), (1, .int (nI i)), (2, .int (nI d)), (3, .ref (pa i)), (5, .int (nI w)), (6, .int (nI k))]) S.1 S.2.1 dX8_swapFor_113 hl (by decide) rfl (fun ls hl => ?_)
              refine lv_iload S.1 S.2.1 dX8_swapFor_115 (lv_at hl 1 rfl) ?_
              refine lv_istore (lv' := [(5, .int (nI (shc (wk k) 0 7))), (4, .int (nI (k + 1) - nI 1)), (8, .int (nI (shc (wk k) 0 7))), (7, .ref (pa k)), (0, .ref (c 0)), (1, .int (nI i)), (2, .int (nI d)), (3, .ref (pa i)), (6, .int (nI k))]) S.1 S.2.1 dX8_swapFor_117 hl (by decide) rfl (fun ls hl => ?_)
              refine lv_iinc (v := (nI (k + 1))) (lv' := [(6, .int (nI (k + 1))), (5, .int (nI (shc (wk k) 0 7))), (4, .int (nI (k + 1) - nI 1)), (8, .int (nI (shc (wk k) 0 7))), (7, .ref (pa k)), (0, .ref (c 0)), (1, .int (nI i)), (2, .int (nI d)), (3, .ref (pa i))]) S.1 S.2.1 dX8_swapFor_119 hl (k := 8) rfl (nI_1 _) (by decide) rfl (fun ls hl => ?_)
              refine lv_goto (tgt := 37) S.1 S.2.1 dX8_swapFor_122 (by decide) ?_
              exact ih37 (k + 1) (shc (wk k) 0 7) (k + 1) (by omega) (by rw [swf_y (show (ent (wk i) d != ent (wk k) d && csw sk mo wk fx la da fb rn i k d) = true from (by rw [c108, show (ent (wk i) d != ent (wk k) d) = true from bne_iff_ne.mpr (fun q => c76 q.symm)]; rfl)) (by rw [← hw]; exact c97)]) (by rw [swf_y (show (ent (wk i) d != ent (wk k) d && csw sk mo wk fx la da fb rn i k d) = true from (by rw [c108, show (ent (wk i) d != ent (wk k) d) = true from bne_iff_ne.mpr (fun q => c76 q.symm)]; rfl)) (by rw [← hw]; exact c97)]) (by omega) ls (lv_sub hl [5, 6, 7, 8, 2, 1, 0] rfl)
        · refine lv_goto (tgt := 119) S.1 S.2.1 dX8_swapFor_79 (by decide) ?_
          refine lv_iinc (v := (nI (k + 1))) (lv' := [(6, .int (nI (k + 1))), (7, .ref (pa k)), (0, .ref (c 0)), (1, .int (nI i)), (2, .int (nI d)), (3, .ref (pa i)), (4, .int (nI f - nI 1)), (5, .int (nI w))]) S.1 S.2.1 dX8_swapFor_119 hl (k := 7) rfl (nI_1 _) (by decide) rfl (fun ls hl => ?_)
          refine lv_goto (tgt := 37) S.1 S.2.1 dX8_swapFor_122 (by decide) ?_
          exact ih37 f w (k + 1) (by omega) (by rw [swf_n (Or.inl (swc_f1 (i := i) (k := k) c76.symm))]; exact hfo) (by rw [swf_n (Or.inl (swc_f1 (i := i) (k := k) c76.symm))]; exact hw) (by omega) ls (lv_sub hl [2, 3, 4, 5, 6, 7, 0] rfl)
  exact lp37 _ 0 8 0 (Nat.zero_le _) (rfl) (rfl) (Nat.lt_succ_self _) ls (lv_sub hl [4, 5, 6, 3, 2, 1, 0] rfl)

