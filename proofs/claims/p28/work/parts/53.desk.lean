theorem pd_X8_allGaps : yX8_allGaps.cls = RX8 ∧ yX8_allGaps.cls ≠ "java/lang/invoke/MethodHandle" ∧ yX8_allGaps.cls ≠ "java/lang/invoke/VarHandle" ∧ (parseMethodDescriptor yX8_allGaps.desc).map (fun d => d.parameters.length) = some 0 := by decide +kernel
set_option maxHeartbeats 4000000 in
set_option maxRecDepth 100000 in
theorem r_X8_allGaps (l : Launch) (D : va_G) (cT : ClassId × ClassId × ClassId) (c pa : Nat → Nat) (bd a6 a7 n ro cl fb rn : Nat) (nd sk mo wk fx wi la da we : Nat → Nat) (V V2 PR : Nat → Int64) (hwf : wfC n bd fb rn nd sk mo wk fx wi la da we) : Met l yX8_allGaps wsX8_allGaps ({ frames := 3, cells := 0, slots := 0, locals := 69 }) (va_Pc [.ref (c 0)] (sx_R D (TY cT) (cX cT c a6 a7 n ro cl fb rn nd V V2 PR pa ++ pool n pa (per sk mo wk fx wi la da we)))) (vp_Si (fun r_ => r_ = (nI (gpd n nd wk 7)))) 0 0 (fun _ => False) := by
  refine rd_start (cc := cX8_allGaps) (maxL := 4) (ret := (some .int)) RX8 ⟨by decide +kernel, rfl⟩ rfl (Nat.le_of_ble_eq_true rfl) ?_
  intro p0 e0 s0 m0 a0 b0 t0 c0 S hr hlocks hP hK ls hl
  have hl : lv_has ls 4 [(0, .ref (c 0))] := hl
  obtain ⟨hn, hcl, hfb, hrn, hnd, hper⟩ := id hwf
  refine lv_iconst (v := (nI 0)) S.1 S.2.1 dX8_allGaps_0 (by decide) ?_
  refine lv_istore_n (lv' := [(1, .int (nI 0)), (0, .ref (c 0))]) S.1 S.2.1 dX8_allGaps_1 rfl hl (by decide) rfl (fun ls hl => ?_)
  refine lv_iconst (v := (nI 0)) S.1 S.2.1 dX8_allGaps_2 (by decide) ?_
  refine lv_istore_n (lv' := [(2, .int (nI 0)), (1, .int (nI 0)), (0, .ref (c 0))]) S.1 S.2.1 dX8_allGaps_3 rfl hl (by decide) rfl (fun ls hl => ?_)
  have lp4 : ∀ (fu : Nat) (su : Nat) (d : Nat), (d ≤ 7) → (su = gpd n nd wk d) → (7 - d) < fu → ∀ ls : Array Slot, lv_has ls 4 [(0, .ref (c 0)), (1, .int (nI su)), (2, .int (nI d))] → W p0 l e0 ({ frames := 3, cells := 0, slots := 0, locals := 69 } : Room) s0 m0 a0 b0 t0 c0 s0.heap [] 0 0 (MQ b0 (vp_Si (fun r_ => r_ = (nI (gpd n nd wk 7)))) a0 s0 0 0 (fun _ => False)) (F0 m0 4 ls []) := by
    intro fu
    induction fu with
    | zero =>
      intro su d h2 hs hm
      exact absurd hm (Nat.not_lt_zero _)
    | succ fu ih4 =>
      intro su d h2 hs hm ls hl
      refine lv_iload_n S.1 S.2.1 dX8_allGaps_4 rfl (lv_at hl 2 rfl) ?_
      refine lv_bipush (v := (nI 7)) S.1 S.2.1 dX8_allGaps_5 (by decide) ?_
      refine n_cge S (tgt := 39) (by omega) dX8_allGaps_7 (by decide) (fun c7 => ?_) (fun c7 => ?_)
      · refine lv_iload_n S.1 S.2.1 dX8_allGaps_39 rfl (lv_at hl 1 rfl) ?_
        exact rd_iret S hr rfl hlocks (by rw [hs, show d = 7 by omega]) dX8_allGaps_40
      · refine lv_iconst (v := (nI 1)) S.1 S.2.1 dX8_allGaps_10 (by decide) ?_
        refine lv_istore_n (lv' := [(3, .int (nI 1)), (0, .ref (c 0)), (1, .int (nI su)), (2, .int (nI d))]) S.1 S.2.1 dX8_allGaps_11 rfl hl (by decide) rfl (fun ls hl => ?_)
        have lp12 : ∀ (fu : Nat) (sv : Nat) (j : Nat), (j ≤ 3) → (sv = gpd n nd wk d + gpk n nd wk d j) → (3 - j) < fu → ∀ ls : Array Slot, lv_has ls 4 [(0, .ref (c 0)), (1, .int (nI sv)), (2, .int (nI d)), (3, .int (nI (j + 1)))] → W p0 l e0 ({ frames := 3, cells := 0, slots := 0, locals := 69 } : Room) s0 m0 a0 b0 t0 c0 s0.heap [] 0 0 (MQ b0 (vp_Si (fun r_ => r_ = (nI (gpd n nd wk 7)))) a0 s0 0 0 (fun _ => False)) (F0 m0 12 ls []) := by
          intro fu
          induction fu with
          | zero =>
            intro sv j h3 hs2 hm
            exact absurd hm (Nat.not_lt_zero _)
          | succ fu ih12 =>
            intro sv j h3 hs2 hm ls hl
            refine lv_iload_n S.1 S.2.1 dX8_allGaps_12 rfl (lv_at hl 3 rfl) ?_
            refine lv_iconst (v := (nI 3)) S.1 S.2.1 dX8_allGaps_13 (by decide) ?_
            refine n_cgt S (tgt := 33) (by omega) dX8_allGaps_14 (by decide) (fun c14 => ?_) (fun c14 => ?_)
            · refine lv_iinc (v := (nI (d + 1))) (lv' := [(2, .int (nI (d + 1))), (0, .ref (c 0)), (1, .int (nI sv)), (3, .int (nI (j + 1)))]) S.1 S.2.1 dX8_allGaps_33 hl (k := 2) rfl (nI_1 _) (by decide) rfl (fun ls hl => ?_)
              refine lv_goto (tgt := 4) S.1 S.2.1 dX8_allGaps_36 (by decide) ?_
              exact ih4 sv (d + 1) (by omega) (by rw [hs2, show j = 3 by omega]; rfl) (by omega) ls (lv_sub hl [1, 2, 0] rfl)
            · refine lv_iload_n S.1 S.2.1 dX8_allGaps_17 rfl (lv_at hl 1 rfl) ?_
              refine lv_aload_n S.1 S.2.1 dX8_allGaps_18 rfl (lv_at hl 0 rfl) ?_
              refine lv_null S.1 S.2.1 dX8_allGaps_19 ?_
              refine lv_iload_n S.1 S.2.1 dX8_allGaps_20 rfl (lv_at hl 2 rfl) ?_
              refine lv_iload_n S.1 S.2.1 dX8_allGaps_21 rfl (lv_at hl 3 rfl) ?_
              refine rd_callV (rest := [.int (nI sv)]) S (r_X8_gapWithout l D cT c pa bd a6 a7 n ro cl fb rn nd sk mo wk fx wi la da we V V2 PR d (j + 1) (hwf) (by omega) (by omega)) gX8_allGaps_X8_gapWithout rfl pd_X8_gapWithout ⟨rfl, rfl, Nat.le_of_ble_eq_true rfl, Nat.le_of_ble_eq_true rfl⟩ hP hK (va_recv hK.1 hP (ci := 6) (q0 := 0) rfl rfl) hl rfl rfl (Nat.le_of_ble_eq_true rfl) ⟨Nat.zero_le _, Nat.zero_le _⟩ dX8_allGaps_22 ?_
              refine n_add S dX8_allGaps_25 ?_
              refine lv_istore_n (lv' := [(1, .int (nI (sv + (gpw n nd wk 99 d (j + 1))))), (0, .ref (c 0)), (2, .int (nI d)), (3, .int (nI (j + 1)))]) S.1 S.2.1 dX8_allGaps_26 rfl hl (by decide) rfl (fun ls hl => ?_)
              refine lv_iinc (v := (nI (j + 1 + 1))) (lv' := [(3, .int (nI (j + 1 + 1))), (1, .int (nI (sv + (gpw n nd wk 99 d (j + 1))))), (0, .ref (c 0)), (2, .int (nI d))]) S.1 S.2.1 dX8_allGaps_27 hl (k := 3) rfl (nI_1 _) (by decide) rfl (fun ls hl => ?_)
              refine lv_goto (tgt := 12) S.1 S.2.1 dX8_allGaps_30 (by decide) ?_
              exact ih12 (sv + (gpw n nd wk 99 d (j + 1))) (j + 1) (by omega) (by rw [hs2, Nat.add_assoc]; rfl) (by omega) ls (lv_sub hl [2, 1, 3, 0] rfl)
        exact lp12 _ su 0 (Nat.zero_le _) (hs) (Nat.lt_succ_self _) ls (lv_sub hl [1, 2, 3, 0] rfl)
  exact lp4 _ 0 0 (Nat.zero_le _) (rfl) (Nat.lt_succ_self _) ls (lv_sub hl [2, 1, 0] rfl)

theorem pd_X8_peopleWithOneOf : yX8_peopleWithOneOf.cls = RX8 ∧ yX8_peopleWithOneOf.cls ≠ "java/lang/invoke/MethodHandle" ∧ yX8_peopleWithOneOf.cls ≠ "java/lang/invoke/VarHandle" ∧ (parseMethodDescriptor yX8_peopleWithOneOf.desc).map (fun d => d.parameters.length) = some 1 := by decide +kernel
theorem w_X8_peopleWithOneOf_0 : Cond.fieldLink RX8 11 "CoverSheet" "team" "[LCoverSheet$Person;" ∈ wsX8_peopleWithOneOf := by decide +kernel
theorem in_X8_peopleWithOneOf_X4 : ∀ w ∈ u_ws RX4 TX4 8, w ∈ wsX8_peopleWithOneOf := by decide +kernel
theorem in_X8_peopleWithOneOf_X8 : ∀ w ∈ u_ws RX8 TX8 9, w ∈ wsX8_peopleWithOneOf := by decide +kernel
set_option maxHeartbeats 4000000 in
set_option maxRecDepth 100000 in
theorem r_X8_peopleWithOneOf (l : Launch) (D : va_G) (cT : ClassId × ClassId × ClassId) (c pa : Nat → Nat) (bd a6 a7 n ro cl fb rn : Nat) (nd sk mo wk fx wi la da we : Nat → Nat) (V V2 PR : Nat → Int64) (ks : Nat) (hwf : wfC n bd fb rn nd sk mo wk fx wi la da we) : Met l yX8_peopleWithOneOf wsX8_peopleWithOneOf ({ frames := 0, cells := 0, slots := 0, locals := 0 }) (va_Pc [.ref (c 0), .int (nI ks)] (sx_R D (TY cT) (cX cT c a6 a7 n ro cl fb rn nd V V2 PR pa ++ pool n pa (per sk mo wk fx wi la da we)))) (vp_Si (fun r_ => r_ = (nI (pw n sk ks 8)))) 0 0 (fun _ => False) := by
  refine rd_start (cc := cX8_peopleWithOneOf) (maxL := 7) (ret := (some .int)) RX8 ⟨by decide +kernel, rfl⟩ rfl (Nat.le_of_ble_eq_true rfl) ?_
  intro p0 e0 s0 m0 a0 b0 t0 c0 S hr hlocks hP hK ls hl
  have hl : lv_has ls 7 [(0, .ref (c 0)), (1, .int (nI ks))] := hl
  obtain ⟨hn, hcl, hfb, hrn, hnd, hper⟩ := id hwf
  refine lv_iconst (v := (nI 0)) S.1 S.2.1 dX8_peopleWithOneOf_0 (by decide) ?_
  refine lv_istore_n (lv' := [(2, .int (nI 0)), (0, .ref (c 0)), (1, .int (nI ks))]) S.1 S.2.1 dX8_peopleWithOneOf_1 rfl hl (by decide) rfl (fun ls hl => ?_)
  refine lv_aload_n S.1 S.2.1 dX8_peopleWithOneOf_2 rfl (lv_at hl 1 rfl) ?_
  refine g_get (C := RX8) (T := TX8) (N := 9) (v := .ref (c 1)) S 0 6 0 in_X8_peopleWithOneOf_X8 hK hP rfl rfl (by decide) w_X8_peopleWithOneOf_0 rfl dX8_peopleWithOneOf_3 ?_
  refine lv_astore_n (lv' := [(3, .ref (c 1)), (2, .int (nI 0)), (0, .ref (c 0)), (1, .int (nI ks))]) S.1 S.2.1 dX8_peopleWithOneOf_6 rfl hl (by decide) rfl (fun ls hl => ?_)
  refine lv_aload_n S.1 S.2.1 dX8_peopleWithOneOf_7 rfl (lv_at hl 0 rfl) ?_
  refine g_alen S 1 2 hK hP rfl rfl dX8_peopleWithOneOf_8 ?_
  refine lv_istore (lv' := [(4, .int (nI 8)), (3, .ref (c 1)), (2, .int (nI 0)), (0, .ref (c 0)), (1, .int (nI ks))]) S.1 S.2.1 dX8_peopleWithOneOf_9 hl (by decide) rfl (fun ls hl => ?_)
  refine lv_iconst (v := (nI 0)) S.1 S.2.1 dX8_peopleWithOneOf_11 (by decide) ?_
  refine lv_istore (lv' := [(5, .int (nI 0)), (4, .int (nI 8)), (3, .ref (c 1)), (2, .int (nI 0)), (0, .ref (c 0)), (1, .int (nI ks))]) S.1 S.2.1 dX8_peopleWithOneOf_12 hl (by decide) rfl (fun ls hl => ?_)
  have lp14 : ∀ (fu : Nat) (k : Nat) (i : Nat), (i ≤ 8) → (k = pw n sk ks i) → (8 - i) < fu → ∀ ls : Array Slot, lv_has ls 7 [(0, .ref (c 0)), (1, .int (nI ks)), (2, .int (nI k)), (3, .ref (c 1)), (4, .int (nI 8)), (5, .int (nI i))] → W p0 l e0 ({ frames := 0, cells := 0, slots := 0, locals := 0 } : Room) s0 m0 a0 b0 t0 c0 s0.heap [] 0 0 (MQ b0 (vp_Si (fun r_ => r_ = (nI (pw n sk ks 8)))) a0 s0 0 0 (fun _ => False)) (F0 m0 14 ls []) := by
    intro fu
    induction fu with
    | zero =>
      intro k i h2 hk hm
      exact absurd hm (Nat.not_lt_zero _)
    | succ fu ih14 =>
      intro k i h2 hk hm ls hl
      refine lv_iload S.1 S.2.1 dX8_peopleWithOneOf_14 (lv_at hl 5 rfl) ?_
      refine lv_iload S.1 S.2.1 dX8_peopleWithOneOf_16 (lv_at hl 4 rfl) ?_
      refine n_cge S (tgt := 51) (by omega) dX8_peopleWithOneOf_18 (by decide) (fun c18 => ?_) (fun c18 => ?_)
      · refine lv_iload_n S.1 S.2.1 dX8_peopleWithOneOf_51 rfl (lv_at hl 2 rfl) ?_
        exact rd_iret S hr rfl hlocks (by rw [hk, show i = 8 by omega]) dX8_peopleWithOneOf_52
      · refine lv_aload_n S.1 S.2.1 dX8_peopleWithOneOf_21 rfl (lv_at hl 3 rfl) ?_
        refine lv_iload S.1 S.2.1 dX8_peopleWithOneOf_22 (lv_at hl 5 rfl) ?_
        refine g_aald S 1 hK hP rfl (by omega) dX8_peopleWithOneOf_24 ?_
        by_cases hb : i < n
        · refine n_topv (show va_rf (tm n pa i) = .ref (pa i) by rw [tm_in hb]; rfl) ?_
          have hpi := hper i
          refine lv_astore (lv' := [(6, .ref (pa i)), (0, .ref (c 0)), (1, .int (nI ks)), (2, .int (nI k)), (3, .ref (c 1)), (4, .int (nI 8)), (5, .int (nI i))]) S.1 S.2.1 dX8_peopleWithOneOf_25 hl (by decide) rfl (fun ls hl => ?_)
          refine lv_aload S.1 S.2.1 dX8_peopleWithOneOf_27 (lv_at hl 0 rfl) ?_
          refine lv_ifnull S.1 S.2.1 dX8_peopleWithOneOf_29 ?_
          refine lv_aload S.1 S.2.1 dX8_peopleWithOneOf_32 (lv_at hl 0 rfl) ?_
          refine g_getN (C := RX4) (T := TX4) (N := 8) (v := .int (nI (sk i))) S _ 3 0 in_X8_peopleWithOneOf_X4 hK hP (pool_at (by omega)) rfl (by decide) (List.mem_of_getElem? (i := 9) rfl) rfl dX8_peopleWithOneOf_34 ?_
          refine lv_iload_n S.1 S.2.1 dX8_peopleWithOneOf_37 rfl (lv_at hl 2 rfl) ?_
          refine n_and S dX8_peopleWithOneOf_38 ?_
          refine n_zeq S (tgt := 45) (Nat.lt_of_le_of_lt Nat.and_le_left (by omega)) dX8_peopleWithOneOf_39 (by decide) (fun c39 => ?_) (fun c39 => ?_)
          · refine lv_iinc (v := (nI (i + 1))) (lv' := [(5, .int (nI (i + 1))), (6, .ref (pa i)), (0, .ref (c 0)), (1, .int (nI ks)), (2, .int (nI k)), (3, .ref (c 1)), (4, .int (nI 8))]) S.1 S.2.1 dX8_peopleWithOneOf_45 hl (k := 6) rfl (nI_1 _) (by decide) rfl (fun ls hl => ?_)
            refine lv_goto (tgt := 14) S.1 S.2.1 dX8_peopleWithOneOf_48 (by decide) ?_
            exact ih14 k (i + 1) (by omega) (by first | (rw [hk]; exact (pw_1 ⟨hb, c39⟩).symm) | (rw [hk]; exact (pw_0 (fun q => q.2 c39)).symm) | (rw [hk]; exact (pw_0 (fun q => hb q.1)).symm)) (by omega) ls (lv_sub hl [2, 3, 4, 5, 6, 0] rfl)
          · refine lv_iinc (v := (nI (k + 1))) (lv' := [(2, .int (nI (k + 1))), (6, .ref (pa i)), (0, .ref (c 0)), (1, .int (nI ks)), (3, .ref (c 1)), (4, .int (nI 8)), (5, .int (nI i))]) S.1 S.2.1 dX8_peopleWithOneOf_42 hl (k := 3) rfl (nI_1 _) (by decide) rfl (fun ls hl => ?_)
            refine lv_iinc (v := (nI (i + 1))) (lv' := [(5, .int (nI (i + 1))), (2, .int (nI (k + 1))), (6, .ref (pa i)), (0, .ref (c 0)), (1, .int (nI ks)), (3, .ref (c 1)), (4, .int (nI 8))]) S.1 S.2.1 dX8_peopleWithOneOf_45 hl (k := 6) rfl (nI_1 _) (by decide) rfl (fun ls hl => ?_)
            refine lv_goto (tgt := 14) S.1 S.2.1 dX8_peopleWithOneOf_48 (by decide) ?_
            exact ih14 (k + 1) (i + 1) (by omega) (by first | (rw [hk]; exact (pw_1 ⟨hb, c39⟩).symm) | (rw [hk]; exact (pw_0 (fun q => q.2 c39)).symm) | (rw [hk]; exact (pw_0 (fun q => hb q.1)).symm)) (by omega) ls (lv_sub hl [3, 4, 1, 5, 6, 0] rfl)
        · refine n_topv (show va_rf (tm n pa i) = .null by rw [tm_out (Nat.le_of_not_lt hb)]; rfl) ?_
          refine lv_astoreN (lv' := [(6, .null), (0, .ref (c 0)), (1, .int (nI ks)), (2, .int (nI k)), (3, .ref (c 1)), (4, .int (nI 8)), (5, .int (nI i))]) S.1 S.2.1 dX8_peopleWithOneOf_25 hl (by decide) rfl (fun ls hl => ?_)
          refine lv_aloadN S.1 S.2.1 dX8_peopleWithOneOf_27 (lv_at hl 0 rfl) ?_
          refine lv_ifnullN (tgt := 45) S.1 S.2.1 dX8_peopleWithOneOf_29 (by decide) ?_
          refine lv_iinc (v := (nI (i + 1))) (lv' := [(5, .int (nI (i + 1))), (6, .null), (0, .ref (c 0)), (1, .int (nI ks)), (2, .int (nI k)), (3, .ref (c 1)), (4, .int (nI 8))]) S.1 S.2.1 dX8_peopleWithOneOf_45 hl (k := 6) rfl (nI_1 _) (by decide) rfl (fun ls hl => ?_)
          refine lv_goto (tgt := 14) S.1 S.2.1 dX8_peopleWithOneOf_48 (by decide) ?_
          exact ih14 k (i + 1) (by omega) (by first | (rw [hk]; exact (pw_1 ⟨hb, c39⟩).symm) | (rw [hk]; exact (pw_0 (fun q => q.2 c39)).symm) | (rw [hk]; exact (pw_0 (fun q => hb q.1)).symm)) (by omega) ls (lv_sub hl [2, 3, 4, 5, 6, 0] rfl)
  exact lp14 _ 0 0 (Nat.zero_le _) (rfl) (Nat.lt_succ_self _) ls (lv_sub hl [4, 5, 3, 2, 1, 0] rfl)

theorem pd_X8_leastGapsOf : yX8_leastGapsOf.cls = RX8 ∧ yX8_leastGapsOf.cls ≠ "java/lang/invoke/MethodHandle" ∧ yX8_leastGapsOf.cls ≠ "java/lang/invoke/VarHandle" ∧ (parseMethodDescriptor yX8_leastGapsOf.desc).map (fun d => d.parameters.length) = some 1 := by decide +kernel
theorem w_X8_leastGapsOf_0 : Cond.methodLink RX8 196 Lib.Math.max.name ∈ wsX8_leastGapsOf := by decide +kernel
theorem w_X8_leastGapsOf_1 : Cond.static Lib.Math.max.name ∈ wsX8_leastGapsOf := by decide +kernel
theorem w_X8_leastGapsOf_2 : Cond.initialized "java/lang/Math" ∈ wsX8_leastGapsOf := by decide +kernel
theorem w_X8_leastGapsOf_3 : Cond.code Lib.Math.max.name Lib.Math.max.code 2 (some .int) ∈ wsX8_leastGapsOf := by decide +kernel
theorem w_X8_leastGapsOf_4 : Cond.fieldLink RX8 18 "CoverSheet" "needs" "LCoverSheet$Needs;" ∈ wsX8_leastGapsOf := by decide +kernel
theorem in_X8_leastGapsOf_X8 : ∀ w ∈ u_ws RX8 TX8 9, w ∈ wsX8_leastGapsOf := by decide +kernel
set_option maxHeartbeats 4000000 in
set_option maxRecDepth 100000 in
theorem r_X8_leastGapsOf (l : Launch) (D : va_G) (cT : ClassId × ClassId × ClassId) (c pa : Nat → Nat) (bd a6 a7 n ro cl fb rn : Nat) (nd sk mo wk fx wi la da we : Nat → Nat) (V V2 PR : Nat → Int64) (d : Nat) (hwf : wfC n bd fb rn nd sk mo wk fx wi la da we) (hd : d < 7) : Met l yX8_leastGapsOf wsX8_leastGapsOf ({ frames := 1, cells := 0, slots := 0, locals := 26 }) (va_Pc [.ref (c 0), .int (nI d)] (sx_R D (TY cT) (cX cT c a6 a7 n ro cl fb rn nd V V2 PR pa ++ pool n pa (per sk mo wk fx wi la da we)))) (vp_Si (fun r_ => r_ = (nI (lks n nd sk d 8)))) 0 0 (fun _ => False) := by
  refine rd_start (cc := cX8_leastGapsOf) (maxL := 6) (ret := (some .int)) RX8 ⟨by decide +kernel, rfl⟩ rfl (Nat.le_of_ble_eq_true rfl) ?_
  intro p0 e0 s0 m0 a0 b0 t0 c0 S hr hlocks hP hK ls hl
  have hl : lv_has ls 6 [(0, .ref (c 0)), (1, .int (nI d))] := hl
  obtain ⟨hn, hcl, hfb, hrn, hnd, hper⟩ := id hwf
  refine lv_iconst (v := (nI 0)) S.1 S.2.1 dX8_leastGapsOf_0 (by decide) ?_
  refine lv_istore_n (lv' := [(2, .int (nI 0)), (0, .ref (c 0)), (1, .int (nI d))]) S.1 S.2.1 dX8_leastGapsOf_1 rfl hl (by decide) rfl (fun ls hl => ?_)
  refine lv_iconst (v := (nI 0)) S.1 S.2.1 dX8_leastGapsOf_2 (by decide) ?_
  refine lv_istore_n (lv' := [(3, .int (nI 0)), (2, .int (nI 0)), (0, .ref (c 0)), (1, .int (nI d))]) S.1 S.2.1 dX8_leastGapsOf_3 rfl hl (by decide) rfl (fun ls hl => ?_)
  have lp4 : ∀ (fu : Nat) (le : Nat) (j : Nat), (j ≤ 8) → (le = lks n nd sk d j) → (8 - j) < fu → ∀ ls : Array Slot, lv_has ls 6 [(0, .ref (c 0)), (1, .int (nI d)), (2, .int (nI le)), (3, .int (nI (2 * j)))] → W p0 l e0 ({ frames := 1, cells := 0, slots := 0, locals := 26 } : Room) s0 m0 a0 b0 t0 c0 s0.heap [] 0 0 (MQ b0 (vp_Si (fun r_ => r_ = (nI (lks n nd sk d 8)))) a0 s0 0 0 (fun _ => False)) (F0 m0 4 ls []) := by
    intro fu
    induction fu with
    | zero =>
      intro le j h2 hle hm
      exact absurd hm (Nat.not_lt_zero _)
    | succ fu ih4 =>
      intro le j h2 hle hm ls hl
      have hlq := lks_le (n := n) (sk := sk) hnd d j
      have hpw := pw_le n sk (2 * j) 8
      refine lv_iload_n S.1 S.2.1 dX8_leastGapsOf_4 rfl (lv_at hl 3 rfl) ?_
      refine lv_bipush (v := (nI 14)) S.1 S.2.1 dX8_leastGapsOf_5 (by decide) ?_
      refine n_cgt S (tgt := 70) (by omega) dX8_leastGapsOf_7 (by decide) (fun c7 => ?_) (fun c7 => ?_)
      · refine lv_iload_n S.1 S.2.1 dX8_leastGapsOf_70 rfl (lv_at hl 2 rfl) ?_
        exact rd_iret S hr rfl hlocks (by rw [hle, show j = 8 by omega]) dX8_leastGapsOf_71
      · refine lv_aload_n S.1 S.2.1 dX8_leastGapsOf_10 rfl (lv_at hl 0 rfl) ?_
        refine lv_iload_n S.1 S.2.1 dX8_leastGapsOf_11 rfl (lv_at hl 3 rfl) ?_
        refine rd_callV (rest := []) S (r_X8_peopleWithOneOf l D cT c pa bd a6 a7 n ro cl fb rn nd sk mo wk fx wi la da we V V2 PR (2 * j) (hwf)) gX8_leastGapsOf_X8_peopleWithOneOf rfl pd_X8_peopleWithOneOf ⟨rfl, rfl, Nat.le_of_ble_eq_true rfl, Nat.le_of_ble_eq_true rfl⟩ hP hK (va_recv hK.1 hP (ci := 6) (q0 := 0) rfl rfl) hl rfl rfl (Nat.le_of_ble_eq_true rfl) ⟨Nat.zero_le _, Nat.zero_le _⟩ dX8_leastGapsOf_12 ?_
        refine lv_ineg S.1 S.2.1 dX8_leastGapsOf_15 ?_
        refine n_top (show (-((nI (pw n sk (2 * j) 8)))) = (nI 0 - nI (pw n sk (2 * j) 8)) from dif_neg _) ?_
        refine lv_istore (lv' := [(4, .int (nI 0 - nI (pw n sk (2 * j) 8))), (0, .ref (c 0)), (1, .int (nI d)), (2, .int (nI le)), (3, .int (nI (2 * j)))]) S.1 S.2.1 dX8_leastGapsOf_16 hl (by decide) rfl (fun ls hl => ?_)
        refine lv_iconst (v := (nI 1)) S.1 S.2.1 dX8_leastGapsOf_18 (by decide) ?_
        refine lv_istore (lv' := [(5, .int (nI 1)), (4, .int (nI 0 - nI (pw n sk (2 * j) 8))), (0, .ref (c 0)), (1, .int (nI d)), (2, .int (nI le)), (3, .int (nI (2 * j)))]) S.1 S.2.1 dX8_leastGapsOf_19 hl (by decide) rfl (fun ls hl => ?_)
        have lp21 : ∀ (fu : Nat) (x : Nat) (i : Nat), (i ≤ 3) → (x = nks nd d (2 * j) i) → (3 - i) < fu → ∀ ls : Array Slot, lv_has ls 6 [(0, .ref (c 0)), (1, .int (nI d)), (2, .int (nI le)), (3, .int (nI (2 * j))), (4, .int (nI x - nI (pw n sk (2 * j) 8))), (5, .int (nI (i + 1)))] → W p0 l e0 ({ frames := 1, cells := 0, slots := 0, locals := 26 } : Room) s0 m0 a0 b0 t0 c0 s0.heap [] 0 0 (MQ b0 (vp_Si (fun r_ => r_ = (nI (lks n nd sk d 8)))) a0 s0 0 0 (fun _ => False)) (F0 m0 21 ls []) := by
          intro fu
          induction fu with
          | zero =>
            intro x i h3 hx hm
            exact absurd hm (Nat.not_lt_zero _)
          | succ fu ih21 =>
            intro x i h3 hx hm ls hl
            have hnk := nks_le hnd d (2 * j) i
            refine lv_iload S.1 S.2.1 dX8_leastGapsOf_21 (lv_at hl 5 rfl) ?_
            refine lv_iconst (v := (nI 3)) S.1 S.2.1 dX8_leastGapsOf_23 (by decide) ?_
            refine n_cgt S (tgt := 57) (by omega) dX8_leastGapsOf_24 (by decide) (fun c24 => ?_) (fun c24 => ?_)
            · refine lv_iload_n S.1 S.2.1 dX8_leastGapsOf_57 rfl (lv_at hl 2 rfl) ?_
              refine lv_iload S.1 S.2.1 dX8_leastGapsOf_58 (lv_at hl 4 rfl) ?_
              refine va_mmax S.1 S.2.1 (S.2.2.1.trans hl.1.symm) S.2.2.2.1 (S.2.2.2.2 _ w_X8_leastGapsOf_0) (S.2.2.2.2 _ w_X8_leastGapsOf_1) (S.2.2.2.2 _ w_X8_leastGapsOf_2) (S.2.2.2.2 _ w_X8_leastGapsOf_3) (Nat.le_of_ble_eq_true rfl) (Nat.le_of_ble_eq_true rfl) (Nat.zero_le _) (Nat.zero_le _) dX8_leastGapsOf_60 ?_
              refine n_top (show (if (nI le) < (nI x - nI (pw n sk (2 * j) 8)) then (nI x - nI (pw n sk (2 * j) 8)) else (nI le)) = (nI (lks n nd sk d (j + 1))) from by rw [dif_max ⟨by omega, by omega, by omega⟩, hx, show i = 3 by omega, hle]; rfl) ?_
              refine lv_istore_n (lv' := [(2, .int (nI (lks n nd sk d (j + 1)))), (0, .ref (c 0)), (1, .int (nI d)), (3, .int (nI (2 * j))), (4, .int (nI x - nI (pw n sk (2 * j) 8))), (5, .int (nI (i + 1)))]) S.1 S.2.1 dX8_leastGapsOf_63 rfl hl (by decide) rfl (fun ls hl => ?_)
              refine lv_iinc (v := (nI (2 * (j + 1)))) (lv' := [(3, .int (nI (2 * (j + 1)))), (2, .int (nI (lks n nd sk d (j + 1)))), (0, .ref (c 0)), (1, .int (nI d)), (4, .int (nI x - nI (pw n sk (2 * j) 8))), (5, .int (nI (i + 1)))]) S.1 S.2.1 dX8_leastGapsOf_64 hl (k := 3) rfl (nI_add (2 * j) 2) (by decide) rfl (fun ls hl => ?_)
              refine lv_goto (tgt := 4) S.1 S.2.1 dX8_leastGapsOf_67 (by decide) ?_
              exact ih4 (lks n nd sk d (j + 1)) (j + 1) (by omega) (rfl) (by omega) ls (lv_sub hl [2, 3, 1, 0] rfl)
            · refine lv_iload_n S.1 S.2.1 dX8_leastGapsOf_27 rfl (lv_at hl 3 rfl) ?_
              refine lv_iconst (v := (nI 1)) S.1 S.2.1 dX8_leastGapsOf_28 (by decide) ?_
              refine lv_iload S.1 S.2.1 dX8_leastGapsOf_29 (lv_at hl 5 rfl) ?_
              refine n_shl S (by omega) dX8_leastGapsOf_31 ?_
              refine n_and S dX8_leastGapsOf_32 ?_
              refine n_zeq S (tgt := 51) (Nat.lt_of_le_of_lt Nat.and_le_left (by omega)) dX8_leastGapsOf_33 (by decide) (fun c33 => ?_) (fun c33 => ?_)
              · refine lv_iinc (v := (nI (i + 1 + 1))) (lv' := [(5, .int (nI (i + 1 + 1))), (0, .ref (c 0)), (1, .int (nI d)), (2, .int (nI le)), (3, .int (nI (2 * j))), (4, .int (nI x - nI (pw n sk (2 * j) 8)))]) S.1 S.2.1 dX8_leastGapsOf_51 hl (k := 5) rfl (nI_1 _) (by decide) rfl (fun ls hl => ?_)
                refine lv_goto (tgt := 21) S.1 S.2.1 dX8_leastGapsOf_54 (by decide) ?_
                exact ih21 x (i + 1) (by omega) (by first | (rw [hx, nks_0 ((bit_and _ _).mp c33)]) | (rw [hx, nks_1 (fun q => c33 ((bit_and _ _).mpr q))])) (by omega) ls (lv_sub hl [1, 2, 3, 4, 5, 0] rfl)
              · refine lv_iload S.1 S.2.1 dX8_leastGapsOf_36 (lv_at hl 4 rfl) ?_
                refine lv_aload_n S.1 S.2.1 dX8_leastGapsOf_38 rfl (lv_at hl 0 rfl) ?_
                refine g_get (C := RX8) (T := TX8) (N := 9) (v := .ref (c 2)) S 0 6 1 in_X8_leastGapsOf_X8 hK hP rfl rfl (by decide) w_X8_leastGapsOf_4 rfl dX8_leastGapsOf_39 ?_
                refine lv_iload_n S.1 S.2.1 dX8_leastGapsOf_42 rfl (lv_at hl 1 rfl) ?_
                refine lv_iload S.1 S.2.1 dX8_leastGapsOf_43 (lv_at hl 5 rfl) ?_
                refine rd_callV (rest := [.int (nI x - nI (pw n sk (2 * j) 8))]) S (r_X3_of l D cT (c 2) (c 3) nd d (i + 1) (by omega) (by omega)) gX8_leastGapsOf_X3_of rfl pd_X3_of ⟨rfl, rfl, Nat.le_of_ble_eq_true rfl, Nat.le_of_ble_eq_true rfl⟩ (sx_P2 (hP.sub (ws' := [(c 2, .inr (2, [.ref (c 3)]))]) [2] rfl) (hP.sub (ws' := [(c 3, .inl (cT.1, 28, .inl (fun k => nI (nd k))))]) [3] rfl)) hK (va_recv hK.1 hP (ci := 2) (q0 := 2) rfl rfl) hl rfl rfl (Nat.le_of_ble_eq_true rfl) ⟨Nat.zero_le _, Nat.zero_le _⟩ dX8_leastGapsOf_45 ?_
                refine lv_iadd S.1 S.2.1 dX8_leastGapsOf_48 ?_
                refine n_top (show ((nI x - nI (pw n sk (2 * j) 8)) + (nI (nd (d * 4 + (i + 1))))) = (nI (x + nd (d * 4 + (i + 1))) - nI (pw n sk (2 * j) 8)) from dif_add _ _ _) ?_
                refine lv_istore (lv' := [(4, .int (nI (x + nd (d * 4 + (i + 1))) - nI (pw n sk (2 * j) 8))), (0, .ref (c 0)), (1, .int (nI d)), (2, .int (nI le)), (3, .int (nI (2 * j))), (5, .int (nI (i + 1)))]) S.1 S.2.1 dX8_leastGapsOf_49 hl (by decide) rfl (fun ls hl => ?_)
                refine lv_iinc (v := (nI (i + 1 + 1))) (lv' := [(5, .int (nI (i + 1 + 1))), (4, .int (nI (x + nd (d * 4 + (i + 1))) - nI (pw n sk (2 * j) 8))), (0, .ref (c 0)), (1, .int (nI d)), (2, .int (nI le)), (3, .int (nI (2 * j)))]) S.1 S.2.1 dX8_leastGapsOf_51 hl (k := 5) rfl (nI_1 _) (by decide) rfl (fun ls hl => ?_)
                refine lv_goto (tgt := 21) S.1 S.2.1 dX8_leastGapsOf_54 (by decide) ?_
                exact ih21 (x + nd (d * 4 + (i + 1))) (i + 1) (by omega) (by first | (rw [hx, nks_0 ((bit_and _ _).mp c33)]) | (rw [hx, nks_1 (fun q => c33 ((bit_and _ _).mpr q))])) (by omega) ls (lv_sub hl [2, 3, 4, 5, 1, 0] rfl)
        exact lp21 _ 0 0 (Nat.zero_le _) (rfl) (Nat.lt_succ_self _) ls (lv_sub hl [2, 3, 4, 5, 1, 0] rfl)
  exact lp4 _ 0 0 (Nat.zero_le _) (rfl) (Nat.lt_succ_self _) ls (lv_sub hl [2, 3, 1, 0] rfl)

theorem pd_X8_bound : yX8_bound.cls = RX8 ∧ yX8_bound.cls ≠ "java/lang/invoke/MethodHandle" ∧ yX8_bound.cls ≠ "java/lang/invoke/VarHandle" ∧ (parseMethodDescriptor yX8_bound.desc).map (fun d => d.parameters.length) = some 0 := by decide +kernel
set_option maxHeartbeats 4000000 in
set_option maxRecDepth 100000 in
theorem r_X8_bound (l : Launch) (D : va_G) (cT : ClassId × ClassId × ClassId) (c pa : Nat → Nat) (bd a6 a7 n ro cl fb rn : Nat) (nd sk mo wk fx wi la da we : Nat → Nat) (V V2 PR : Nat → Int64) (hwf : wfC n bd fb rn nd sk mo wk fx wi la da we) : Met l yX8_bound wsX8_bound ({ frames := 2, cells := 0, slots := 0, locals := 51 }) (va_Pc [.ref (c 0)] (sx_R D (TY cT) (cX cT c a6 a7 n ro cl fb rn nd V V2 PR pa ++ pool n pa (per sk mo wk fx wi la da we)))) (vp_Si (fun r_ => r_ = (nI (bnd n nd sk 7)))) 0 0 (fun _ => False) := by
  refine rd_start (cc := cX8_bound) (maxL := 3) (ret := (some .int)) RX8 ⟨by decide +kernel, rfl⟩ rfl (Nat.le_of_ble_eq_true rfl) ?_
  intro p0 e0 s0 m0 a0 b0 t0 c0 S hr hlocks hP hK ls hl
  have hl : lv_has ls 3 [(0, .ref (c 0))] := hl
  obtain ⟨hn, hcl, hfb, hrn, hnd, hper⟩ := id hwf
  refine lv_iconst (v := (nI 0)) S.1 S.2.1 dX8_bound_0 (by decide) ?_
  refine lv_istore_n (lv' := [(1, .int (nI 0)), (0, .ref (c 0))]) S.1 S.2.1 dX8_bound_1 rfl hl (by decide) rfl (fun ls hl => ?_)
  refine lv_iconst (v := (nI 0)) S.1 S.2.1 dX8_bound_2 (by decide) ?_
  refine lv_istore_n (lv' := [(2, .int (nI 0)), (1, .int (nI 0)), (0, .ref (c 0))]) S.1 S.2.1 dX8_bound_3 rfl hl (by decide) rfl (fun ls hl => ?_)
  have lp4 : ∀ (fu : Nat) (su : Nat) (d : Nat), (d ≤ 7) → (su = bnd n nd sk d) → (7 - d) < fu → ∀ ls : Array Slot, lv_has ls 3 [(0, .ref (c 0)), (1, .int (nI su)), (2, .int (nI d))] → W p0 l e0 ({ frames := 2, cells := 0, slots := 0, locals := 51 } : Room) s0 m0 a0 b0 t0 c0 s0.heap [] 0 0 (MQ b0 (vp_Si (fun r_ => r_ = (nI (bnd n nd sk 7)))) a0 s0 0 0 (fun _ => False)) (F0 m0 4 ls []) := by
    intro fu
    induction fu with
    | zero =>
      intro su d h2 hs hm
      exact absurd hm (Nat.not_lt_zero _)
    | succ fu ih4 =>
      intro su d h2 hs hm ls hl
      refine lv_iload_n S.1 S.2.1 dX8_bound_4 rfl (lv_at hl 2 rfl) ?_
      refine lv_bipush (v := (nI 7)) S.1 S.2.1 dX8_bound_5 (by decide) ?_
      refine n_cge S (tgt := 24) (by omega) dX8_bound_7 (by decide) (fun c7 => ?_) (fun c7 => ?_)
      · refine lv_iload_n S.1 S.2.1 dX8_bound_24 rfl (lv_at hl 1 rfl) ?_
        exact rd_iret S hr rfl hlocks (by rw [hs, show d = 7 by omega]) dX8_bound_25
      · refine lv_iload_n S.1 S.2.1 dX8_bound_10 rfl (lv_at hl 1 rfl) ?_
        refine lv_aload_n S.1 S.2.1 dX8_bound_11 rfl (lv_at hl 0 rfl) ?_
        refine lv_iload_n S.1 S.2.1 dX8_bound_12 rfl (lv_at hl 2 rfl) ?_
        refine rd_callV (rest := [.int (nI su)]) S (r_X8_leastGapsOf l D cT c pa bd a6 a7 n ro cl fb rn nd sk mo wk fx wi la da we V V2 PR d (hwf) (by omega)) gX8_bound_X8_leastGapsOf rfl pd_X8_leastGapsOf ⟨rfl, rfl, Nat.le_of_ble_eq_true rfl, Nat.le_of_ble_eq_true rfl⟩ hP hK (va_recv hK.1 hP (ci := 6) (q0 := 0) rfl rfl) hl rfl rfl (Nat.le_of_ble_eq_true rfl) ⟨Nat.zero_le _, Nat.zero_le _⟩ dX8_bound_13 ?_
        refine n_add S dX8_bound_16 ?_
        refine lv_istore_n (lv' := [(1, .int (nI (su + (lks n nd sk d 8)))), (0, .ref (c 0)), (2, .int (nI d))]) S.1 S.2.1 dX8_bound_17 rfl hl (by decide) rfl (fun ls hl => ?_)
        refine lv_iinc (v := (nI (d + 1))) (lv' := [(2, .int (nI (d + 1))), (1, .int (nI (su + (lks n nd sk d 8)))), (0, .ref (c 0))]) S.1 S.2.1 dX8_bound_18 hl (k := 2) rfl (nI_1 _) (by decide) rfl (fun ls hl => ?_)
        refine lv_goto (tgt := 4) S.1 S.2.1 dX8_bound_21 (by decide) ?_
        exact ih4 (su + (lks n nd sk d 8)) (d + 1) (by omega) (by rw [hs]; rfl) (by omega) ls (lv_sub hl [2, 1, 0] rfl)
  exact lp4 _ 0 0 (Nat.zero_le _) (rfl) (Nat.lt_succ_self _) ls (lv_sub hl [2, 1, 0] rfl)

theorem pd_X8_couldSwap : yX8_couldSwap.cls = RX8 ∧ yX8_couldSwap.cls ≠ "java/lang/invoke/MethodHandle" ∧ yX8_couldSwap.cls ≠ "java/lang/invoke/VarHandle" ∧ (parseMethodDescriptor yX8_couldSwap.desc).map (fun d => d.parameters.length) = some 3 := by decide +kernel
theorem w_X8_couldSwap_0 : Cond.fieldLink RX8 25 "CoverSheet" "rules" "LCoverSheet$Rules;" ∈ wsX8_couldSwap := by decide +kernel
theorem in_X8_couldSwap_X4 : ∀ w ∈ u_ws RX4 TX4 8, w ∈ wsX8_couldSwap := by decide +kernel
theorem in_X8_couldSwap_X8 : ∀ w ∈ u_ws RX8 TX8 9, w ∈ wsX8_couldSwap := by decide +kernel
set_option maxHeartbeats 4000000 in
set_option maxRecDepth 100000 in
theorem r_X8_couldSwap (l : Launch) (D : va_G) (cT : ClassId × ClassId × ClassId) (c pa : Nat → Nat) (bd a6 a7 n ro cl fb rn : Nat) (nd sk mo wk fx wi la da we : Nat → Nat) (V V2 PR : Nat → Int64) (i j d : Nat) (hwf : wfC n bd fb rn nd sk mo wk fx wi la da we) (hi : i < n) (hj : j < n) (hd : d < 7) : Met l yX8_couldSwap wsX8_couldSwap ({ frames := 4, cells := 0, slots := 0, locals := 90 }) (va_Pc [.ref (c 0), .ref (pa i), .ref (pa j), .int (nI d)] (sx_R D (TY cT) (cX cT c a6 a7 n ro cl fb rn nd V V2 PR pa ++ pool n pa (per sk mo wk fx wi la da we)))) (vp_Si (fun r_ => r_ = (nI (csw sk mo wk fx la da fb rn i j d).toNat))) 0 0 (fun _ => False) := by
  refine rd_start (cc := cX8_couldSwap) (maxL := 6) (ret := (some .boolean)) RX8 ⟨by decide +kernel, rfl⟩ rfl (Nat.le_of_ble_eq_true rfl) ?_
  intro p0 e0 s0 m0 a0 b0 t0 c0 S hr hlocks hP hK ls hl
  have hl : lv_has ls 6 [(0, .ref (c 0)), (1, .ref (pa i)), (2, .ref (pa j)), (3, .int (nI d))] := hl
  obtain ⟨hn, hcl, hfb, hrn, hnd, hper⟩ := id hwf
  have hpii := hper i
  have hpij := hper j
  refine lv_aload_n S.1 S.2.1 dX8_couldSwap_0 rfl (lv_at hl 1 rfl) ?_
  refine g_getN (C := RX4) (T := TX4) (N := 8) (v := .int (nI (wk i))) S _ 3 2 in_X8_couldSwap_X4 hK hP (pool_at (by omega)) rfl (by decide) (List.mem_of_getElem? (i := 11) rfl) rfl dX8_couldSwap_1 ?_
  refine lv_iload_n S.1 S.2.1 dX8_couldSwap_4 rfl (lv_at hl 3 rfl) ?_
  refine lv_aload_n S.1 S.2.1 dX8_couldSwap_5 rfl (lv_at hl 2 rfl) ?_
  refine g_getN (C := RX4) (T := TX4) (N := 8) (v := .int (nI (wk j))) S _ 3 2 in_X8_couldSwap_X4 hK hP (pool_at (by omega)) rfl (by decide) (List.mem_of_getElem? (i := 11) rfl) rfl dX8_couldSwap_6 ?_
  refine lv_iload_n S.1 S.2.1 dX8_couldSwap_9 rfl (lv_at hl 3 rfl) ?_
  refine rd_callS (rest := [.int (nI d), .int (nI (wk i))]) S (r_X7_at l D cT (wk j) d (by omega) (hd)) gX8_couldSwap_X7_at rfl pd_X7_at ⟨rfl, rfl, Nat.le_of_ble_eq_true rfl, Nat.le_of_ble_eq_true rfl⟩ (sx_P0 D _) hK hl rfl rfl (Nat.le_of_ble_eq_true rfl) ⟨Nat.zero_le _, Nat.zero_le _⟩ dX8_couldSwap_10 ?_
  refine rd_callS (rest := []) S (r_X7_with l D cT (wk i) d (ent (wk j) d) (by omega) (hd) (ent_lt _ _)) gX8_couldSwap_X7_with rfl pd_X7_with ⟨rfl, rfl, Nat.le_of_ble_eq_true rfl, Nat.le_of_ble_eq_true rfl⟩ (sx_P0 D _) hK hl rfl rfl (Nat.le_of_ble_eq_true rfl) ⟨Nat.zero_le _, Nat.zero_le _⟩ dX8_couldSwap_13 ?_
  refine lv_istore (lv' := [(4, .int (nI (wset (wk i) d (ent (wk j) d)))), (0, .ref (c 0)), (1, .ref (pa i)), (2, .ref (pa j)), (3, .int (nI d))]) S.1 S.2.1 dX8_couldSwap_16 hl (by decide) rfl (fun ls hl => ?_)
  refine lv_aload_n S.1 S.2.1 dX8_couldSwap_18 rfl (lv_at hl 3 rfl) ?_
  refine g_getN (C := RX4) (T := TX4) (N := 8) (v := .int (nI (wk j))) S _ 3 2 in_X8_couldSwap_X4 hK hP (pool_at (by omega)) rfl (by decide) (List.mem_of_getElem? (i := 11) rfl) rfl dX8_couldSwap_19 ?_
  refine lv_iload_n S.1 S.2.1 dX8_couldSwap_22 rfl (lv_at hl 4 rfl) ?_
  refine lv_aload_n S.1 S.2.1 dX8_couldSwap_23 rfl (lv_at hl 2 rfl) ?_
  refine g_getN (C := RX4) (T := TX4) (N := 8) (v := .int (nI (wk i))) S _ 3 2 in_X8_couldSwap_X4 hK hP (pool_at (by omega)) rfl (by decide) (List.mem_of_getElem? (i := 11) rfl) rfl dX8_couldSwap_24 ?_
  refine lv_iload_n S.1 S.2.1 dX8_couldSwap_27 rfl (lv_at hl 4 rfl) ?_
  refine rd_callS (rest := [.int (nI d), .int (nI (wk j))]) S (r_X7_at l D cT (wk i) d (by omega) (hd)) gX8_couldSwap_X7_at rfl pd_X7_at ⟨rfl, rfl, Nat.le_of_ble_eq_true rfl, Nat.le_of_ble_eq_true rfl⟩ (sx_P0 D _) hK hl rfl rfl (Nat.le_of_ble_eq_true rfl) ⟨Nat.zero_le _, Nat.zero_le _⟩ dX8_couldSwap_28 ?_
  refine rd_callS (rest := []) S (r_X7_with l D cT (wk j) d (ent (wk i) d) (by omega) (hd) (ent_lt _ _)) gX8_couldSwap_X7_with rfl pd_X7_with ⟨rfl, rfl, Nat.le_of_ble_eq_true rfl, Nat.le_of_ble_eq_true rfl⟩ (sx_P0 D _) hK hl rfl rfl (Nat.le_of_ble_eq_true rfl) ⟨Nat.zero_le _, Nat.zero_le _⟩ dX8_couldSwap_31 ?_
  refine lv_istore (lv' := [(5, .int (nI (wset (wk j) d (ent (wk i) d)))), (4, .int (nI (wset (wk i) d (ent (wk j) d)))), (0, .ref (c 0)), (1, .ref (pa i)), (2, .ref (pa j)), (3, .int (nI d))]) S.1 S.2.1 dX8_couldSwap_34 hl (by decide) rfl (fun ls hl => ?_)
  refine lv_aload_n S.1 S.2.1 dX8_couldSwap_36 rfl (lv_at hl 3 rfl) ?_
  refine lv_iload S.1 S.2.1 dX8_couldSwap_37 (lv_at hl 1 rfl) ?_
  refine lv_aload_n S.1 S.2.1 dX8_couldSwap_39 rfl (lv_at hl 2 rfl) ?_
  refine g_get (C := RX8) (T := TX8) (N := 9) (v := .ref (c 4)) S 0 6 2 in_X8_couldSwap_X8 hK hP rfl rfl (by decide) w_X8_couldSwap_0 rfl dX8_couldSwap_40 ?_
  refine rd_callV (rest := []) S (r_X4_canHave l D cT (pa i) (c 4) (sk i) (mo i) (wk i) (fx i) (wi i) (la i) (da i) (we i) fb rn (wset (wk i) d (ent (wk j) d)) (wset_lt (by omega) hd (ent_lt _ _)) (⟨hpii.1, hpii.2.1, hpii.2.2.2.2.2.1, hfb, hrn, by omega⟩) (hpii.2.2.2.1)) gX8_couldSwap_X4_canHave rfl pd_X4_canHave ⟨rfl, rfl, Nat.le_of_ble_eq_true rfl, Nat.le_of_ble_eq_true rfl⟩ (sx_P2 (pool_one hP (by omega)) (hP.sub (ws' := [(c 4, .inr (5, [.int (nI fb), .int (nI rn)]))]) [4] rfl)) hK (va_recv hK.1 hP (ci := 3) (q0 := _) rfl (pool_at (by omega))) hl rfl rfl (Nat.le_of_ble_eq_true rfl) ⟨Nat.zero_le _, Nat.zero_le _⟩ dX8_couldSwap_43 ?_
  refine n_beq S (tgt := 66) dX8_couldSwap_46 (by decide) (fun c46 => ?_) (fun c46 => ?_)
  · refine lv_iconst (v := (nI 0)) S.1 S.2.1 dX8_couldSwap_66 (by decide) ?_
    exact rd_iret S hr (by decide) hlocks (r_f (fun h => by have h2 : (feas _ _ _ _ _ _ _ _ && feas _ _ _ _ _ _ _ _) = true := h; rw [Bool.and_eq_true] at h2; first | (rw [c46] at h2; exact absurd h2.1 (by decide)) | (rw [c59] at h2; exact absurd h2.2 (by decide)))) dX8_couldSwap_67
  · refine lv_aload_n S.1 S.2.1 dX8_couldSwap_49 rfl (lv_at hl 4 rfl) ?_
    refine lv_iload S.1 S.2.1 dX8_couldSwap_50 (lv_at hl 0 rfl) ?_
    refine lv_aload_n S.1 S.2.1 dX8_couldSwap_52 rfl (lv_at hl 2 rfl) ?_
    refine g_get (C := RX8) (T := TX8) (N := 9) (v := .ref (c 4)) S 0 6 2 in_X8_couldSwap_X8 hK hP rfl rfl (by decide) w_X8_couldSwap_0 rfl dX8_couldSwap_53 ?_
    refine rd_callV (rest := []) S (r_X4_canHave l D cT (pa j) (c 4) (sk j) (mo j) (wk j) (fx j) (wi j) (la j) (da j) (we j) fb rn (wset (wk j) d (ent (wk i) d)) (wset_lt (by omega) hd (ent_lt _ _)) (⟨hpij.1, hpij.2.1, hpij.2.2.2.2.2.1, hfb, hrn, by omega⟩) (hpij.2.2.2.1)) gX8_couldSwap_X4_canHave rfl pd_X4_canHave ⟨rfl, rfl, Nat.le_of_ble_eq_true rfl, Nat.le_of_ble_eq_true rfl⟩ (sx_P2 (pool_one hP (by omega)) (hP.sub (ws' := [(c 4, .inr (5, [.int (nI fb), .int (nI rn)]))]) [4] rfl)) hK (va_recv hK.1 hP (ci := 3) (q0 := _) rfl (pool_at (by omega))) hl rfl rfl (Nat.le_of_ble_eq_true rfl) ⟨Nat.zero_le _, Nat.zero_le _⟩ dX8_couldSwap_56 ?_
    refine n_beq S (tgt := 66) dX8_couldSwap_59 (by decide) (fun c59 => ?_) (fun c59 => ?_)
    · refine lv_iconst (v := (nI 0)) S.1 S.2.1 dX8_couldSwap_66 (by decide) ?_
      exact rd_iret S hr (by decide) hlocks (r_f (fun h => by have h2 : (feas _ _ _ _ _ _ _ _ && feas _ _ _ _ _ _ _ _) = true := h; rw [Bool.and_eq_true] at h2; first | (rw [c46] at h2; exact absurd h2.1 (by decide)) | (rw [c59] at h2; exact absurd h2.2 (by decide)))) dX8_couldSwap_67
    · refine lv_iconst (v := (nI 1)) S.1 S.2.1 dX8_couldSwap_62 (by decide) ?_
      refine lv_goto (tgt := 67) S.1 S.2.1 dX8_couldSwap_63 (by decide) ?_
      exact rd_iret S hr (by decide) hlocks (r_t (by show (feas _ _ _ _ _ _ _ _ && feas _ _ _ _ _ _ _ _) = true; rw [c46, c59]; rfl)) dX8_couldSwap_67

theorem pd_X8_gaps : yX8_gaps.cls = RX8 ∧ yX8_gaps.cls ≠ "java/lang/invoke/MethodHandle" ∧ yX8_gaps.cls ≠ "java/lang/invoke/VarHandle" ∧ (parseMethodDescriptor yX8_gaps.desc).map (fun d => d.parameters.length) = some 0 := by decide +kernel
set_option maxHeartbeats 4000000 in
set_option maxRecDepth 100000 in
theorem r_X8_gaps (l : Launch) (D : va_G) (cT : ClassId × ClassId × ClassId) (c pa : Nat → Nat) (bd a6 a7 n ro cl fb rn : Nat) (nd sk mo wk fx wi la da we : Nat → Nat) (V V2 PR : Nat → Int64) (hwf : wfC n bd fb rn nd sk mo wk fx wi la da we) : Met l yX8_gaps wsX8_gaps ({ frames := 4, cells := 0, slots := 0, locals := 92 }) (va_Pc [.ref (c 0)] (sx_R D (TY cT) (cX cT c a6 a7 n ro cl fb rn nd V V2 PR pa ++ pool n pa (per sk mo wk fx wi la da we)))) (vp_Si (fun r_ => r_ = (nI (gpd n nd wk 7)))) 0 0 (fun _ => False) := by
  refine rd_start (cc := cX8_gaps) (maxL := 1) (ret := (some .int)) RX8 ⟨by decide +kernel, rfl⟩ rfl (Nat.le_of_ble_eq_true rfl) ?_
  intro p0 e0 s0 m0 a0 b0 t0 c0 S hr hlocks hP hK ls hl
  have hl : lv_has ls 1 [(0, .ref (c 0))] := hl
  obtain ⟨hn, hcl, hfb, hrn, hnd, hper⟩ := id hwf
  refine lv_aload_n S.1 S.2.1 dX8_gaps_0 rfl (lv_at hl 0 rfl) ?_
  refine rd_callV (rest := []) S (r_X8_allGaps l D cT c pa bd a6 a7 n ro cl fb rn nd sk mo wk fx wi la da we V V2 PR (hwf)) gX8_gaps_X8_allGaps rfl pd_X8_allGaps ⟨rfl, rfl, Nat.le_of_ble_eq_true rfl, Nat.le_of_ble_eq_true rfl⟩ hP hK (va_recv hK.1 hP (ci := 6) (q0 := 0) rfl rfl) hl rfl rfl (Nat.le_of_ble_eq_true rfl) ⟨Nat.zero_le _, Nat.zero_le _⟩ dX8_gaps_1 ?_
  exact rd_iret S hr rfl hlocks (rfl) dX8_gaps_4

theorem pd_X8_rounds : yX8_rounds.cls = RX8 ∧ yX8_rounds.cls ≠ "java/lang/invoke/MethodHandle" ∧ yX8_rounds.cls ≠ "java/lang/invoke/VarHandle" ∧ (parseMethodDescriptor yX8_rounds.desc).map (fun d => d.parameters.length) = some 0 := by decide +kernel
theorem w_X8_rounds_0 : Cond.fieldLink RX8 135 "CoverSheet" "lastRounds" "I" ∈ wsX8_rounds := by decide +kernel
theorem in_X8_rounds_X8 : ∀ w ∈ u_ws RX8 TX8 9, w ∈ wsX8_rounds := by decide +kernel
set_option maxHeartbeats 4000000 in
set_option maxRecDepth 100000 in
theorem r_X8_rounds (l : Launch) (D : va_G) (cT : ClassId × ClassId × ClassId) (c pa : Nat → Nat) (bd a6 a7 n ro cl fb rn : Nat) (nd sk mo wk fx wi la da we : Nat → Nat) (V V2 PR : Nat → Int64) (hwf : wfC n bd fb rn nd sk mo wk fx wi la da we) : Met l yX8_rounds wsX8_rounds ({ frames := 0, cells := 0, slots := 0, locals := 0 }) (va_Pc [.ref (c 0)] (sx_R D (TY cT) (cX cT c a6 a7 n ro cl fb rn nd V V2 PR pa ++ pool n pa (per sk mo wk fx wi la da we)))) (vp_Si (fun r_ => r_ = (nI ro))) 0 0 (fun _ => False) := by
  refine rd_start (cc := cX8_rounds) (maxL := 1) (ret := (some .int)) RX8 ⟨by decide +kernel, rfl⟩ rfl (Nat.le_of_ble_eq_true rfl) ?_
  intro p0 e0 s0 m0 a0 b0 t0 c0 S hr hlocks hP hK ls hl
  have hl : lv_has ls 1 [(0, .ref (c 0))] := hl
  obtain ⟨hn, hcl, hfb, hrn, hnd, hper⟩ := id hwf
  refine lv_aload_n S.1 S.2.1 dX8_rounds_0 rfl (lv_at hl 0 rfl) ?_
  refine g_get (C := RX8) (T := TX8) (N := 9) (v := .int (nI ro)) S 0 6 7 in_X8_rounds_X8 hK hP rfl rfl (by decide) w_X8_rounds_0 rfl dX8_rounds_1 ?_
  exact rd_iret S hr rfl hlocks (rfl) dX8_rounds_4

theorem pd_X8_people : yX8_people.cls = RX8 ∧ yX8_people.cls ≠ "java/lang/invoke/MethodHandle" ∧ yX8_people.cls ≠ "java/lang/invoke/VarHandle" ∧ (parseMethodDescriptor yX8_people.desc).map (fun d => d.parameters.length) = some 0 := by decide +kernel
theorem w_X8_people_0 : Cond.fieldLink RX8 59 "CoverSheet" "teamSize" "I" ∈ wsX8_people := by decide +kernel
theorem in_X8_people_X8 : ∀ w ∈ u_ws RX8 TX8 9, w ∈ wsX8_people := by decide +kernel
set_option maxHeartbeats 4000000 in
set_option maxRecDepth 100000 in
theorem r_X8_people (l : Launch) (D : va_G) (cT : ClassId × ClassId × ClassId) (c pa : Nat → Nat) (bd a6 a7 n ro cl fb rn : Nat) (nd sk mo wk fx wi la da we : Nat → Nat) (V V2 PR : Nat → Int64) (hwf : wfC n bd fb rn nd sk mo wk fx wi la da we) : Met l yX8_people wsX8_people ({ frames := 0, cells := 0, slots := 0, locals := 0 }) (va_Pc [.ref (c 0)] (sx_R D (TY cT) (cX cT c a6 a7 n ro cl fb rn nd V V2 PR pa ++ pool n pa (per sk mo wk fx wi la da we)))) (vp_Si (fun r_ => r_ = (nI n))) 0 0 (fun _ => False) := by
  refine rd_start (cc := cX8_people) (maxL := 1) (ret := (some .int)) RX8 ⟨by decide +kernel, rfl⟩ rfl (Nat.le_of_ble_eq_true rfl) ?_
  intro p0 e0 s0 m0 a0 b0 t0 c0 S hr hlocks hP hK ls hl
  have hl : lv_has ls 1 [(0, .ref (c 0))] := hl
  obtain ⟨hn, hcl, hfb, hrn, hnd, hper⟩ := id hwf
  refine lv_aload_n S.1 S.2.1 dX8_people_0 rfl (lv_at hl 0 rfl) ?_
  refine g_get (C := RX8) (T := TX8) (N := 9) (v := .int (nI n)) S 0 6 6 in_X8_people_X8 hK hP rfl rfl (by decide) w_X8_people_0 rfl dX8_people_1 ?_
  exact rd_iret S hr rfl hlocks (rfl) dX8_people_4

