theorem pd_X1_through : yX1_through.cls = RX1 ∧ yX1_through.cls ≠ "java/lang/invoke/MethodHandle" ∧ yX1_through.cls ≠ "java/lang/invoke/VarHandle" ∧ (parseMethodDescriptor yX1_through.desc).map (fun d => d.parameters.length) = some 3 := by decide +kernel
theorem w_X1_through_0 : Cond.fieldLink RX1 11 "CoverSheet$DayTable" "values" "[J" ∈ wsX1_through := by decide +kernel
theorem w_X1_through_1 : Cond.methodLink RX1 36 Lib.Math.min.name ∈ wsX1_through := by decide +kernel
theorem w_X1_through_2 : Cond.static Lib.Math.min.name ∈ wsX1_through := by decide +kernel
theorem w_X1_through_3 : Cond.initialized "java/lang/Math" ∈ wsX1_through := by decide +kernel
theorem w_X1_through_4 : Cond.code Lib.Math.min.name Lib.Math.min.code 2 (some .int) ∈ wsX1_through := by decide +kernel
theorem in_X1_through_X1 : ∀ w ∈ u_ws RX1 TX1 2, w ∈ wsX1_through := by decide +kernel
theorem in_X1_through_X4 : ∀ w ∈ u_ws RX4 TX4 8, w ∈ wsX1_through := by decide +kernel
set_option maxHeartbeats 4000000 in
set_option maxRecDepth 100000 in
theorem w_X1_through_X5 (l : Launch) (D : va_G) (cT : ClassId × ClassId × ClassId) (sz : Nat) (c pa : Nat → Nat) (bd a6 a7 n ro cl fb rn : Nat) (nd sk mo wk fx wi la da we : Nat → Nat) (V V2 PR : Nat → Int64) (i : Nat) (hwf : wfC n bd fb rn nd sk mo wk fx wi la da we) (hi : i < n) : Met l yX1_through wsX1_through ({ frames := 3, cells := 0, slots := 0, locals := 82 } : Room) (va_Pc [.ref (c 5), .ref (pa i), .ref (c 4), .ref (c 9)] (wr_R D (TY cT) (cX cT c a6 a7 n ro cl fb rn nd V V2 PR pa ++ pool n pa (per sk mo wk fx wi la da we)) sz)) (wQl (fun (r_ : Int64) (_ : Nat × Nat × (Nat → Int64) × (Nat → Int64)) => r_ = thP (sk i) (mo i) (fx i) fb rn (da i) (la i) PR) D (fun (u_ : Nat × Nat × (Nat → Int64) × (Nat → Int64)) => cX cT c u_.1 u_.2.1 n ro cl fb rn nd u_.2.2.1 u_.2.2.2 PR pa ++ pool n pa (per sk mo wk fx wi la da we)) (va_A (cX cT c a6 a7 n ro cl fb rn nd V V2 PR pa ++ pool n pa (per sk mo wk fx wi la da we)) sz)) 0 0 (va_A (cX cT c a6 a7 n ro cl fb rn nd V V2 PR pa ++ pool n pa (per sk mo wk fx wi la da we)) sz) := by
  refine wr_start (cc := cX1_through) (maxL := 12) (ret := (some .long)) RX1 ⟨by decide +kernel, rfl⟩ rfl (Nat.le_of_ble_eq_true rfl) ?_
  intro p0 e0 s0 m0 a0 b0 t0 c0 S hr hlocks hin hP hK hA hD hS ls hl
  generalize va_A (cX cT c a6 a7 n ro cl fb rn nd V V2 PR pa ++ pool n pa (per sk mo wk fx wi la da we)) sz = A at hA hD hS ⊢
  have hl : lv_has ls 12 [(0, .ref (c 5)), (1, .ref (pa i)), (2, .ref (c 4)), (3, .ref (c 9))] := hl
  obtain ⟨hn, hcl, hfb, hrn, hnd, hper⟩ := id hwf
  have hpi := hper i
  have hfl := pl4_lt (da := da i) hpi.2.2.2.2.2.1
  refine lv_aload_n S.1 S.2.1 dX1_through_0 rfl (lv_at hl 0 rfl) ?_
  refine g_get (C := RX1) (T := TX1) (N := 2) (v := .ref a6) S 5 1 0 in_X1_through_X1 hK hP rfl rfl (by decide) w_X1_through_0 rfl dX1_through_1 ?_
  refine lv_aload_n S.1 S.2.1 dX1_through_4 rfl (lv_at hl 3 rfl) ?_
  refine rd_callUl (x := ⟨"CoverSheet$Measure", "none", "()J"⟩) (owner := "CoverSheet$Measure") (n := 0) (rest := [.ref a6]) S (r_X5_none l D cT (c 9) (c 10) ) gX1_through_X5_none_u18X5 rfl (List.mem_of_getElem? (i := 17) rfl) (by decide +kernel) ⟨rfl, rfl, Nat.le_of_ble_eq_true rfl, Nat.le_of_ble_eq_true rfl⟩ (hP.sub (ws' := [(c 9, .inr (4, [.ref (c 10)]))]) [9] rfl) hK (va_recv hK.1 hP (ci := 4) (q0 := 9) rfl rfl) hl rfl rfl (Nat.le_of_ble_eq_true rfl) ⟨Nat.zero_le _, Nat.zero_le _⟩ dX1_through_5 ?_
  refine wr_callSv (rest := []) S (w_J7_fill_6 l D cT _ c pa bd a6 a7 n ro cl fb rn nd sk mo wk fx wi la da we V V2 PR 9223372036854775807 (hwf)) gX1_through_J7_fill_d0a16 rfl pd_J7_fill_d0a16 ⟨rfl, rfl, Nat.le_of_ble_eq_true rfl, Nat.le_of_ble_eq_true rfl⟩ hP hK hD hS hA hl rfl rfl (Nat.le_of_ble_eq_true rfl) ⟨Nat.zero_le _, Nat.zero_le _⟩ dX1_through_8 (fun u_ H locs hr_ hP hD hS => ?_)
  have hP : va_P D vwCl (cX cT c a6 a7 n ro cl fb rn nd (fun _ => 9223372036854775807) V2 PR pa ++ pool n pa (per sk mo wk fx wi la da we)) H := hP
  have hD : va_D A (cX cT c a6 a7 n ro cl fb rn nd (fun _ => 9223372036854775807) V2 PR pa ++ pool n pa (per sk mo wk fx wi la da we)) := hD
  refine lv_iconst (v := (nI 0)) S.1 S.2.1 dX1_through_11 (by decide) ?_
  refine lv_aload_n S.1 S.2.1 dX1_through_12 rfl (lv_at hl 1 rfl) ?_
  refine g_getN (C := RX4) (T := TX4) (N := 8) (v := .int (nI (da i))) S _ 3 6 in_X1_through_X4 hK hP (pool_at (by omega)) rfl (by decide) (List.mem_of_getElem? (i := 13) rfl) rfl dX1_through_13 ?_
  refine lv_bipush (v := (nI 14)) S.1 S.2.1 dX1_through_16 (by decide) ?_
  refine va_mmin S.1 S.2.1 (S.2.2.1.trans hl.1.symm) S.2.2.2.1 (S.2.2.2.2 _ w_X1_through_1) (S.2.2.2.2 _ w_X1_through_2) (S.2.2.2.2 _ w_X1_through_3) (S.2.2.2.2 _ w_X1_through_4) (Nat.le_of_ble_eq_true rfl) (Nat.le_of_ble_eq_true rfl) (Nat.zero_le _) (Nat.zero_le _) dX1_through_18 ?_
  refine n_top (show (if (nI 14) < (nI (da i)) then (nI 14) else (nI (da i))) = (nI (min (da i) 14)) from min_I (by omega)) ?_
  refine lv_aload_n S.1 S.2.1 dX1_through_21 rfl (lv_at hl 1 rfl) ?_
  refine g_getN (C := RX4) (T := TX4) (N := 8) (v := .int (nI (la i))) S _ 3 5 in_X1_through_X4 hK hP (pool_at (by omega)) rfl (by decide) (List.mem_of_getElem? (i := 12) rfl) rfl dX1_through_22 ?_
  refine rd_callS (rest := []) S (r_X1_placeOf l D cT 0 (min (da i) 14) (la i) ) gX1_through_X1_placeOf rfl pd_X1_placeOf ⟨rfl, rfl, Nat.le_of_ble_eq_true rfl, Nat.le_of_ble_eq_true rfl⟩ (sx_P0 D _) hK hl rfl rfl (Nat.le_of_ble_eq_true rfl) ⟨Nat.zero_le _, Nat.zero_le _⟩ dX1_through_25 ?_
  refine lv_istore (lv' := [(4, .int (nI (pl4 0 (min (da i) 14) (la i)))), (0, .ref (c 5)), (1, .ref (pa i)), (2, .ref (c 4)), (3, .ref (c 9))]) S.1 S.2.1 dX1_through_28 hl (by decide) rfl (fun ls hl => ?_)
  refine lv_iload S.1 S.2.1 dX1_through_30 (lv_at hl 0 rfl) ?_
  refine n_zlt S (tgt := 56) (by omega) dX1_through_32 (by decide) ?_
  refine lv_iload S.1 S.2.1 dX1_through_35 (lv_at hl 0 rfl) ?_
  refine lv_aload_n S.1 S.2.1 dX1_through_37 rfl (lv_at hl 1 rfl) ?_
  refine g_get (C := RX1) (T := TX1) (N := 2) (v := .ref a6) S 5 1 0 in_X1_through_X1 hK hP rfl rfl (by decide) w_X1_through_0 rfl dX1_through_38 ?_
  refine g_alen S 6 1 hK hP rfl rfl dX1_through_41 ?_
  refine n_cge S (tgt := 56) (by omega) dX1_through_42 (by decide) (fun c42 => ?_) (fun c42 => ?_)
  · exact absurd c42 (by omega)
  refine lv_aload_n S.1 S.2.1 dX1_through_45 rfl (lv_at hl 1 rfl) ?_
  refine g_get (C := RX1) (T := TX1) (N := 2) (v := .ref a6) S 5 1 0 in_X1_through_X1 hK hP rfl rfl (by decide) w_X1_through_0 rfl dX1_through_46 ?_
  refine lv_iload S.1 S.2.1 dX1_through_49 (lv_at hl 0 rfl) ?_
  refine lv_aload_n S.1 S.2.1 dX1_through_51 rfl (lv_at hl 4 rfl) ?_
  refine rd_callUl (x := ⟨"CoverSheet$Measure", "start", "()J"⟩) (owner := "CoverSheet$Measure") (n := 0) (rest := [.int (nI (pl4 0 (min (da i) 14) (la i))), .ref a6]) S (r_X5_start l D cT (c 9) (c 10) ) gX1_through_X5_start_u49X5 rfl (List.mem_of_getElem? (i := 18) rfl) (by decide +kernel) ⟨rfl, rfl, Nat.le_of_ble_eq_true rfl, Nat.le_of_ble_eq_true rfl⟩ (hP.sub (ws' := [(c 9, .inr (4, [.ref (c 10)]))]) [9] rfl) hK (va_recv hK.1 hP (ci := 4) (q0 := 9) rfl rfl) hl rfl rfl (Nat.le_of_ble_eq_true rfl) ⟨Nat.zero_le _, Nat.zero_le _⟩ dX1_through_52 ?_
  refine w_last S 6 hK hP hD hS rfl (by omega) dX1_through_55 (fun H locs hP hD hS => ?_)
  have hP : va_P D vwCl (cX cT c a6 a7 n ro cl fb rn nd (vp_updL (fun _ => 9223372036854775807) (pl4 0 (min (da i) 14) (la i)) 0) V2 PR pa ++ pool n pa (per sk mo wk fx wi la da we)) H := hP
  have hD : va_D A (cX cT c a6 a7 n ro cl fb rn nd (vp_updL (fun _ => 9223372036854775807) (pl4 0 (min (da i) 14) (la i)) 0) V2 PR pa ++ pool n pa (per sk mo wk fx wi la da we)) := hD
  refine lv_iconst (v := (nI 0)) S.1 S.2.1 dX1_through_56 (by decide) ?_
  refine lv_istore (lv' := [(5, .int (nI 0)), (4, .int (nI (pl4 0 (min (da i) 14) (la i)))), (0, .ref (c 5)), (1, .ref (pa i)), (2, .ref (c 4)), (3, .ref (c 9))]) S.1 S.2.1 dX1_through_57 hl (by decide) rfl (fun ls hl => ?_)
  have lp59 : ∀ (fu : Nat) (x6 : Nat) (x7 : Nat) (V1 : Nat → Int64) (W1 : Nat → Int64) (d : Nat), (d ≤ 7) → (V1 = dpV (okp (sk i) (mo i) (fx i) fb rn) (fun d v e => v + PR (d * 4 + e)) (fun a b => if b < a then b else a) 9223372036854775807 0 (pl4 0 (min (da i) 14) (la i)) d) → (7 - d) < fu → ∀ (H : Heap) (locs : List Loc), va_P D vwCl (cX cT c x6 x7 n ro cl fb rn nd V1 W1 PR pa ++ pool n pa (per sk mo wk fx wi la da we)) H → va_D A (cX cT c x6 x7 n ro cl fb rn nd V1 W1 PR pa ++ pool n pa (per sk mo wk fx wi la da we)) → va_S A s0.heap H locs → ∀ ls : Array Slot, lv_has ls 12 [(0, .ref (c 5)), (1, .ref (pa i)), (2, .ref (c 4)), (3, .ref (c 9)), (5, .int (nI d))] → W p0 l e0 ({ frames := 3, cells := 0, slots := 0, locals := 82 } : Room) s0 m0 a0 b0 t0 c0 H locs 0 0 (MQ b0 (wQl (fun (r_ : Int64) (_ : Nat × Nat × (Nat → Int64) × (Nat → Int64)) => r_ = thP (sk i) (mo i) (fx i) fb rn (da i) (la i) PR) D (fun (u_ : Nat × Nat × (Nat → Int64) × (Nat → Int64)) => cX cT c u_.1 u_.2.1 n ro cl fb rn nd u_.2.2.1 u_.2.2.2 PR pa ++ pool n pa (per sk mo wk fx wi la da we)) A) a0 s0 0 0 A) (F0 m0 59 ls []) := by
    intro fu
    induction fu with
    | zero =>
      intro x6 x7 V1 W1 d h2 hV1 hm
      exact absurd hm (Nat.not_lt_zero _)
    | succ fu ih59 =>
      intro x6 x7 V1 W1 d h2 hV1 hm H locs hP hD hS ls hl
      refine lv_iload S.1 S.2.1 dX1_through_59 (lv_at hl 4 rfl) ?_
      refine lv_bipush (v := (nI 7)) S.1 S.2.1 dX1_through_61 (by decide) ?_
      refine n_cge S (tgt := 81) (by omega) dX1_through_63 (by decide) (fun c63 => ?_) (fun c63 => ?_)
      · refine lv_aload_n S.1 S.2.1 dX1_through_81 rfl (lv_at hl 3 rfl) ?_
        refine rd_callUl (x := ⟨"CoverSheet$Measure", "none", "()J"⟩) (owner := "CoverSheet$Measure") (n := 0) (rest := []) S (r_X5_none l D cT (c 9) (c 10) ) gX1_through_X5_none_u18X5 rfl (List.mem_of_getElem? (i := 17) rfl) (by decide +kernel) ⟨rfl, rfl, Nat.le_of_ble_eq_true rfl, Nat.le_of_ble_eq_true rfl⟩ (hP.sub (ws' := [(c 9, .inr (4, [.ref (c 10)]))]) [9] rfl) hK (va_recv hK.1 hP (ci := 4) (q0 := 9) rfl rfl) hl rfl rfl (Nat.le_of_ble_eq_true rfl) ⟨Nat.zero_le _, Nat.zero_le _⟩ dX1_through_82 ?_
        refine lv_lstore (lv' := [(5, .long 9223372036854775807), (0, .ref (c 5)), (1, .ref (pa i)), (2, .ref (c 4)), (3, .ref (c 9))]) S.1 S.2.1 dX1_through_85 hl (by decide) rfl (fun ls hl => ?_)
        refine lv_aload_n S.1 S.2.1 dX1_through_87 rfl (lv_at hl 1 rfl) ?_
        refine g_get (C := RX1) (T := TX1) (N := 2) (v := .ref x6) S 5 1 0 in_X1_through_X1 hK hP rfl rfl (by decide) w_X1_through_0 rfl dX1_through_88 ?_
        refine lv_astore (lv' := [(7, .ref x6), (5, .long 9223372036854775807), (0, .ref (c 5)), (1, .ref (pa i)), (2, .ref (c 4)), (3, .ref (c 9))]) S.1 S.2.1 dX1_through_91 hl (by decide) rfl (fun ls hl => ?_)
        refine lv_aload S.1 S.2.1 dX1_through_93 (lv_at hl 0 rfl) ?_
        refine g_alen S 6 1 hK hP rfl rfl dX1_through_95 ?_
        refine lv_istore (lv' := [(8, .int (nI 480)), (7, .ref x6), (5, .long 9223372036854775807), (0, .ref (c 5)), (1, .ref (pa i)), (2, .ref (c 4)), (3, .ref (c 9))]) S.1 S.2.1 dX1_through_96 hl (by decide) rfl (fun ls hl => ?_)
        refine lv_iconst (v := (nI 0)) S.1 S.2.1 dX1_through_98 (by decide) ?_
        refine lv_istore (lv' := [(9, .int (nI 0)), (8, .int (nI 480)), (7, .ref x6), (5, .long 9223372036854775807), (0, .ref (c 5)), (1, .ref (pa i)), (2, .ref (c 4)), (3, .ref (c 9))]) S.1 S.2.1 dX1_through_99 hl (by decide) rfl (fun ls hl => ?_)
        have lp101 : ∀ (fu : Nat) (a : Int64) (k : Nat), (k ≤ 480) → (a = jf (fun a b => if b < a then b else a) 9223372036854775807 V1 k) → (480 - k) < fu → ∀ (H : Heap) (locs : List Loc), va_P D vwCl (cX cT c x6 x7 n ro cl fb rn nd V1 W1 PR pa ++ pool n pa (per sk mo wk fx wi la da we)) H → va_D A (cX cT c x6 x7 n ro cl fb rn nd V1 W1 PR pa ++ pool n pa (per sk mo wk fx wi la da we)) → va_S A s0.heap H locs → ∀ ls : Array Slot, lv_has ls 12 [(3, .ref (c 9)), (5, .long a), (7, .ref x6), (8, .int (nI 480)), (9, .int (nI k))] → W p0 l e0 ({ frames := 3, cells := 0, slots := 0, locals := 82 } : Room) s0 m0 a0 b0 t0 c0 H locs 0 0 (MQ b0 (wQl (fun (r_ : Int64) (_ : Nat × Nat × (Nat → Int64) × (Nat → Int64)) => r_ = thP (sk i) (mo i) (fx i) fb rn (da i) (la i) PR) D (fun (u_ : Nat × Nat × (Nat → Int64) × (Nat → Int64)) => cX cT c u_.1 u_.2.1 n ro cl fb rn nd u_.2.2.1 u_.2.2.2 PR pa ++ pool n pa (per sk mo wk fx wi la da we)) A) a0 s0 0 0 A) (F0 m0 101 ls []) := by
          intro fu
          induction fu with
          | zero =>
            intro a k h3 ha hm
            exact absurd hm (Nat.not_lt_zero _)
          | succ fu ih101 =>
            intro a k h3 ha hm H locs hP hD hS ls hl
            refine lv_iload S.1 S.2.1 dX1_through_101 (lv_at hl 4 rfl) ?_
            refine lv_iload S.1 S.2.1 dX1_through_103 (lv_at hl 3 rfl) ?_
            refine n_cge S (tgt := 131) (by omega) dX1_through_105 (by decide) (fun c105 => ?_) (fun c105 => ?_)
            · refine lv_lload S.1 S.2.1 dX1_through_131 (lv_at hl 1 rfl) ?_
              exact wr_lret S ((x6, x7, V1, W1)) hr hlocks (by rw [ha, show k = 480 by omega, hV1, show d = 7 by omega]; exact (hid_eq _).symm) (hP) (hD) hS dX1_through_133
            · refine lv_aload S.1 S.2.1 dX1_through_108 (lv_at hl 2 rfl) ?_
              refine lv_iload S.1 S.2.1 dX1_through_110 (lv_at hl 4 rfl) ?_
              refine g_lald S 6 hK hP rfl (by omega) dX1_through_112 ?_
              refine lv_lstore (lv' := [(10, .long (V1 k)), (3, .ref (c 9)), (5, .long a), (7, .ref x6), (8, .int (nI 480)), (9, .int (nI k))]) S.1 S.2.1 dX1_through_113 hl (by decide) rfl (fun ls hl => ?_)
              refine lv_aload_n S.1 S.2.1 dX1_through_115 rfl (lv_at hl 1 rfl) ?_
              refine lv_lload S.1 S.2.1 dX1_through_116 (lv_at hl 2 rfl) ?_
              refine lv_lload S.1 S.2.1 dX1_through_118 (lv_at hl 0 rfl) ?_
              refine rd_callUl (x := ⟨"CoverSheet$Measure", "joined", "(JJ)J"⟩) (owner := "CoverSheet$Measure") (n := 2) (rest := []) S (r_X5_joined l D cT (c 9) (c 10) a (V1 k) ) gX1_through_X5_joined_u56X5 rfl (List.mem_of_getElem? (i := 20) rfl) (by decide +kernel) ⟨rfl, rfl, Nat.le_of_ble_eq_true rfl, Nat.le_of_ble_eq_true rfl⟩ (hP.sub (ws' := [(c 9, .inr (4, [.ref (c 10)]))]) [9] rfl) hK (va_recv hK.1 hP (ci := 4) (q0 := 9) rfl rfl) hl rfl rfl (Nat.le_of_ble_eq_true rfl) ⟨Nat.zero_le _, Nat.zero_le _⟩ dX1_through_120 ?_
              refine lv_lstore (lv' := [(5, .long (if (V1 k) < a then (V1 k) else a)), (10, .long (V1 k)), (3, .ref (c 9)), (7, .ref x6), (8, .int (nI 480)), (9, .int (nI k))]) S.1 S.2.1 dX1_through_123 hl (by decide) rfl (fun ls hl => ?_)
              refine lv_iinc (v := (nI (k + 1))) (lv' := [(9, .int (nI (k + 1))), (5, .long (if (V1 k) < a then (V1 k) else a)), (10, .long (V1 k)), (3, .ref (c 9)), (7, .ref x6), (8, .int (nI 480))]) S.1 S.2.1 dX1_through_125 hl (k := 5) rfl (nI_1 _) (by decide) rfl (fun ls hl => ?_)
              refine lv_goto (tgt := 101) S.1 S.2.1 dX1_through_128 (by decide) ?_
              exact ih101 (if (V1 k) < a then (V1 k) else a) (k + 1) (by omega) (by rw [ha]; rfl) (by omega) _ _ hP hD hS ls (lv_sub hl [3, 1, 4, 5, 0] rfl)
        exact lp101 _ 9223372036854775807 0 (Nat.zero_le _) (rfl) (Nat.lt_succ_self _) _ _ hP hD hS ls (lv_sub hl [7, 3, 2, 1, 0] rfl)
      · refine lv_aload_n S.1 S.2.1 dX1_through_66 rfl (lv_at hl 0 rfl) ?_
        refine lv_aload_n S.1 S.2.1 dX1_through_67 rfl (lv_at hl 1 rfl) ?_
        refine lv_aload_n S.1 S.2.1 dX1_through_68 rfl (lv_at hl 2 rfl) ?_
        refine lv_aload_n S.1 S.2.1 dX1_through_69 rfl (lv_at hl 3 rfl) ?_
        refine lv_iload S.1 S.2.1 dX1_through_70 (lv_at hl 4 rfl) ?_
        refine wr_callVv (rest := []) S (w_X1_goOn_X5 l D cT _ c pa bd x6 x7 n ro cl fb rn nd sk mo wk fx wi la da we V1 W1 PR i d (hwf) (hi) (by omega)) gX1_through_X1_goOn rfl pd_X1_goOn ⟨rfl, rfl, Nat.le_of_ble_eq_true rfl, Nat.le_of_ble_eq_true rfl⟩ hP hK hD hS hA (va_recv hK.1 hP (ci := 1) (q0 := 5) rfl rfl) hl rfl rfl (Nat.le_of_ble_eq_true rfl) ⟨Nat.zero_le _, Nat.zero_le _⟩ dX1_through_72 (fun u_ H locs hr_ hP hD hS => ?_)
        have hP : va_P D vwCl (cX cT c x7 x6 n ro cl fb rn nd (goP (okp (sk i) (mo i) (fx i) fb rn d) (fun v e => v + PR (d * 4 + e)) (fun a b => if b < a then b else a) 9223372036854775807 V1 480) V1 PR pa ++ pool n pa (per sk mo wk fx wi la da we)) H := hP
        have hD : va_D A (cX cT c x7 x6 n ro cl fb rn nd (goP (okp (sk i) (mo i) (fx i) fb rn d) (fun v e => v + PR (d * 4 + e)) (fun a b => if b < a then b else a) 9223372036854775807 V1 480) V1 PR pa ++ pool n pa (per sk mo wk fx wi la da we)) := hD
        refine lv_iinc (v := (nI (d + 1))) (lv' := [(5, .int (nI (d + 1))), (0, .ref (c 5)), (1, .ref (pa i)), (2, .ref (c 4)), (3, .ref (c 9))]) S.1 S.2.1 dX1_through_75 hl (k := 4) rfl (nI_1 _) (by decide) rfl (fun ls hl => ?_)
        refine lv_goto (tgt := 59) S.1 S.2.1 dX1_through_78 (by decide) ?_
        exact ih59 x7 x6 (goP (okp (sk i) (mo i) (fx i) fb rn d) (fun v e => v + PR (d * 4 + e)) (fun a b => if b < a then b else a) 9223372036854775807 V1 480) V1 (d + 1) (by omega) (by rw [hV1]; rfl) (by omega) _ _ hP hD hS ls (lv_sub hl [1, 2, 3, 4, 0] rfl)
  exact lp59 _ a6 a7 (vp_updL (fun _ => 9223372036854775807) (pl4 0 (min (da i) 14) (la i)) 0) V2 0 (Nat.zero_le _) (rfl) (Nat.lt_succ_self _) _ _ hP hD hS ls (lv_sub hl [2, 3, 4, 5, 0] rfl)

set_option maxHeartbeats 4000000 in
set_option maxRecDepth 100000 in
theorem w_X1_through_X0 (l : Launch) (D : va_G) (cT : ClassId × ClassId × ClassId) (sz : Nat) (c pa : Nat → Nat) (bd a6 a7 n ro cl fb rn : Nat) (nd sk mo wk fx wi la da we : Nat → Nat) (V V2 PR : Nat → Int64) (i : Nat) (hwf : wfC n bd fb rn nd sk mo wk fx wi la da we) (hi : i < n) : Met l yX1_through wsX1_through ({ frames := 3, cells := 0, slots := 0, locals := 79 } : Room) (va_Pc [.ref (c 5), .ref (pa i), .ref (c 4), .ref (c 8)] (wr_R D (TY cT) (cX cT c a6 a7 n ro cl fb rn nd V V2 PR pa ++ pool n pa (per sk mo wk fx wi la da we)) sz)) (wQl (fun (r_ : Int64) (_ : Nat × Nat × (Nat → Int64) × (Nat → Int64)) => r_ = thC (sk i) (mo i) (fx i) fb rn (da i) (la i)) D (fun (u_ : Nat × Nat × (Nat → Int64) × (Nat → Int64)) => cX cT c u_.1 u_.2.1 n ro cl fb rn nd u_.2.2.1 u_.2.2.2 PR pa ++ pool n pa (per sk mo wk fx wi la da we)) (va_A (cX cT c a6 a7 n ro cl fb rn nd V V2 PR pa ++ pool n pa (per sk mo wk fx wi la da we)) sz)) 0 0 (va_A (cX cT c a6 a7 n ro cl fb rn nd V V2 PR pa ++ pool n pa (per sk mo wk fx wi la da we)) sz) := by
  refine wr_start (cc := cX1_through) (maxL := 12) (ret := (some .long)) RX1 ⟨by decide +kernel, rfl⟩ rfl (Nat.le_of_ble_eq_true rfl) ?_
  intro p0 e0 s0 m0 a0 b0 t0 c0 S hr hlocks hin hP hK hA hD hS ls hl
  generalize va_A (cX cT c a6 a7 n ro cl fb rn nd V V2 PR pa ++ pool n pa (per sk mo wk fx wi la da we)) sz = A at hA hD hS ⊢
  have hl : lv_has ls 12 [(0, .ref (c 5)), (1, .ref (pa i)), (2, .ref (c 4)), (3, .ref (c 8))] := hl
  obtain ⟨hn, hcl, hfb, hrn, hnd, hper⟩ := id hwf
  have hpi := hper i
  have hfl := pl4_lt (da := da i) hpi.2.2.2.2.2.1
  refine lv_aload_n S.1 S.2.1 dX1_through_0 rfl (lv_at hl 0 rfl) ?_
  refine g_get (C := RX1) (T := TX1) (N := 2) (v := .ref a6) S 5 1 0 in_X1_through_X1 hK hP rfl rfl (by decide) w_X1_through_0 rfl dX1_through_1 ?_
  refine lv_aload_n S.1 S.2.1 dX1_through_4 rfl (lv_at hl 3 rfl) ?_
  refine rd_callUl (x := ⟨"CoverSheet$Measure", "none", "()J"⟩) (owner := "CoverSheet$Measure") (n := 0) (rest := [.ref a6]) S (r_X0_none l D cT (c 8) ) gX1_through_X0_none_u18X0 rfl (List.mem_of_getElem? (i := 17) rfl) (by decide +kernel) ⟨rfl, rfl, Nat.le_of_ble_eq_true rfl, Nat.le_of_ble_eq_true rfl⟩ (hP.sub (ws' := [(c 8, .inr (0, []))]) [8] rfl) hK (va_recv hK.1 hP (ci := 0) (q0 := 8) rfl rfl) hl rfl rfl (Nat.le_of_ble_eq_true rfl) ⟨Nat.zero_le _, Nat.zero_le _⟩ dX1_through_5 ?_
  refine wr_callSv (rest := []) S (w_J7_fill_6 l D cT _ c pa bd a6 a7 n ro cl fb rn nd sk mo wk fx wi la da we V V2 PR 0 (hwf)) gX1_through_J7_fill_d0a16 rfl pd_J7_fill_d0a16 ⟨rfl, rfl, Nat.le_of_ble_eq_true rfl, Nat.le_of_ble_eq_true rfl⟩ hP hK hD hS hA hl rfl rfl (Nat.le_of_ble_eq_true rfl) ⟨Nat.zero_le _, Nat.zero_le _⟩ dX1_through_8 (fun u_ H locs hr_ hP hD hS => ?_)
  have hP : va_P D vwCl (cX cT c a6 a7 n ro cl fb rn nd (fun _ => 0) V2 PR pa ++ pool n pa (per sk mo wk fx wi la da we)) H := hP
  have hD : va_D A (cX cT c a6 a7 n ro cl fb rn nd (fun _ => 0) V2 PR pa ++ pool n pa (per sk mo wk fx wi la da we)) := hD
  refine lv_iconst (v := (nI 0)) S.1 S.2.1 dX1_through_11 (by decide) ?_
  refine lv_aload_n S.1 S.2.1 dX1_through_12 rfl (lv_at hl 1 rfl) ?_
  refine g_getN (C := RX4) (T := TX4) (N := 8) (v := .int (nI (da i))) S _ 3 6 in_X1_through_X4 hK hP (pool_at (by omega)) rfl (by decide) (List.mem_of_getElem? (i := 13) rfl) rfl dX1_through_13 ?_
  refine lv_bipush (v := (nI 14)) S.1 S.2.1 dX1_through_16 (by decide) ?_
  refine va_mmin S.1 S.2.1 (S.2.2.1.trans hl.1.symm) S.2.2.2.1 (S.2.2.2.2 _ w_X1_through_1) (S.2.2.2.2 _ w_X1_through_2) (S.2.2.2.2 _ w_X1_through_3) (S.2.2.2.2 _ w_X1_through_4) (Nat.le_of_ble_eq_true rfl) (Nat.le_of_ble_eq_true rfl) (Nat.zero_le _) (Nat.zero_le _) dX1_through_18 ?_
  refine n_top (show (if (nI 14) < (nI (da i)) then (nI 14) else (nI (da i))) = (nI (min (da i) 14)) from min_I (by omega)) ?_
  refine lv_aload_n S.1 S.2.1 dX1_through_21 rfl (lv_at hl 1 rfl) ?_
  refine g_getN (C := RX4) (T := TX4) (N := 8) (v := .int (nI (la i))) S _ 3 5 in_X1_through_X4 hK hP (pool_at (by omega)) rfl (by decide) (List.mem_of_getElem? (i := 12) rfl) rfl dX1_through_22 ?_
  refine rd_callS (rest := []) S (r_X1_placeOf l D cT 0 (min (da i) 14) (la i) ) gX1_through_X1_placeOf rfl pd_X1_placeOf ⟨rfl, rfl, Nat.le_of_ble_eq_true rfl, Nat.le_of_ble_eq_true rfl⟩ (sx_P0 D _) hK hl rfl rfl (Nat.le_of_ble_eq_true rfl) ⟨Nat.zero_le _, Nat.zero_le _⟩ dX1_through_25 ?_
  refine lv_istore (lv' := [(4, .int (nI (pl4 0 (min (da i) 14) (la i)))), (0, .ref (c 5)), (1, .ref (pa i)), (2, .ref (c 4)), (3, .ref (c 8))]) S.1 S.2.1 dX1_through_28 hl (by decide) rfl (fun ls hl => ?_)
  refine lv_iload S.1 S.2.1 dX1_through_30 (lv_at hl 0 rfl) ?_
  refine n_zlt S (tgt := 56) (by omega) dX1_through_32 (by decide) ?_
  refine lv_iload S.1 S.2.1 dX1_through_35 (lv_at hl 0 rfl) ?_
  refine lv_aload_n S.1 S.2.1 dX1_through_37 rfl (lv_at hl 1 rfl) ?_
  refine g_get (C := RX1) (T := TX1) (N := 2) (v := .ref a6) S 5 1 0 in_X1_through_X1 hK hP rfl rfl (by decide) w_X1_through_0 rfl dX1_through_38 ?_
  refine g_alen S 6 1 hK hP rfl rfl dX1_through_41 ?_
  refine n_cge S (tgt := 56) (by omega) dX1_through_42 (by decide) (fun c42 => ?_) (fun c42 => ?_)
  · exact absurd c42 (by omega)
  refine lv_aload_n S.1 S.2.1 dX1_through_45 rfl (lv_at hl 1 rfl) ?_
  refine g_get (C := RX1) (T := TX1) (N := 2) (v := .ref a6) S 5 1 0 in_X1_through_X1 hK hP rfl rfl (by decide) w_X1_through_0 rfl dX1_through_46 ?_
  refine lv_iload S.1 S.2.1 dX1_through_49 (lv_at hl 0 rfl) ?_
  refine lv_aload_n S.1 S.2.1 dX1_through_51 rfl (lv_at hl 4 rfl) ?_
  refine rd_callUl (x := ⟨"CoverSheet$Measure", "start", "()J"⟩) (owner := "CoverSheet$Measure") (n := 0) (rest := [.int (nI (pl4 0 (min (da i) 14) (la i))), .ref a6]) S (r_X0_start l D cT (c 8) ) gX1_through_X0_start_u49X0 rfl (List.mem_of_getElem? (i := 18) rfl) (by decide +kernel) ⟨rfl, rfl, Nat.le_of_ble_eq_true rfl, Nat.le_of_ble_eq_true rfl⟩ (hP.sub (ws' := [(c 8, .inr (0, []))]) [8] rfl) hK (va_recv hK.1 hP (ci := 0) (q0 := 8) rfl rfl) hl rfl rfl (Nat.le_of_ble_eq_true rfl) ⟨Nat.zero_le _, Nat.zero_le _⟩ dX1_through_52 ?_
  refine w_last S 6 hK hP hD hS rfl (by omega) dX1_through_55 (fun H locs hP hD hS => ?_)
  have hP : va_P D vwCl (cX cT c a6 a7 n ro cl fb rn nd (vp_updL (fun _ => 0) (pl4 0 (min (da i) 14) (la i)) 1) V2 PR pa ++ pool n pa (per sk mo wk fx wi la da we)) H := hP
  have hD : va_D A (cX cT c a6 a7 n ro cl fb rn nd (vp_updL (fun _ => 0) (pl4 0 (min (da i) 14) (la i)) 1) V2 PR pa ++ pool n pa (per sk mo wk fx wi la da we)) := hD
  refine lv_iconst (v := (nI 0)) S.1 S.2.1 dX1_through_56 (by decide) ?_
  refine lv_istore (lv' := [(5, .int (nI 0)), (4, .int (nI (pl4 0 (min (da i) 14) (la i)))), (0, .ref (c 5)), (1, .ref (pa i)), (2, .ref (c 4)), (3, .ref (c 8))]) S.1 S.2.1 dX1_through_57 hl (by decide) rfl (fun ls hl => ?_)
  have lp59 : ∀ (fu : Nat) (x6 : Nat) (x7 : Nat) (V1 : Nat → Int64) (W1 : Nat → Int64) (d : Nat), (d ≤ 7) → (V1 = dpV (okp (sk i) (mo i) (fx i) fb rn) (fun _ v _ => v) (fun a b => a + b) 0 1 (pl4 0 (min (da i) 14) (la i)) d) → (7 - d) < fu → ∀ (H : Heap) (locs : List Loc), va_P D vwCl (cX cT c x6 x7 n ro cl fb rn nd V1 W1 PR pa ++ pool n pa (per sk mo wk fx wi la da we)) H → va_D A (cX cT c x6 x7 n ro cl fb rn nd V1 W1 PR pa ++ pool n pa (per sk mo wk fx wi la da we)) → va_S A s0.heap H locs → ∀ ls : Array Slot, lv_has ls 12 [(0, .ref (c 5)), (1, .ref (pa i)), (2, .ref (c 4)), (3, .ref (c 8)), (5, .int (nI d))] → W p0 l e0 ({ frames := 3, cells := 0, slots := 0, locals := 79 } : Room) s0 m0 a0 b0 t0 c0 H locs 0 0 (MQ b0 (wQl (fun (r_ : Int64) (_ : Nat × Nat × (Nat → Int64) × (Nat → Int64)) => r_ = thC (sk i) (mo i) (fx i) fb rn (da i) (la i)) D (fun (u_ : Nat × Nat × (Nat → Int64) × (Nat → Int64)) => cX cT c u_.1 u_.2.1 n ro cl fb rn nd u_.2.2.1 u_.2.2.2 PR pa ++ pool n pa (per sk mo wk fx wi la da we)) A) a0 s0 0 0 A) (F0 m0 59 ls []) := by
    intro fu
    induction fu with
    | zero =>
      intro x6 x7 V1 W1 d h2 hV1 hm
      exact absurd hm (Nat.not_lt_zero _)
    | succ fu ih59 =>
      intro x6 x7 V1 W1 d h2 hV1 hm H locs hP hD hS ls hl
      refine lv_iload S.1 S.2.1 dX1_through_59 (lv_at hl 4 rfl) ?_
      refine lv_bipush (v := (nI 7)) S.1 S.2.1 dX1_through_61 (by decide) ?_
      refine n_cge S (tgt := 81) (by omega) dX1_through_63 (by decide) (fun c63 => ?_) (fun c63 => ?_)
      · refine lv_aload_n S.1 S.2.1 dX1_through_81 rfl (lv_at hl 3 rfl) ?_
        refine rd_callUl (x := ⟨"CoverSheet$Measure", "none", "()J"⟩) (owner := "CoverSheet$Measure") (n := 0) (rest := []) S (r_X0_none l D cT (c 8) ) gX1_through_X0_none_u18X0 rfl (List.mem_of_getElem? (i := 17) rfl) (by decide +kernel) ⟨rfl, rfl, Nat.le_of_ble_eq_true rfl, Nat.le_of_ble_eq_true rfl⟩ (hP.sub (ws' := [(c 8, .inr (0, []))]) [8] rfl) hK (va_recv hK.1 hP (ci := 0) (q0 := 8) rfl rfl) hl rfl rfl (Nat.le_of_ble_eq_true rfl) ⟨Nat.zero_le _, Nat.zero_le _⟩ dX1_through_82 ?_
        refine lv_lstore (lv' := [(5, .long 0), (0, .ref (c 5)), (1, .ref (pa i)), (2, .ref (c 4)), (3, .ref (c 8))]) S.1 S.2.1 dX1_through_85 hl (by decide) rfl (fun ls hl => ?_)
        refine lv_aload_n S.1 S.2.1 dX1_through_87 rfl (lv_at hl 1 rfl) ?_
        refine g_get (C := RX1) (T := TX1) (N := 2) (v := .ref x6) S 5 1 0 in_X1_through_X1 hK hP rfl rfl (by decide) w_X1_through_0 rfl dX1_through_88 ?_
        refine lv_astore (lv' := [(7, .ref x6), (5, .long 0), (0, .ref (c 5)), (1, .ref (pa i)), (2, .ref (c 4)), (3, .ref (c 8))]) S.1 S.2.1 dX1_through_91 hl (by decide) rfl (fun ls hl => ?_)
        refine lv_aload S.1 S.2.1 dX1_through_93 (lv_at hl 0 rfl) ?_
        refine g_alen S 6 1 hK hP rfl rfl dX1_through_95 ?_
        refine lv_istore (lv' := [(8, .int (nI 480)), (7, .ref x6), (5, .long 0), (0, .ref (c 5)), (1, .ref (pa i)), (2, .ref (c 4)), (3, .ref (c 8))]) S.1 S.2.1 dX1_through_96 hl (by decide) rfl (fun ls hl => ?_)
        refine lv_iconst (v := (nI 0)) S.1 S.2.1 dX1_through_98 (by decide) ?_
        refine lv_istore (lv' := [(9, .int (nI 0)), (8, .int (nI 480)), (7, .ref x6), (5, .long 0), (0, .ref (c 5)), (1, .ref (pa i)), (2, .ref (c 4)), (3, .ref (c 8))]) S.1 S.2.1 dX1_through_99 hl (by decide) rfl (fun ls hl => ?_)
        have lp101 : ∀ (fu : Nat) (a : Int64) (k : Nat), (k ≤ 480) → (a = jf (fun a b => a + b) 0 V1 k) → (480 - k) < fu → ∀ (H : Heap) (locs : List Loc), va_P D vwCl (cX cT c x6 x7 n ro cl fb rn nd V1 W1 PR pa ++ pool n pa (per sk mo wk fx wi la da we)) H → va_D A (cX cT c x6 x7 n ro cl fb rn nd V1 W1 PR pa ++ pool n pa (per sk mo wk fx wi la da we)) → va_S A s0.heap H locs → ∀ ls : Array Slot, lv_has ls 12 [(3, .ref (c 8)), (5, .long a), (7, .ref x6), (8, .int (nI 480)), (9, .int (nI k))] → W p0 l e0 ({ frames := 3, cells := 0, slots := 0, locals := 79 } : Room) s0 m0 a0 b0 t0 c0 H locs 0 0 (MQ b0 (wQl (fun (r_ : Int64) (_ : Nat × Nat × (Nat → Int64) × (Nat → Int64)) => r_ = thC (sk i) (mo i) (fx i) fb rn (da i) (la i)) D (fun (u_ : Nat × Nat × (Nat → Int64) × (Nat → Int64)) => cX cT c u_.1 u_.2.1 n ro cl fb rn nd u_.2.2.1 u_.2.2.2 PR pa ++ pool n pa (per sk mo wk fx wi la da we)) A) a0 s0 0 0 A) (F0 m0 101 ls []) := by
          intro fu
          induction fu with
          | zero =>
            intro a k h3 ha hm
            exact absurd hm (Nat.not_lt_zero _)
          | succ fu ih101 =>
            intro a k h3 ha hm H locs hP hD hS ls hl
            refine lv_iload S.1 S.2.1 dX1_through_101 (lv_at hl 4 rfl) ?_
            refine lv_iload S.1 S.2.1 dX1_through_103 (lv_at hl 3 rfl) ?_
            refine n_cge S (tgt := 131) (by omega) dX1_through_105 (by decide) (fun c105 => ?_) (fun c105 => ?_)
            · refine lv_lload S.1 S.2.1 dX1_through_131 (lv_at hl 1 rfl) ?_
              exact wr_lret S ((x6, x7, V1, W1)) hr hlocks (by rw [ha, show k = 480 by omega, hV1, show d = 7 by omega]; exact (hid_eq _).symm) (hP) (hD) hS dX1_through_133
            · refine lv_aload S.1 S.2.1 dX1_through_108 (lv_at hl 2 rfl) ?_
              refine lv_iload S.1 S.2.1 dX1_through_110 (lv_at hl 4 rfl) ?_
              refine g_lald S 6 hK hP rfl (by omega) dX1_through_112 ?_
              refine lv_lstore (lv' := [(10, .long (V1 k)), (3, .ref (c 8)), (5, .long a), (7, .ref x6), (8, .int (nI 480)), (9, .int (nI k))]) S.1 S.2.1 dX1_through_113 hl (by decide) rfl (fun ls hl => ?_)
              refine lv_aload_n S.1 S.2.1 dX1_through_115 rfl (lv_at hl 1 rfl) ?_
              refine lv_lload S.1 S.2.1 dX1_through_116 (lv_at hl 2 rfl) ?_
              refine lv_lload S.1 S.2.1 dX1_through_118 (lv_at hl 0 rfl) ?_
              refine rd_callUl (x := ⟨"CoverSheet$Measure", "joined", "(JJ)J"⟩) (owner := "CoverSheet$Measure") (n := 2) (rest := []) S (r_X0_joined l D cT (c 8) a (V1 k) ) gX1_through_X0_joined_u56X0 rfl (List.mem_of_getElem? (i := 20) rfl) (by decide +kernel) ⟨rfl, rfl, Nat.le_of_ble_eq_true rfl, Nat.le_of_ble_eq_true rfl⟩ (hP.sub (ws' := [(c 8, .inr (0, []))]) [8] rfl) hK (va_recv hK.1 hP (ci := 0) (q0 := 8) rfl rfl) hl rfl rfl (Nat.le_of_ble_eq_true rfl) ⟨Nat.zero_le _, Nat.zero_le _⟩ dX1_through_120 ?_
              refine lv_lstore (lv' := [(5, .long (a + (V1 k))), (10, .long (V1 k)), (3, .ref (c 8)), (7, .ref x6), (8, .int (nI 480)), (9, .int (nI k))]) S.1 S.2.1 dX1_through_123 hl (by decide) rfl (fun ls hl => ?_)
              refine lv_iinc (v := (nI (k + 1))) (lv' := [(9, .int (nI (k + 1))), (5, .long (a + (V1 k))), (10, .long (V1 k)), (3, .ref (c 8)), (7, .ref x6), (8, .int (nI 480))]) S.1 S.2.1 dX1_through_125 hl (k := 5) rfl (nI_1 _) (by decide) rfl (fun ls hl => ?_)
              refine lv_goto (tgt := 101) S.1 S.2.1 dX1_through_128 (by decide) ?_
              exact ih101 (a + (V1 k)) (k + 1) (by omega) (by rw [ha]; rfl) (by omega) _ _ hP hD hS ls (lv_sub hl [3, 1, 4, 5, 0] rfl)
        exact lp101 _ 0 0 (Nat.zero_le _) (rfl) (Nat.lt_succ_self _) _ _ hP hD hS ls (lv_sub hl [7, 3, 2, 1, 0] rfl)
      · refine lv_aload_n S.1 S.2.1 dX1_through_66 rfl (lv_at hl 0 rfl) ?_
        refine lv_aload_n S.1 S.2.1 dX1_through_67 rfl (lv_at hl 1 rfl) ?_
        refine lv_aload_n S.1 S.2.1 dX1_through_68 rfl (lv_at hl 2 rfl) ?_
        refine lv_aload_n S.1 S.2.1 dX1_through_69 rfl (lv_at hl 3 rfl) ?_
        refine lv_iload S.1 S.2.1 dX1_through_70 (lv_at hl 4 rfl) ?_
        refine wr_callVv (rest := []) S (w_X1_goOn_X0 l D cT _ c pa bd x6 x7 n ro cl fb rn nd sk mo wk fx wi la da we V1 W1 PR i d (hwf) (hi) (by omega)) gX1_through_X1_goOn rfl pd_X1_goOn ⟨rfl, rfl, Nat.le_of_ble_eq_true rfl, Nat.le_of_ble_eq_true rfl⟩ hP hK hD hS hA (va_recv hK.1 hP (ci := 1) (q0 := 5) rfl rfl) hl rfl rfl (Nat.le_of_ble_eq_true rfl) ⟨Nat.zero_le _, Nat.zero_le _⟩ dX1_through_72 (fun u_ H locs hr_ hP hD hS => ?_)
        have hP : va_P D vwCl (cX cT c x7 x6 n ro cl fb rn nd (goP (okp (sk i) (mo i) (fx i) fb rn d) (fun v _ => v) (fun a b => a + b) 0 V1 480) V1 PR pa ++ pool n pa (per sk mo wk fx wi la da we)) H := hP
        have hD : va_D A (cX cT c x7 x6 n ro cl fb rn nd (goP (okp (sk i) (mo i) (fx i) fb rn d) (fun v _ => v) (fun a b => a + b) 0 V1 480) V1 PR pa ++ pool n pa (per sk mo wk fx wi la da we)) := hD
        refine lv_iinc (v := (nI (d + 1))) (lv' := [(5, .int (nI (d + 1))), (0, .ref (c 5)), (1, .ref (pa i)), (2, .ref (c 4)), (3, .ref (c 8))]) S.1 S.2.1 dX1_through_75 hl (k := 4) rfl (nI_1 _) (by decide) rfl (fun ls hl => ?_)
        refine lv_goto (tgt := 59) S.1 S.2.1 dX1_through_78 (by decide) ?_
        exact ih59 x7 x6 (goP (okp (sk i) (mo i) (fx i) fb rn d) (fun v _ => v) (fun a b => a + b) 0 V1 480) V1 (d + 1) (by omega) (by rw [hV1]; rfl) (by omega) _ _ hP hD hS ls (lv_sub hl [1, 2, 3, 4, 0] rfl)
  exact lp59 _ a6 a7 (vp_updL (fun _ => 0) (pl4 0 (min (da i) 14) (la i)) 1) V2 0 (Nat.zero_le _) (rfl) (Nat.lt_succ_self _) _ _ hP hD hS ls (lv_sub hl [2, 3, 4, 5, 0] rfl)

theorem pd_X8_chosenWeek : yX8_chosenWeek.cls = RX8 ∧ yX8_chosenWeek.cls ≠ "java/lang/invoke/MethodHandle" ∧ yX8_chosenWeek.cls ≠ "java/lang/invoke/VarHandle" ∧ (parseMethodDescriptor yX8_chosenWeek.desc).map (fun d => d.parameters.length) = some 1 := by decide +kernel
theorem w_X8_chosenWeek_0 : Cond.fieldLink RX8 32 "CoverSheet" "table" "LCoverSheet$DayTable;" ∈ wsX8_chosenWeek := by decide +kernel
theorem w_X8_chosenWeek_1 : Cond.fieldLink RX8 25 "CoverSheet" "rules" "LCoverSheet$Rules;" ∈ wsX8_chosenWeek := by decide +kernel
theorem w_X8_chosenWeek_2 : Cond.fieldLink RX8 46 "CoverSheet" "pricing" "LCoverSheet$Pricing;" ∈ wsX8_chosenWeek := by decide +kernel
theorem in_X8_chosenWeek_X8 : ∀ w ∈ u_ws RX8 TX8 9, w ∈ wsX8_chosenWeek := by decide +kernel
set_option maxHeartbeats 4000000 in
set_option maxRecDepth 100000 in
theorem w_X8_chosenWeek (l : Launch) (D : va_G) (cT : ClassId × ClassId × ClassId) (sz : Nat) (c pa : Nat → Nat) (bd a6 a7 n ro cl fb rn : Nat) (nd sk mo wk fx wi la da we : Nat → Nat) (V V2 PR : Nat → Int64) (i : Nat) (hwf : wfC n bd fb rn nd sk mo wk fx wi la da we) (hi : i < n) (hinj : inj n pa) : Met l yX8_chosenWeek wsX8_chosenWeek ({ frames := 4, cells := 0, slots := 0, locals := 113 } : Room) (va_Pc [.ref (c 0), .ref (pa i)] (wr_R D (TY cT) (cX cT c a6 a7 n ro cl fb rn nd V V2 PR pa ++ pool n pa (per sk mo wk fx wi la da we)) sz)) (wQi (fun (r_ : Int32) (_ : Nat × Nat × (Nat → Int64) × (Nat → Int64) × (Nat → Int64)) => r_ = nI (cho n fb rn nd sk mo fx wi la da we wk i)) D (fun (u_ : Nat × Nat × (Nat → Int64) × (Nat → Int64) × (Nat → Int64)) => cX cT c u_.1 u_.2.1 n ro cl fb rn nd u_.2.2.1 u_.2.2.2.1 u_.2.2.2.2 pa ++ pool n pa (per sk mo wk fx wi la da we)) (va_A (cX cT c a6 a7 n ro cl fb rn nd V V2 PR pa ++ pool n pa (per sk mo wk fx wi la da we)) sz)) 0 0 (va_A (cX cT c a6 a7 n ro cl fb rn nd V V2 PR pa ++ pool n pa (per sk mo wk fx wi la da we)) sz) := by
  refine wr_start (cc := cX8_chosenWeek) (maxL := 5) (ret := (some .int)) RX8 ⟨by decide +kernel, rfl⟩ rfl (Nat.le_of_ble_eq_true rfl) ?_
  intro p0 e0 s0 m0 a0 b0 t0 c0 S hr hlocks hin hP hK hA hD hS ls hl
  generalize va_A (cX cT c a6 a7 n ro cl fb rn nd V V2 PR pa ++ pool n pa (per sk mo wk fx wi la da we)) sz = A at hA hD hS ⊢
  have hl : lv_has ls 5 [(0, .ref (c 0)), (1, .ref (pa i))] := hl
  obtain ⟨hn, hcl, hfb, hrn, hnd, hper⟩ := id hwf
  have hpi := hper i
  refine lv_iconst (v := (nI 0)) S.1 S.2.1 dX8_chosenWeek_0 (by decide) ?_
  refine lv_istore_n (lv' := [(2, .int (nI 0)), (0, .ref (c 0)), (1, .ref (pa i))]) S.1 S.2.1 dX8_chosenWeek_1 rfl hl (by decide) rfl (fun ls hl => ?_)
  have lp2 : ∀ (fu : Nat) (P1 : Nat → Int64) (d : Nat), (d ≤ 7) → (∀ j, j < 4 * d → P1 j = pT (we i) (wi i) (fif n nd wk i) j) → (7 - d) < fu → ∀ (H : Heap) (locs : List Loc), va_P D vwCl (cX cT c a6 a7 n ro cl fb rn nd V V2 P1 pa ++ pool n pa (per sk mo wk fx wi la da we)) H → va_D A (cX cT c a6 a7 n ro cl fb rn nd V V2 P1 pa ++ pool n pa (per sk mo wk fx wi la da we)) → va_S A s0.heap H locs → ∀ ls : Array Slot, lv_has ls 5 [(0, .ref (c 0)), (1, .ref (pa i)), (2, .int (nI d))] → W p0 l e0 ({ frames := 4, cells := 0, slots := 0, locals := 113 } : Room) s0 m0 a0 b0 t0 c0 H locs 0 0 (MQ b0 (wQi (fun (r_ : Int32) (_ : Nat × Nat × (Nat → Int64) × (Nat → Int64) × (Nat → Int64)) => r_ = nI (cho n fb rn nd sk mo fx wi la da we wk i)) D (fun (u_ : Nat × Nat × (Nat → Int64) × (Nat → Int64) × (Nat → Int64)) => cX cT c u_.1 u_.2.1 n ro cl fb rn nd u_.2.2.1 u_.2.2.2.1 u_.2.2.2.2 pa ++ pool n pa (per sk mo wk fx wi la da we)) A) a0 s0 0 0 A) (F0 m0 2 ls []) := by
    intro fu
    induction fu with
    | zero =>
      intro P1 d h2 hp0 hm
      exact absurd hm (Nat.not_lt_zero _)
    | succ fu ih2 =>
      intro P1 d h2 hp0 hm H locs hP hD hS ls hl
      refine lv_iload_n S.1 S.2.1 dX8_chosenWeek_2 rfl (lv_at hl 2 rfl) ?_
      refine lv_bipush (v := (nI 7)) S.1 S.2.1 dX8_chosenWeek_3 (by decide) ?_
      refine n_cge S (tgt := 65) (by omega) dX8_chosenWeek_5 (by decide) (fun c5 => ?_) (fun c5 => ?_)
      · refine lv_aload_n S.1 S.2.1 dX8_chosenWeek_65 rfl (lv_at hl 0 rfl) ?_
        refine g_get (C := RX8) (T := TX8) (N := 9) (v := .ref (c 5)) S 0 6 3 in_X8_chosenWeek_X8 hK hP rfl rfl (by decide) w_X8_chosenWeek_0 rfl dX8_chosenWeek_66 ?_
        refine lv_aload_n S.1 S.2.1 dX8_chosenWeek_69 rfl (lv_at hl 1 rfl) ?_
        refine lv_aload_n S.1 S.2.1 dX8_chosenWeek_70 rfl (lv_at hl 0 rfl) ?_
        refine g_get (C := RX8) (T := TX8) (N := 9) (v := .ref (c 4)) S 0 6 2 in_X8_chosenWeek_X8 hK hP rfl rfl (by decide) w_X8_chosenWeek_1 rfl dX8_chosenWeek_71 ?_
        refine lv_aload_n S.1 S.2.1 dX8_chosenWeek_74 rfl (lv_at hl 0 rfl) ?_
        refine g_get (C := RX8) (T := TX8) (N := 9) (v := .ref (c 9)) S 0 6 5 in_X8_chosenWeek_X8 hK hP rfl rfl (by decide) w_X8_chosenWeek_2 rfl dX8_chosenWeek_75 ?_
        refine wr_callVl (rest := []) S (w_X1_through_X5 l D cT _ c pa bd a6 a7 n ro cl fb rn nd sk mo wk fx wi la da we V V2 P1 i (hwf) (by omega)) gX8_chosenWeek_X1_through rfl pd_X1_through ⟨rfl, rfl, Nat.le_of_ble_eq_true rfl, Nat.le_of_ble_eq_true rfl⟩ hP hK hD hS hA (va_recv hK.1 hP (ci := 1) (q0 := 5) rfl rfl) hl rfl rfl (Nat.le_of_ble_eq_true rfl) ⟨Nat.zero_le _, Nat.zero_le _⟩ dX8_chosenWeek_78 (fun r_ u_ H locs hr_ hP hD hS => ?_)
        rw [show r_ = thP (sk i) (mo i) (fx i) fb rn (da i) (la i) P1 from hr_]
        have hP : va_P D vwCl (cX cT c u_.1 u_.2.1 n ro cl fb rn nd u_.2.2.1 u_.2.2.2 P1 pa ++ pool n pa (per sk mo wk fx wi la da we)) H := hP
        have hD : va_D A (cX cT c u_.1 u_.2.1 n ro cl fb rn nd u_.2.2.1 u_.2.2.2 P1 pa ++ pool n pa (per sk mo wk fx wi la da we)) := hD
        refine rd_callS (rest := []) S (r_X5_weekOf l D cT (thP (sk i) (mo i) (fx i) fb rn (da i) (la i) P1) ) gX8_chosenWeek_X5_weekOf rfl pd_X5_weekOf ⟨rfl, rfl, Nat.le_of_ble_eq_true rfl, Nat.le_of_ble_eq_true rfl⟩ (sx_P0 D _) hK hl rfl rfl (Nat.le_of_ble_eq_true rfl) ⟨Nat.zero_le _, Nat.zero_le _⟩ dX8_chosenWeek_81 ?_
        refine n_top (show (wkI (thP (sk i) (mo i) (fx i) fb rn (da i) (la i) P1)) = (nI (cho n fb rn nd sk mo fx wi la da we wk i)) from dp_price hwf hi (fun j hj => hp0 j (by omega))) ?_
        exact wr_iret S ((u_.1, u_.2.1, u_.2.2.1, u_.2.2.2, P1)) hr rfl hlocks (rfl) (hP) (hD) hS dX8_chosenWeek_84
      · refine lv_iconst (v := (nI 0)) S.1 S.2.1 dX8_chosenWeek_8 (by decide) ?_
        refine lv_istore_n (lv' := [(3, .int (nI 0)), (0, .ref (c 0)), (1, .ref (pa i)), (2, .int (nI d))]) S.1 S.2.1 dX8_chosenWeek_9 rfl hl (by decide) rfl (fun ls hl => ?_)
        have lp10 : ∀ (fu : Nat) (P2 : Nat → Int64) (e : Nat), (e ≤ 4) → (∀ j, j < 4 * d + e → P2 j = pT (we i) (wi i) (fif n nd wk i) j) → (4 - e) < fu → ∀ (H : Heap) (locs : List Loc), va_P D vwCl (cX cT c a6 a7 n ro cl fb rn nd V V2 P2 pa ++ pool n pa (per sk mo wk fx wi la da we)) H → va_D A (cX cT c a6 a7 n ro cl fb rn nd V V2 P2 pa ++ pool n pa (per sk mo wk fx wi la da we)) → va_S A s0.heap H locs → ∀ ls : Array Slot, lv_has ls 5 [(0, .ref (c 0)), (1, .ref (pa i)), (2, .int (nI d)), (3, .int (nI e))] → W p0 l e0 ({ frames := 4, cells := 0, slots := 0, locals := 113 } : Room) s0 m0 a0 b0 t0 c0 H locs 0 0 (MQ b0 (wQi (fun (r_ : Int32) (_ : Nat × Nat × (Nat → Int64) × (Nat → Int64) × (Nat → Int64)) => r_ = nI (cho n fb rn nd sk mo fx wi la da we wk i)) D (fun (u_ : Nat × Nat × (Nat → Int64) × (Nat → Int64) × (Nat → Int64)) => cX cT c u_.1 u_.2.1 n ro cl fb rn nd u_.2.2.1 u_.2.2.2.1 u_.2.2.2.2 pa ++ pool n pa (per sk mo wk fx wi la da we)) A) a0 s0 0 0 A) (F0 m0 10 ls []) := by
          intro fu
          induction fu with
          | zero =>
            intro P2 e h3 hpr hm
            exact absurd hm (Nat.not_lt_zero _)
          | succ fu ih10 =>
            intro P2 e h3 hpr hm H locs hP hD hS ls hl
            refine lv_iload_n S.1 S.2.1 dX8_chosenWeek_10 rfl (lv_at hl 3 rfl) ?_
            refine lv_iconst (v := (nI 3)) S.1 S.2.1 dX8_chosenWeek_11 (by decide) ?_
            refine n_cgt S (tgt := 59) (by omega) dX8_chosenWeek_12 (by decide) (fun c12 => ?_) (fun c12 => ?_)
            · refine lv_iinc (v := (nI (d + 1))) (lv' := [(2, .int (nI (d + 1))), (0, .ref (c 0)), (1, .ref (pa i)), (3, .int (nI e))]) S.1 S.2.1 dX8_chosenWeek_59 hl (k := 2) rfl (nI_1 _) (by decide) rfl (fun ls hl => ?_)
              refine lv_goto (tgt := 2) S.1 S.2.1 dX8_chosenWeek_62 (by decide) ?_
              exact ih2 P2 (d + 1) (by omega) (fun j hj => hpr j (by omega)) (by omega) _ _ hP hD hS ls (lv_sub hl [1, 2, 0] rfl)
            · refine lv_iload_n S.1 S.2.1 dX8_chosenWeek_15 rfl (lv_at hl 3 rfl) ?_
              refine n_zeq S (tgt := 33) (by omega) dX8_chosenWeek_16 (by decide) (fun c16 => ?_) (fun c16 => ?_)
              · refine lv_iconst (v := (nI 0)) S.1 S.2.1 dX8_chosenWeek_33 (by decide) ?_
                refine lv_istore (lv' := [(4, .int (nI 0)), (0, .ref (c 0)), (1, .ref (pa i)), (2, .int (nI d)), (3, .int (nI e))]) S.1 S.2.1 dX8_chosenWeek_34 hl (by decide) rfl (fun ls hl => ?_)
                refine lv_aload_n S.1 S.2.1 dX8_chosenWeek_36 rfl (lv_at hl 1 rfl) ?_
                refine g_get (C := RX8) (T := TX8) (N := 9) (v := .ref (c 9)) S 0 6 5 in_X8_chosenWeek_X8 hK hP rfl rfl (by decide) w_X8_chosenWeek_2 rfl dX8_chosenWeek_37 ?_
                refine lv_iload_n S.1 S.2.1 dX8_chosenWeek_40 rfl (lv_at hl 3 rfl) ?_
                refine lv_iload_n S.1 S.2.1 dX8_chosenWeek_41 rfl (lv_at hl 4 rfl) ?_
                refine lv_aload_n S.1 S.2.1 dX8_chosenWeek_42 rfl (lv_at hl 2 rfl) ?_
                refine lv_iload_n S.1 S.2.1 dX8_chosenWeek_43 rfl (lv_at hl 3 rfl) ?_
                refine lv_iload_n S.1 S.2.1 dX8_chosenWeek_44 rfl (lv_at hl 4 rfl) ?_
                refine lv_iload S.1 S.2.1 dX8_chosenWeek_45 (lv_at hl 0 rfl) ?_
                refine rd_callSl (rest := [.int (nI e), .int (nI d), .ref (c 9)]) S (r_X5_priceOf l D cT (pa i) (sk i) (mo i) (wk i) (fx i) (wi i) (la i) (da i) (we i) d e false (by omega) (by omega) (⟨by omega, by omega⟩)) gX8_chosenWeek_X5_priceOf rfl pd_X5_priceOf ⟨rfl, rfl, Nat.le_of_ble_eq_true rfl, Nat.le_of_ble_eq_true rfl⟩ (pool_one hP (by omega)) hK hl rfl rfl (Nat.le_of_ble_eq_true rfl) ⟨Nat.zero_le _, Nat.zero_le _⟩ dX8_chosenWeek_47 ?_
                refine wr_callVv (rest := []) S (r_X5_put l D cT _ c pa bd a6 a7 n ro cl fb rn nd sk mo wk fx wi la da we V V2 P2 d e (lN (priN (we i) (wi i) d e false)) (hwf) (by omega) (by omega)) gX8_chosenWeek_X5_put rfl pd_X5_put ⟨rfl, rfl, Nat.le_of_ble_eq_true rfl, Nat.le_of_ble_eq_true rfl⟩ hP hK hD hS hA (va_recv hK.1 hP (ci := 4) (q0 := 9) rfl rfl) hl rfl rfl (Nat.le_of_ble_eq_true rfl) ⟨Nat.zero_le _, Nat.zero_le _⟩ dX8_chosenWeek_50 (fun u_ H locs hr_ hP hD hS => ?_)
                have hP : va_P D vwCl (cX cT c a6 a7 n ro cl fb rn nd V V2 (vp_updL P2 (d * 4 + e) (lN (priN (we i) (wi i) d e false))) pa ++ pool n pa (per sk mo wk fx wi la da we)) H := hP
                have hD : va_D A (cX cT c a6 a7 n ro cl fb rn nd V V2 (vp_updL P2 (d * 4 + e) (lN (priN (we i) (wi i) d e false))) pa ++ pool n pa (per sk mo wk fx wi la da we)) := hD
                refine lv_iinc (v := (nI (e + 1))) (lv' := [(3, .int (nI (e + 1))), (4, .int (nI 0)), (0, .ref (c 0)), (1, .ref (pa i)), (2, .int (nI d))]) S.1 S.2.1 dX8_chosenWeek_53 hl (k := 4) rfl (nI_1 _) (by decide) rfl (fun ls hl => ?_)
                refine lv_goto (tgt := 10) S.1 S.2.1 dX8_chosenWeek_56 (by decide) ?_
                exact ih10 (vp_updL P2 (d * 4 + e) (lN (priN (we i) (wi i) d e false))) (e + 1) (by omega) (pT_s (by omega) hpr (by rw [c16]; rfl)) (by omega) _ _ hP hD hS ls (lv_sub hl [2, 3, 4, 0] rfl)
              · refine lv_aload_n S.1 S.2.1 dX8_chosenWeek_19 rfl (lv_at hl 0 rfl) ?_
                refine lv_aload_n S.1 S.2.1 dX8_chosenWeek_20 rfl (lv_at hl 1 rfl) ?_
                refine lv_iload_n S.1 S.2.1 dX8_chosenWeek_21 rfl (lv_at hl 2 rfl) ?_
                refine lv_iload_n S.1 S.2.1 dX8_chosenWeek_22 rfl (lv_at hl 3 rfl) ?_
                refine rd_callV (rest := []) S (r_X8_gapWithout_w l D cT c pa bd a6 a7 n ro cl fb rn nd sk mo wk fx wi la da we V V2 P2 i d e (hwf) (by omega) (by omega) (hi) (hinj)) gX8_chosenWeek_X8_gapWithout rfl pd_X8_gapWithout ⟨rfl, rfl, Nat.le_of_ble_eq_true rfl, Nat.le_of_ble_eq_true rfl⟩ hP hK (va_recv hK.1 hP (ci := 6) (q0 := 0) rfl rfl) hl rfl rfl (Nat.le_of_ble_eq_true rfl) ⟨Nat.zero_le _, Nat.zero_le _⟩ dX8_chosenWeek_23 ?_
                refine n_zle S (tgt := 33) (by have := hnd (d * 4 + e); show nd (d * 4 + e) - _ < _; omega) dX8_chosenWeek_26 (by decide) (fun c26 => ?_) (fun c26 => ?_)
                · refine lv_iconst (v := (nI 0)) S.1 S.2.1 dX8_chosenWeek_33 (by decide) ?_
                  refine lv_istore (lv' := [(4, .int (nI 0)), (0, .ref (c 0)), (1, .ref (pa i)), (2, .int (nI d)), (3, .int (nI e))]) S.1 S.2.1 dX8_chosenWeek_34 hl (by decide) rfl (fun ls hl => ?_)
                  refine lv_aload_n S.1 S.2.1 dX8_chosenWeek_36 rfl (lv_at hl 1 rfl) ?_
                  refine g_get (C := RX8) (T := TX8) (N := 9) (v := .ref (c 9)) S 0 6 5 in_X8_chosenWeek_X8 hK hP rfl rfl (by decide) w_X8_chosenWeek_2 rfl dX8_chosenWeek_37 ?_
                  refine lv_iload_n S.1 S.2.1 dX8_chosenWeek_40 rfl (lv_at hl 3 rfl) ?_
                  refine lv_iload_n S.1 S.2.1 dX8_chosenWeek_41 rfl (lv_at hl 4 rfl) ?_
                  refine lv_aload_n S.1 S.2.1 dX8_chosenWeek_42 rfl (lv_at hl 2 rfl) ?_
                  refine lv_iload_n S.1 S.2.1 dX8_chosenWeek_43 rfl (lv_at hl 3 rfl) ?_
                  refine lv_iload_n S.1 S.2.1 dX8_chosenWeek_44 rfl (lv_at hl 4 rfl) ?_
                  refine lv_iload S.1 S.2.1 dX8_chosenWeek_45 (lv_at hl 0 rfl) ?_
                  refine rd_callSl (rest := [.int (nI e), .int (nI d), .ref (c 9)]) S (r_X5_priceOf l D cT (pa i) (sk i) (mo i) (wk i) (fx i) (wi i) (la i) (da i) (we i) d e false (by omega) (by omega) (⟨by omega, by omega⟩)) gX8_chosenWeek_X5_priceOf rfl pd_X5_priceOf ⟨rfl, rfl, Nat.le_of_ble_eq_true rfl, Nat.le_of_ble_eq_true rfl⟩ (pool_one hP (by omega)) hK hl rfl rfl (Nat.le_of_ble_eq_true rfl) ⟨Nat.zero_le _, Nat.zero_le _⟩ dX8_chosenWeek_47 ?_
                  refine wr_callVv (rest := []) S (r_X5_put l D cT _ c pa bd a6 a7 n ro cl fb rn nd sk mo wk fx wi la da we V V2 P2 d e (lN (priN (we i) (wi i) d e false)) (hwf) (by omega) (by omega)) gX8_chosenWeek_X5_put rfl pd_X5_put ⟨rfl, rfl, Nat.le_of_ble_eq_true rfl, Nat.le_of_ble_eq_true rfl⟩ hP hK hD hS hA (va_recv hK.1 hP (ci := 4) (q0 := 9) rfl rfl) hl rfl rfl (Nat.le_of_ble_eq_true rfl) ⟨Nat.zero_le _, Nat.zero_le _⟩ dX8_chosenWeek_50 (fun u_ H locs hr_ hP hD hS => ?_)
                  have hP : va_P D vwCl (cX cT c a6 a7 n ro cl fb rn nd V V2 (vp_updL P2 (d * 4 + e) (lN (priN (we i) (wi i) d e false))) pa ++ pool n pa (per sk mo wk fx wi la da we)) H := hP
                  have hD : va_D A (cX cT c a6 a7 n ro cl fb rn nd V V2 (vp_updL P2 (d * 4 + e) (lN (priN (we i) (wi i) d e false))) pa ++ pool n pa (per sk mo wk fx wi la da we)) := hD
                  refine lv_iinc (v := (nI (e + 1))) (lv' := [(3, .int (nI (e + 1))), (4, .int (nI 0)), (0, .ref (c 0)), (1, .ref (pa i)), (2, .int (nI d))]) S.1 S.2.1 dX8_chosenWeek_53 hl (k := 4) rfl (nI_1 _) (by decide) rfl (fun ls hl => ?_)
                  refine lv_goto (tgt := 10) S.1 S.2.1 dX8_chosenWeek_56 (by decide) ?_
                  exact ih10 (vp_updL P2 (d * 4 + e) (lN (priN (we i) (wi i) d e false))) (e + 1) (by omega) (pT_s (by omega) hpr (show (e != 0 && decide (0 < gpw n nd wk i d e)) = false from by rw [decide_eq_false (by omega), Bool.and_false])) (by omega) _ _ hP hD hS ls (lv_sub hl [2, 3, 4, 0] rfl)
                · refine lv_iconst (v := (nI 1)) S.1 S.2.1 dX8_chosenWeek_29 (by decide) ?_
                  refine lv_goto (tgt := 34) S.1 S.2.1 dX8_chosenWeek_30 (by decide) ?_
                  refine lv_istore (lv' := [(4, .int (nI 1)), (0, .ref (c 0)), (1, .ref (pa i)), (2, .int (nI d)), (3, .int (nI e))]) S.1 S.2.1 dX8_chosenWeek_34 hl (by decide) rfl (fun ls hl => ?_)
                  refine lv_aload_n S.1 S.2.1 dX8_chosenWeek_36 rfl (lv_at hl 1 rfl) ?_
                  refine g_get (C := RX8) (T := TX8) (N := 9) (v := .ref (c 9)) S 0 6 5 in_X8_chosenWeek_X8 hK hP rfl rfl (by decide) w_X8_chosenWeek_2 rfl dX8_chosenWeek_37 ?_
                  refine lv_iload_n S.1 S.2.1 dX8_chosenWeek_40 rfl (lv_at hl 3 rfl) ?_
                  refine lv_iload_n S.1 S.2.1 dX8_chosenWeek_41 rfl (lv_at hl 4 rfl) ?_
                  refine lv_aload_n S.1 S.2.1 dX8_chosenWeek_42 rfl (lv_at hl 2 rfl) ?_
                  refine lv_iload_n S.1 S.2.1 dX8_chosenWeek_43 rfl (lv_at hl 3 rfl) ?_
                  refine lv_iload_n S.1 S.2.1 dX8_chosenWeek_44 rfl (lv_at hl 4 rfl) ?_
                  refine lv_iload S.1 S.2.1 dX8_chosenWeek_45 (lv_at hl 0 rfl) ?_
                  refine rd_callSl (rest := [.int (nI e), .int (nI d), .ref (c 9)]) S (r_X5_priceOf l D cT (pa i) (sk i) (mo i) (wk i) (fx i) (wi i) (la i) (da i) (we i) d e true (by omega) (by omega) (⟨by omega, by omega⟩)) gX8_chosenWeek_X5_priceOf rfl pd_X5_priceOf ⟨rfl, rfl, Nat.le_of_ble_eq_true rfl, Nat.le_of_ble_eq_true rfl⟩ (pool_one hP (by omega)) hK hl rfl rfl (Nat.le_of_ble_eq_true rfl) ⟨Nat.zero_le _, Nat.zero_le _⟩ dX8_chosenWeek_47 ?_
                  refine wr_callVv (rest := []) S (r_X5_put l D cT _ c pa bd a6 a7 n ro cl fb rn nd sk mo wk fx wi la da we V V2 P2 d e (lN (priN (we i) (wi i) d e true)) (hwf) (by omega) (by omega)) gX8_chosenWeek_X5_put rfl pd_X5_put ⟨rfl, rfl, Nat.le_of_ble_eq_true rfl, Nat.le_of_ble_eq_true rfl⟩ hP hK hD hS hA (va_recv hK.1 hP (ci := 4) (q0 := 9) rfl rfl) hl rfl rfl (Nat.le_of_ble_eq_true rfl) ⟨Nat.zero_le _, Nat.zero_le _⟩ dX8_chosenWeek_50 (fun u_ H locs hr_ hP hD hS => ?_)
                  have hP : va_P D vwCl (cX cT c a6 a7 n ro cl fb rn nd V V2 (vp_updL P2 (d * 4 + e) (lN (priN (we i) (wi i) d e true))) pa ++ pool n pa (per sk mo wk fx wi la da we)) H := hP
                  have hD : va_D A (cX cT c a6 a7 n ro cl fb rn nd V V2 (vp_updL P2 (d * 4 + e) (lN (priN (we i) (wi i) d e true))) pa ++ pool n pa (per sk mo wk fx wi la da we)) := hD
                  refine lv_iinc (v := (nI (e + 1))) (lv' := [(3, .int (nI (e + 1))), (4, .int (nI 1)), (0, .ref (c 0)), (1, .ref (pa i)), (2, .int (nI d))]) S.1 S.2.1 dX8_chosenWeek_53 hl (k := 4) rfl (nI_1 _) (by decide) rfl (fun ls hl => ?_)
                  refine lv_goto (tgt := 10) S.1 S.2.1 dX8_chosenWeek_56 (by decide) ?_
                  exact ih10 (vp_updL P2 (d * 4 + e) (lN (priN (we i) (wi i) d e true))) (e + 1) (by omega) (pT_s (by omega) hpr (show (e != 0 && decide (0 < gpw n nd wk i d e)) = true from by rw [decide_eq_true c26, show (e != 0) = true from bne_iff_ne.mpr c16]; rfl)) (by omega) _ _ hP hD hS ls (lv_sub hl [2, 3, 4, 0] rfl)
        exact lp10 _ P1 0 (Nat.zero_le _) (hp0) (Nat.lt_succ_self _) _ _ hP hD hS ls (lv_sub hl [1, 2, 3, 0] rfl)
  exact lp2 _ PR 0 (Nat.zero_le _) (fun j h => absurd h (Nat.not_lt_zero j)) (Nat.lt_succ_self _) _ _ hP hD hS ls (lv_sub hl [1, 2, 0] rfl)

theorem pd_X8_planRound : yX8_planRound.cls = RX8 ∧ yX8_planRound.cls ≠ "java/lang/invoke/MethodHandle" ∧ yX8_planRound.cls ≠ "java/lang/invoke/VarHandle" ∧ (parseMethodDescriptor yX8_planRound.desc).map (fun d => d.parameters.length) = some 0 := by decide +kernel
theorem w_X8_planRound_0 : Cond.fieldLink RX8 11 "CoverSheet" "team" "[LCoverSheet$Person;" ∈ wsX8_planRound := by decide +kernel
theorem in_X8_planRound_X4 : ∀ w ∈ u_ws RX4 TX4 8, w ∈ wsX8_planRound := by decide +kernel
theorem in_X8_planRound_X8 : ∀ w ∈ u_ws RX8 TX8 9, w ∈ wsX8_planRound := by decide +kernel
set_option maxHeartbeats 4000000 in
set_option maxRecDepth 100000 in
theorem w_X8_planRound (l : Launch) (D : va_G) (cT : ClassId × ClassId × ClassId) (sz : Nat) (c pa : Nat → Nat) (bd a6 a7 n ro cl fb rn : Nat) (nd sk mo wk fx wi la da we : Nat → Nat) (V V2 PR : Nat → Int64) (hwf : wfC n bd fb rn nd sk mo wk fx wi la da we) (hinj : inj n pa) : Met l yX8_planRound wsX8_planRound ({ frames := 5, cells := 0, slots := 0, locals := 137 } : Room) (va_Pc [.ref (c 0)] (wr_R D (TY cT) (cX cT c a6 a7 n ro cl fb rn nd V V2 PR pa ++ pool n pa (per sk mo wk fx wi la da we)) sz)) (wQi (fun (r_ : Int32) (_ : Nat × Nat × (Nat → Int64) × (Nat → Int64) × (Nat → Int64)) => r_ = nI ((rst (cho n fb rn nd sk mo fx wi la da we) wk n).2).toNat) D (fun (u_ : Nat × Nat × (Nat → Int64) × (Nat → Int64) × (Nat → Int64)) => cX cT c u_.1 u_.2.1 n ro cl fb rn nd u_.2.2.1 u_.2.2.2.1 u_.2.2.2.2 pa ++ pool n pa (per sk mo ((rst (cho n fb rn nd sk mo fx wi la da we) wk n).1) fx wi la da we)) (va_A (cX cT c a6 a7 n ro cl fb rn nd V V2 PR pa ++ pool n pa (per sk mo wk fx wi la da we)) sz)) 0 0 (va_A (cX cT c a6 a7 n ro cl fb rn nd V V2 PR pa ++ pool n pa (per sk mo wk fx wi la da we)) sz) := by
  refine wr_start (cc := cX8_planRound) (maxL := 7) (ret := (some .boolean)) RX8 ⟨by decide +kernel, rfl⟩ rfl (Nat.le_of_ble_eq_true rfl) ?_
  intro p0 e0 s0 m0 a0 b0 t0 c0 S hr hlocks hin hP hK hA hD hS ls hl
  generalize va_A (cX cT c a6 a7 n ro cl fb rn nd V V2 PR pa ++ pool n pa (per sk mo wk fx wi la da we)) sz = A at hA hD hS ⊢
  have hl : lv_has ls 7 [(0, .ref (c 0))] := hl
  obtain ⟨hn, hcl, hfb, hrn, hnd, hper⟩ := id hwf
  refine lv_iconst (v := (nI 0)) S.1 S.2.1 dX8_planRound_0 (by decide) ?_
  refine lv_istore_n (lv' := [(1, .int (nI 0)), (0, .ref (c 0))]) S.1 S.2.1 dX8_planRound_1 rfl hl (by decide) rfl (fun ls hl => ?_)
  refine lv_aload_n S.1 S.2.1 dX8_planRound_2 rfl (lv_at hl 1 rfl) ?_
  refine g_get (C := RX8) (T := TX8) (N := 9) (v := .ref (c 1)) S 0 6 0 in_X8_planRound_X8 hK hP rfl rfl (by decide) w_X8_planRound_0 rfl dX8_planRound_3 ?_
  refine lv_astore_n (lv' := [(2, .ref (c 1)), (1, .int (nI 0)), (0, .ref (c 0))]) S.1 S.2.1 dX8_planRound_6 rfl hl (by decide) rfl (fun ls hl => ?_)
  refine lv_aload_n S.1 S.2.1 dX8_planRound_7 rfl (lv_at hl 0 rfl) ?_
  refine g_alen S 1 2 hK hP rfl rfl dX8_planRound_8 ?_
  refine lv_istore_n (lv' := [(3, .int (nI 8)), (2, .ref (c 1)), (1, .int (nI 0)), (0, .ref (c 0))]) S.1 S.2.1 dX8_planRound_9 rfl hl (by decide) rfl (fun ls hl => ?_)
  refine lv_iconst (v := (nI 0)) S.1 S.2.1 dX8_planRound_10 (by decide) ?_
  refine lv_istore (lv' := [(4, .int (nI 0)), (3, .int (nI 8)), (2, .ref (c 1)), (1, .int (nI 0)), (0, .ref (c 0))]) S.1 S.2.1 dX8_planRound_11 hl (by decide) rfl (fun ls hl => ?_)
  have lp13 : ∀ (fu : Nat) (x6 : Nat) (x7 : Nat) (V1 : Nat → Int64) (W1 : Nat → Int64) (P1 : Nat → Int64) (b1 : Bool) (i : Nat), (i ≤ 8) → (b1 = (rst (cho n fb rn nd sk mo fx wi la da we) wk (min i n)).2) → (8 - i) < fu → ∀ (H : Heap) (locs : List Loc), va_P D vwCl (cX cT c x6 x7 n ro cl fb rn nd V1 W1 P1 pa ++ pool n pa (per sk mo ((rst (cho n fb rn nd sk mo fx wi la da we) wk (min i n)).1) fx wi la da we)) H → va_D A (cX cT c x6 x7 n ro cl fb rn nd V1 W1 P1 pa ++ pool n pa (per sk mo ((rst (cho n fb rn nd sk mo fx wi la da we) wk (min i n)).1) fx wi la da we)) → va_S A s0.heap H locs → ∀ ls : Array Slot, lv_has ls 7 [(0, .ref (c 0)), (1, .int (nI b1.toNat)), (2, .ref (c 1)), (3, .int (nI 8)), (4, .int (nI i))] → W p0 l e0 ({ frames := 5, cells := 0, slots := 0, locals := 137 } : Room) s0 m0 a0 b0 t0 c0 H locs 0 0 (MQ b0 (wQi (fun (r_ : Int32) (_ : Nat × Nat × (Nat → Int64) × (Nat → Int64) × (Nat → Int64)) => r_ = nI ((rst (cho n fb rn nd sk mo fx wi la da we) wk n).2).toNat) D (fun (u_ : Nat × Nat × (Nat → Int64) × (Nat → Int64) × (Nat → Int64)) => cX cT c u_.1 u_.2.1 n ro cl fb rn nd u_.2.2.1 u_.2.2.2.1 u_.2.2.2.2 pa ++ pool n pa (per sk mo ((rst (cho n fb rn nd sk mo fx wi la da we) wk n).1) fx wi la da we)) A) a0 s0 0 0 A) (F0 m0 13 ls []) := by
    intro fu
    induction fu with
    | zero =>
      intro x6 x7 V1 W1 P1 b1 i h2 hb1 hm
      exact absurd hm (Nat.not_lt_zero _)
    | succ fu ih13 =>
      intro x6 x7 V1 W1 P1 b1 i h2 hb1 hm H locs hP hD hS ls hl
      have hwfi : wfC n bd fb rn nd sk mo ((rst (cho n fb rn nd sk mo fx wi la da we) wk (min i n)).1) fx wi la da we := wf_fun hwf (rst_lt (fun w p => cho_lt _ _ _ _ _ _ _ _ _ _ _ w p) (fun k => (hper k).2.2.1) _)
      refine lv_iload S.1 S.2.1 dX8_planRound_13 (lv_at hl 4 rfl) ?_
      refine lv_iload_n S.1 S.2.1 dX8_planRound_15 rfl (lv_at hl 3 rfl) ?_
      refine n_cge S (tgt := 72) (by omega) dX8_planRound_16 (by decide) (fun c16 => ?_) (fun c16 => ?_)
      · refine lv_iload_n S.1 S.2.1 dX8_planRound_72 rfl (lv_at hl 1 rfl) ?_
        exact wr_iret S ((x6, x7, V1, W1, P1)) hr (sx_bt _) hlocks (by rw [hb1, show min i n = n by omega]) (by rw [show min i n = n by omega] at hP; exact hP) (by rw [show min i n = n by omega] at hD; exact hD) hS dX8_planRound_73
      · refine lv_aload_n S.1 S.2.1 dX8_planRound_19 rfl (lv_at hl 2 rfl) ?_
        refine lv_iload S.1 S.2.1 dX8_planRound_20 (lv_at hl 4 rfl) ?_
        refine g_aald S 1 hK hP rfl (by omega) dX8_planRound_22 ?_
        by_cases hb : i < n
        · refine n_topv (show va_rf (tm n pa i) = .ref (pa i) by rw [tm_in hb]; rfl) ?_
          have hpi := hper i
          have em : min i n = i := by omega
          rw [em] at hP hD hb1 hwfi
          refine lv_astore (lv' := [(5, .ref (pa i)), (0, .ref (c 0)), (1, .int (nI b1.toNat)), (2, .ref (c 1)), (3, .int (nI 8)), (4, .int (nI i))]) S.1 S.2.1 dX8_planRound_23 hl (by decide) rfl (fun ls hl => ?_)
          refine lv_aload S.1 S.2.1 dX8_planRound_25 (lv_at hl 0 rfl) ?_
          refine lv_ifnonnull (tgt := 33) S.1 S.2.1 dX8_planRound_27 (by decide) ?_
          refine lv_aload_n S.1 S.2.1 dX8_planRound_33 rfl (lv_at hl 1 rfl) ?_
          refine lv_aload S.1 S.2.1 dX8_planRound_34 (lv_at hl 0 rfl) ?_
          refine wr_callVi (rest := []) S (w_X8_chosenWeek l D cT _ c pa bd x6 x7 n ro cl fb rn nd sk mo ((rst (cho n fb rn nd sk mo fx wi la da we) wk i).1) fx wi la da we V1 W1 P1 i (hwfi) (by omega) (hinj)) gX8_planRound_X8_chosenWeek rfl pd_X8_chosenWeek ⟨rfl, rfl, Nat.le_of_ble_eq_true rfl, Nat.le_of_ble_eq_true rfl⟩ hP hK hD hS hA (va_recv hK.1 hP (ci := 6) (q0 := 0) rfl rfl) hl rfl rfl (Nat.le_of_ble_eq_true rfl) ⟨Nat.zero_le _, Nat.zero_le _⟩ dX8_planRound_36 (fun r_ u_ H locs hr_ hP hD hS => ?_)
          rw [show r_ = nI (cho n fb rn nd sk mo fx wi la da we ((rst (cho n fb rn nd sk mo fx wi la da we) wk i).1) i) from hr_]
          have hP : va_P D vwCl (cX cT c u_.1 u_.2.1 n ro cl fb rn nd u_.2.2.1 u_.2.2.2.1 u_.2.2.2.2 pa ++ pool n pa (per sk mo ((rst (cho n fb rn nd sk mo fx wi la da we) wk i).1) fx wi la da we)) H := hP
          have hD : va_D A (cX cT c u_.1 u_.2.1 n ro cl fb rn nd u_.2.2.1 u_.2.2.2.1 u_.2.2.2.2 pa ++ pool n pa (per sk mo ((rst (cho n fb rn nd sk mo fx wi la da we) wk i).1) fx wi la da we)) := hD
          refine lv_istore (lv' := [(6, .int (nI (cho n fb rn nd sk mo fx wi la da we ((rst (cho n fb rn nd sk mo fx wi la da we) wk i).1) i))), (5, .ref (pa i)), (0, .ref (c 0)), (1, .int (nI b1.toNat)), (2, .ref (c 1)), (3, .int (nI 8)), (4, .int (nI i))]) S.1 S.2.1 dX8_planRound_39 hl (by decide) rfl (fun ls hl => ?_)
          refine lv_iload_n S.1 S.2.1 dX8_planRound_41 rfl (lv_at hl 3 rfl) ?_
          refine lv_iload S.1 S.2.1 dX8_planRound_42 (lv_at hl 0 rfl) ?_
          refine lv_aload S.1 S.2.1 dX8_planRound_44 (lv_at hl 1 rfl) ?_
          refine g_getN (C := RX4) (T := TX4) (N := 8) (v := .int (nI (((rst (cho n fb rn nd sk mo fx wi la da we) wk i).1) i))) S _ 3 2 in_X8_planRound_X4 hK hP (pool_at (by omega)) rfl (by decide) (List.mem_of_getElem? (i := 11) rfl) rfl dX8_planRound_46 ?_
          refine n_ceq S (tgt := 56) (⟨Nat.lt_trans (cho_lt _ _ _ _ _ _ _ _ _ _ _ _ _) (by decide), by have := rst_lt (C := cho n fb rn nd sk mo fx wi la da we) (wk := wk) (fun w p => cho_lt _ _ _ _ _ _ _ _ _ _ _ w p) (fun k => (hper k).2.2.1) i i; omega⟩) dX8_planRound_49 (by decide) (fun c49 => ?_) (fun c49 => ?_)
          · refine lv_iconst (v := (nI 0)) S.1 S.2.1 dX8_planRound_56 (by decide) ?_
            refine n_or S dX8_planRound_57 ?_
            refine n_top (show (nI (b1.toNat ||| 0)) = (nI b1.toNat) from by cases b1 <;> rfl) ?_
            refine lv_istore_n (lv' := [(1, .int (nI b1.toNat)), (6, .int (nI (cho n fb rn nd sk mo fx wi la da we ((rst (cho n fb rn nd sk mo fx wi la da we) wk i).1) i))), (5, .ref (pa i)), (0, .ref (c 0)), (2, .ref (c 1)), (3, .int (nI 8)), (4, .int (nI i))]) S.1 S.2.1 dX8_planRound_58 rfl hl (by decide) rfl (fun ls hl => ?_)
            refine lv_aload S.1 S.2.1 dX8_planRound_59 (lv_at hl 2 rfl) ?_
            refine lv_iload S.1 S.2.1 dX8_planRound_61 (lv_at hl 1 rfl) ?_
            refine w_putN (C := RX4) (T := TX4) (N := 8) (v := .int (nI (cho n fb rn nd sk mo fx wi la da we ((rst (cho n fb rn nd sk mo fx wi la da we) wk i).1) i))) (ty := .int) S _ 3 2 in_X8_planRound_X4 tyX4 tyX4_ok nmX4 hK hP hD hS (pool_at (by omega)) rfl (by decide) (List.mem_of_getElem? (i := 11) rfl) rfl (by decide +kernel) rfl rfl (Nat.le_of_ble_eq_true rfl) dX8_planRound_63 (fun H locs hP hD hS => ?_)
            have hP : va_P D vwCl (cX cT c u_.1 u_.2.1 n ro cl fb rn nd u_.2.2.1 u_.2.2.2.1 u_.2.2.2.2 pa ++ pool n pa (per sk mo (va_up ((rst (cho n fb rn nd sk mo fx wi la da we) wk i).1) i (cho n fb rn nd sk mo fx wi la da we ((rst (cho n fb rn nd sk mo fx wi la da we) wk i).1) i)) fx wi la da we)) H := by rw [← per_set_wk (i := i) (by omega)]; exact hP
            have hD : va_D A (cX cT c u_.1 u_.2.1 n ro cl fb rn nd u_.2.2.1 u_.2.2.2.1 u_.2.2.2.2 pa ++ pool n pa (per sk mo (va_up ((rst (cho n fb rn nd sk mo fx wi la da we) wk i).1) i (cho n fb rn nd sk mo fx wi la da we ((rst (cho n fb rn nd sk mo fx wi la da we) wk i).1) i)) fx wi la da we)) := by rw [← per_set_wk (i := i) (by omega)]; exact hD
            have hP : va_P D vwCl (cX cT c u_.1 u_.2.1 n ro cl fb rn nd u_.2.2.1 u_.2.2.2.1 u_.2.2.2.2 pa ++ pool n pa (per sk mo ((rst (cho n fb rn nd sk mo fx wi la da we) wk (min (i + 1) n)).1) fx wi la da we)) H := by rw [show min (i + 1) n = i + 1 by omega]; exact hP
            have hD : va_D A (cX cT c u_.1 u_.2.1 n ro cl fb rn nd u_.2.2.1 u_.2.2.2.1 u_.2.2.2.2 pa ++ pool n pa (per sk mo ((rst (cho n fb rn nd sk mo fx wi la da we) wk (min (i + 1) n)).1) fx wi la da we)) := by rw [show min (i + 1) n = i + 1 by omega]; exact hD
            refine lv_iinc (v := (nI (i + 1))) (lv' := [(4, .int (nI (i + 1))), (1, .int (nI b1.toNat)), (6, .int (nI (cho n fb rn nd sk mo fx wi la da we ((rst (cho n fb rn nd sk mo fx wi la da we) wk i).1) i))), (5, .ref (pa i)), (0, .ref (c 0)), (2, .ref (c 1)), (3, .int (nI 8))]) S.1 S.2.1 dX8_planRound_66 hl (k := 6) rfl (nI_1 _) (by decide) rfl (fun ls hl => ?_)
            refine lv_goto (tgt := 13) S.1 S.2.1 dX8_planRound_69 (by decide) ?_
            exact ih13 u_.1 u_.2.1 u_.2.2.1 u_.2.2.2.1 u_.2.2.2.2 b1 (i + 1) (by omega) (by rw [show min (i + 1) n = i + 1 by omega, rst_2, c49, bne_x, Bool.or_false]; exact hb1) (by omega) _ _ hP hD hS ls (lv_sub hl [4, 1, 5, 6, 0] rfl)
          · refine lv_iconst (v := (nI 1)) S.1 S.2.1 dX8_planRound_52 (by decide) ?_
            refine lv_goto (tgt := 57) S.1 S.2.1 dX8_planRound_53 (by decide) ?_
            refine n_or S dX8_planRound_57 ?_
            refine n_top (show (nI (b1.toNat ||| 1)) = (nI true.toNat) from by cases b1 <;> rfl) ?_
            refine lv_istore_n (lv' := [(1, .int (nI true.toNat)), (6, .int (nI (cho n fb rn nd sk mo fx wi la da we ((rst (cho n fb rn nd sk mo fx wi la da we) wk i).1) i))), (5, .ref (pa i)), (0, .ref (c 0)), (2, .ref (c 1)), (3, .int (nI 8)), (4, .int (nI i))]) S.1 S.2.1 dX8_planRound_58 rfl hl (by decide) rfl (fun ls hl => ?_)
            refine lv_aload S.1 S.2.1 dX8_planRound_59 (lv_at hl 2 rfl) ?_
            refine lv_iload S.1 S.2.1 dX8_planRound_61 (lv_at hl 1 rfl) ?_
            refine w_putN (C := RX4) (T := TX4) (N := 8) (v := .int (nI (cho n fb rn nd sk mo fx wi la da we ((rst (cho n fb rn nd sk mo fx wi la da we) wk i).1) i))) (ty := .int) S _ 3 2 in_X8_planRound_X4 tyX4 tyX4_ok nmX4 hK hP hD hS (pool_at (by omega)) rfl (by decide) (List.mem_of_getElem? (i := 11) rfl) rfl (by decide +kernel) rfl rfl (Nat.le_of_ble_eq_true rfl) dX8_planRound_63 (fun H locs hP hD hS => ?_)
            have hP : va_P D vwCl (cX cT c u_.1 u_.2.1 n ro cl fb rn nd u_.2.2.1 u_.2.2.2.1 u_.2.2.2.2 pa ++ pool n pa (per sk mo (va_up ((rst (cho n fb rn nd sk mo fx wi la da we) wk i).1) i (cho n fb rn nd sk mo fx wi la da we ((rst (cho n fb rn nd sk mo fx wi la da we) wk i).1) i)) fx wi la da we)) H := by rw [← per_set_wk (i := i) (by omega)]; exact hP
            have hD : va_D A (cX cT c u_.1 u_.2.1 n ro cl fb rn nd u_.2.2.1 u_.2.2.2.1 u_.2.2.2.2 pa ++ pool n pa (per sk mo (va_up ((rst (cho n fb rn nd sk mo fx wi la da we) wk i).1) i (cho n fb rn nd sk mo fx wi la da we ((rst (cho n fb rn nd sk mo fx wi la da we) wk i).1) i)) fx wi la da we)) := by rw [← per_set_wk (i := i) (by omega)]; exact hD
            have hP : va_P D vwCl (cX cT c u_.1 u_.2.1 n ro cl fb rn nd u_.2.2.1 u_.2.2.2.1 u_.2.2.2.2 pa ++ pool n pa (per sk mo ((rst (cho n fb rn nd sk mo fx wi la da we) wk (min (i + 1) n)).1) fx wi la da we)) H := by rw [show min (i + 1) n = i + 1 by omega]; exact hP
            have hD : va_D A (cX cT c u_.1 u_.2.1 n ro cl fb rn nd u_.2.2.1 u_.2.2.2.1 u_.2.2.2.2 pa ++ pool n pa (per sk mo ((rst (cho n fb rn nd sk mo fx wi la da we) wk (min (i + 1) n)).1) fx wi la da we)) := by rw [show min (i + 1) n = i + 1 by omega]; exact hD
            refine lv_iinc (v := (nI (i + 1))) (lv' := [(4, .int (nI (i + 1))), (1, .int (nI true.toNat)), (6, .int (nI (cho n fb rn nd sk mo fx wi la da we ((rst (cho n fb rn nd sk mo fx wi la da we) wk i).1) i))), (5, .ref (pa i)), (0, .ref (c 0)), (2, .ref (c 1)), (3, .int (nI 8))]) S.1 S.2.1 dX8_planRound_66 hl (k := 6) rfl (nI_1 _) (by decide) rfl (fun ls hl => ?_)
            refine lv_goto (tgt := 13) S.1 S.2.1 dX8_planRound_69 (by decide) ?_
            exact ih13 u_.1 u_.2.1 u_.2.2.1 u_.2.2.2.1 u_.2.2.2.2 true (i + 1) (by omega) (by rw [show min (i + 1) n = i + 1 by omega, rst_2, bne_iff_ne.mpr c49, Bool.or_true]) (by omega) _ _ hP hD hS ls (lv_sub hl [4, 1, 5, 6, 0] rfl)
        · refine n_topv (show va_rf (tm n pa i) = .null by rw [tm_out (Nat.le_of_not_lt hb)]; rfl) ?_
          refine lv_astoreN (lv' := [(5, .null), (0, .ref (c 0)), (1, .int (nI b1.toNat)), (2, .ref (c 1)), (3, .int (nI 8)), (4, .int (nI i))]) S.1 S.2.1 dX8_planRound_23 hl (by decide) rfl (fun ls hl => ?_)
          refine lv_aloadN S.1 S.2.1 dX8_planRound_25 (lv_at hl 0 rfl) ?_
          refine lv_ifnonnullN S.1 S.2.1 dX8_planRound_27 ?_
          refine lv_goto (tgt := 66) S.1 S.2.1 dX8_planRound_30 (by decide) ?_
          have hP : va_P D vwCl (cX cT c x6 x7 n ro cl fb rn nd V1 W1 P1 pa ++ pool n pa (per sk mo ((rst (cho n fb rn nd sk mo fx wi la da we) wk (min (i + 1) n)).1) fx wi la da we)) H := by rw [show min (i + 1) n = min i n by omega]; exact hP
          have hD : va_D A (cX cT c x6 x7 n ro cl fb rn nd V1 W1 P1 pa ++ pool n pa (per sk mo ((rst (cho n fb rn nd sk mo fx wi la da we) wk (min (i + 1) n)).1) fx wi la da we)) := by rw [show min (i + 1) n = min i n by omega]; exact hD
          refine lv_iinc (v := (nI (i + 1))) (lv' := [(4, .int (nI (i + 1))), (5, .null), (0, .ref (c 0)), (1, .int (nI b1.toNat)), (2, .ref (c 1)), (3, .int (nI 8))]) S.1 S.2.1 dX8_planRound_66 hl (k := 5) rfl (nI_1 _) (by decide) rfl (fun ls hl => ?_)
          refine lv_goto (tgt := 13) S.1 S.2.1 dX8_planRound_69 (by decide) ?_
          exact ih13 x6 x7 V1 W1 P1 b1 (i + 1) (by omega) (by rw [show min (i + 1) n = min i n by omega]; exact hb1) (by omega) _ _ hP hD hS ls (lv_sub hl [2, 3, 4, 5, 0] rfl)
  exact lp13 _ a6 a7 V V2 PR false 0 (Nat.zero_le _) (by rw [Nat.zero_min]; rfl) (Nat.lt_succ_self _) _ _ hP hD hS ls (lv_sub hl [4, 3, 2, 1, 0] rfl)

