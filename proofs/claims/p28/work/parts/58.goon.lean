theorem pd_J7_fill_d0a16 : yJ7_fill_d0a16.cls ≠ "java/lang/invoke/MethodHandle" ∧ yJ7_fill_d0a16.cls ≠ "java/lang/invoke/VarHandle" ∧ (parseMethodDescriptor yJ7_fill_d0a16.desc).map (fun d => d.parameters.length) = some 2 := by decide +kernel
set_option maxHeartbeats 4000000 in
set_option maxRecDepth 100000 in
theorem w_J7_fill_6 (l : Launch) (D : va_G) (cT : ClassId × ClassId × ClassId) (sz : Nat) (c pa : Nat → Nat) (bd a6 a7 n ro cl fb rn : Nat) (nd sk mo wk fx wi la da we : Nat → Nat) (V V2 PR : Nat → Int64) (v : Int64) (hwf : wfC n bd fb rn nd sk mo wk fx wi la da we) : Met l yJ7_fill_d0a16 wsJ7_fill_d0a16 ({ frames := 0, cells := 0, slots := 0, locals := 0 } : Room) (va_Pc [.ref a6, .long v] (wr_R D (TY cT) (cX cT c a6 a7 n ro cl fb rn nd V V2 PR pa ++ pool n pa (per sk mo wk fx wi la da we)) sz)) (wQv (fun (_ : Unit) => True) D (fun (_ : Unit) => cX cT c a6 a7 n ro cl fb rn nd (fun _ => v) V2 PR pa ++ pool n pa (per sk mo wk fx wi la da we)) (va_A (cX cT c a6 a7 n ro cl fb rn nd V V2 PR pa ++ pool n pa (per sk mo wk fx wi la da we)) sz)) 0 0 (va_A (cX cT c a6 a7 n ro cl fb rn nd V V2 PR pa ++ pool n pa (per sk mo wk fx wi la da we)) sz) := by
  refine wr_start (cc := cJ7_fill_d0a16) (maxL := 5) (ret := none) RJ7 ⟨by decide +kernel, rfl⟩ rfl (Nat.le_of_ble_eq_true rfl) ?_
  intro p0 e0 s0 m0 a0 b0 t0 c0 S hr hlocks hin hP hK hA hD hS ls hl
  generalize va_A (cX cT c a6 a7 n ro cl fb rn nd V V2 PR pa ++ pool n pa (per sk mo wk fx wi la da we)) sz = A at hA hD hS ⊢
  have hl : lv_has ls 5 [(0, .ref a6), (1, .long v)] := hl
  obtain ⟨hn, hcl, hfb, hrn, hnd, hper⟩ := id hwf
  refine lv_iconst (v := (nI 0)) S.1 S.2.1 dJ7_fill_d0a16_0 (by decide) ?_
  refine lv_istore_n (lv' := [(3, .int (nI 0)), (0, .ref a6), (1, .long v)]) S.1 S.2.1 dJ7_fill_d0a16_1 rfl hl (by decide) rfl (fun ls hl => ?_)
  refine lv_aload_n S.1 S.2.1 dJ7_fill_d0a16_2 rfl (lv_at hl 1 rfl) ?_
  refine g_alen S 6 1 hK hP rfl rfl dJ7_fill_d0a16_3 ?_
  refine lv_istore (lv' := [(4, .int (nI 480)), (3, .int (nI 0)), (0, .ref a6), (1, .long v)]) S.1 S.2.1 dJ7_fill_d0a16_4 hl (by decide) rfl (fun ls hl => ?_)
  have lp6 : ∀ (fu : Nat) (F : Nat → Int64) (i : Nat), (i ≤ 480) → (∀ j, j < i → F j = v) → (480 - i) < fu → ∀ (H : Heap) (locs : List Loc), va_P D vwCl (cX cT c a6 a7 n ro cl fb rn nd F V2 PR pa ++ pool n pa (per sk mo wk fx wi la da we)) H → va_D A (cX cT c a6 a7 n ro cl fb rn nd F V2 PR pa ++ pool n pa (per sk mo wk fx wi la da we)) → va_S A s0.heap H locs → ∀ ls : Array Slot, lv_has ls 5 [(0, .ref a6), (1, .long v), (3, .int (nI i)), (4, .int (nI 480))] → W p0 l e0 ({ frames := 0, cells := 0, slots := 0, locals := 0 } : Room) s0 m0 a0 b0 t0 c0 H locs 0 0 (MQ b0 (wQv (fun (_ : Unit) => True) D (fun (_ : Unit) => cX cT c a6 a7 n ro cl fb rn nd (fun _ => v) V2 PR pa ++ pool n pa (per sk mo wk fx wi la da we)) A) a0 s0 0 0 A) (F0 m0 6 ls []) := by
    intro fu
    induction fu with
    | zero =>
      intro F i h2 hF hm
      exact absurd hm (Nat.not_lt_zero _)
    | succ fu ih6 =>
      intro F i h2 hF hm H locs hP hD hS ls hl
      refine lv_iload_n S.1 S.2.1 dJ7_fill_d0a16_6 rfl (lv_at hl 2 rfl) ?_
      refine lv_iload S.1 S.2.1 dJ7_fill_d0a16_7 (lv_at hl 3 rfl) ?_
      refine n_cge S (tgt := 22) (by omega) dJ7_fill_d0a16_9 (by decide) (fun c9 => ?_) (fun c9 => ?_)
      · exact wr_vret S (()) hr hlocks (trivial) (la_hP (k0 := 6) rfl (fun j hj => hF j (by omega)) hP) (la_hD (k0 := 6) rfl (fun j hj => hF j (by omega)) hD) hS dJ7_fill_d0a16_22
      · refine lv_aload_n S.1 S.2.1 dJ7_fill_d0a16_12 rfl (lv_at hl 0 rfl) ?_
        refine lv_iload_n S.1 S.2.1 dJ7_fill_d0a16_13 rfl (lv_at hl 2 rfl) ?_
        refine lv_lload_n S.1 S.2.1 dJ7_fill_d0a16_14 rfl (lv_at hl 1 rfl) ?_
        refine w_last S 6 hK hP hD hS rfl (by omega) dJ7_fill_d0a16_15 (fun H locs hP hD hS => ?_)
        have hP : va_P D vwCl (cX cT c a6 a7 n ro cl fb rn nd (vp_updL F i v) V2 PR pa ++ pool n pa (per sk mo wk fx wi la da we)) H := hP
        have hD : va_D A (cX cT c a6 a7 n ro cl fb rn nd (vp_updL F i v) V2 PR pa ++ pool n pa (per sk mo wk fx wi la da we)) := hD
        refine lv_iinc (v := (nI (i + 1))) (lv' := [(3, .int (nI (i + 1))), (0, .ref a6), (1, .long v), (4, .int (nI 480))]) S.1 S.2.1 dJ7_fill_d0a16_16 hl (k := 2) rfl (nI_1 _) (by decide) rfl (fun ls hl => ?_)
        refine lv_goto (tgt := 6) S.1 S.2.1 dJ7_fill_d0a16_19 (by decide) ?_
        exact ih6 (vp_updL F i v) (i + 1) (by omega) (fun j hj => by show (if j = i then v else F j) = v; split; rfl; exact hF j (by omega)) (by omega) _ _ hP hD hS ls (lv_sub hl [1, 2, 0, 3] rfl)
  exact lp6 _ V 0 (Nat.zero_le _) (fun j h => absurd h (Nat.not_lt_zero j)) (Nat.lt_succ_self _) _ _ hP hD hS ls (lv_sub hl [2, 3, 1, 0] rfl)

set_option maxHeartbeats 4000000 in
set_option maxRecDepth 100000 in
theorem w_J7_fill_7 (l : Launch) (D : va_G) (cT : ClassId × ClassId × ClassId) (sz : Nat) (c pa : Nat → Nat) (bd a6 a7 n ro cl fb rn : Nat) (nd sk mo wk fx wi la da we : Nat → Nat) (V V2 PR : Nat → Int64) (v : Int64) (hwf : wfC n bd fb rn nd sk mo wk fx wi la da we) : Met l yJ7_fill_d0a16 wsJ7_fill_d0a16 ({ frames := 0, cells := 0, slots := 0, locals := 0 } : Room) (va_Pc [.ref a7, .long v] (wr_R D (TY cT) (cX cT c a6 a7 n ro cl fb rn nd V V2 PR pa ++ pool n pa (per sk mo wk fx wi la da we)) sz)) (wQv (fun (_ : Unit) => True) D (fun (_ : Unit) => cX cT c a6 a7 n ro cl fb rn nd V (fun _ => v) PR pa ++ pool n pa (per sk mo wk fx wi la da we)) (va_A (cX cT c a6 a7 n ro cl fb rn nd V V2 PR pa ++ pool n pa (per sk mo wk fx wi la da we)) sz)) 0 0 (va_A (cX cT c a6 a7 n ro cl fb rn nd V V2 PR pa ++ pool n pa (per sk mo wk fx wi la da we)) sz) := by
  refine wr_start (cc := cJ7_fill_d0a16) (maxL := 5) (ret := none) RJ7 ⟨by decide +kernel, rfl⟩ rfl (Nat.le_of_ble_eq_true rfl) ?_
  intro p0 e0 s0 m0 a0 b0 t0 c0 S hr hlocks hin hP hK hA hD hS ls hl
  generalize va_A (cX cT c a6 a7 n ro cl fb rn nd V V2 PR pa ++ pool n pa (per sk mo wk fx wi la da we)) sz = A at hA hD hS ⊢
  have hl : lv_has ls 5 [(0, .ref a7), (1, .long v)] := hl
  obtain ⟨hn, hcl, hfb, hrn, hnd, hper⟩ := id hwf
  refine lv_iconst (v := (nI 0)) S.1 S.2.1 dJ7_fill_d0a16_0 (by decide) ?_
  refine lv_istore_n (lv' := [(3, .int (nI 0)), (0, .ref a7), (1, .long v)]) S.1 S.2.1 dJ7_fill_d0a16_1 rfl hl (by decide) rfl (fun ls hl => ?_)
  refine lv_aload_n S.1 S.2.1 dJ7_fill_d0a16_2 rfl (lv_at hl 1 rfl) ?_
  refine g_alen S 7 1 hK hP rfl rfl dJ7_fill_d0a16_3 ?_
  refine lv_istore (lv' := [(4, .int (nI 480)), (3, .int (nI 0)), (0, .ref a7), (1, .long v)]) S.1 S.2.1 dJ7_fill_d0a16_4 hl (by decide) rfl (fun ls hl => ?_)
  have lp6 : ∀ (fu : Nat) (F : Nat → Int64) (i : Nat), (i ≤ 480) → (∀ j, j < i → F j = v) → (480 - i) < fu → ∀ (H : Heap) (locs : List Loc), va_P D vwCl (cX cT c a6 a7 n ro cl fb rn nd V F PR pa ++ pool n pa (per sk mo wk fx wi la da we)) H → va_D A (cX cT c a6 a7 n ro cl fb rn nd V F PR pa ++ pool n pa (per sk mo wk fx wi la da we)) → va_S A s0.heap H locs → ∀ ls : Array Slot, lv_has ls 5 [(0, .ref a7), (1, .long v), (3, .int (nI i)), (4, .int (nI 480))] → W p0 l e0 ({ frames := 0, cells := 0, slots := 0, locals := 0 } : Room) s0 m0 a0 b0 t0 c0 H locs 0 0 (MQ b0 (wQv (fun (_ : Unit) => True) D (fun (_ : Unit) => cX cT c a6 a7 n ro cl fb rn nd V (fun _ => v) PR pa ++ pool n pa (per sk mo wk fx wi la da we)) A) a0 s0 0 0 A) (F0 m0 6 ls []) := by
    intro fu
    induction fu with
    | zero =>
      intro F i h2 hF hm
      exact absurd hm (Nat.not_lt_zero _)
    | succ fu ih6 =>
      intro F i h2 hF hm H locs hP hD hS ls hl
      refine lv_iload_n S.1 S.2.1 dJ7_fill_d0a16_6 rfl (lv_at hl 2 rfl) ?_
      refine lv_iload S.1 S.2.1 dJ7_fill_d0a16_7 (lv_at hl 3 rfl) ?_
      refine n_cge S (tgt := 22) (by omega) dJ7_fill_d0a16_9 (by decide) (fun c9 => ?_) (fun c9 => ?_)
      · exact wr_vret S (()) hr hlocks (trivial) (la_hP (k0 := 7) rfl (fun j hj => hF j (by omega)) hP) (la_hD (k0 := 7) rfl (fun j hj => hF j (by omega)) hD) hS dJ7_fill_d0a16_22
      · refine lv_aload_n S.1 S.2.1 dJ7_fill_d0a16_12 rfl (lv_at hl 0 rfl) ?_
        refine lv_iload_n S.1 S.2.1 dJ7_fill_d0a16_13 rfl (lv_at hl 2 rfl) ?_
        refine lv_lload_n S.1 S.2.1 dJ7_fill_d0a16_14 rfl (lv_at hl 1 rfl) ?_
        refine w_last S 7 hK hP hD hS rfl (by omega) dJ7_fill_d0a16_15 (fun H locs hP hD hS => ?_)
        have hP : va_P D vwCl (cX cT c a6 a7 n ro cl fb rn nd V (vp_updL F i v) PR pa ++ pool n pa (per sk mo wk fx wi la da we)) H := hP
        have hD : va_D A (cX cT c a6 a7 n ro cl fb rn nd V (vp_updL F i v) PR pa ++ pool n pa (per sk mo wk fx wi la da we)) := hD
        refine lv_iinc (v := (nI (i + 1))) (lv' := [(3, .int (nI (i + 1))), (0, .ref a7), (1, .long v), (4, .int (nI 480))]) S.1 S.2.1 dJ7_fill_d0a16_16 hl (k := 2) rfl (nI_1 _) (by decide) rfl (fun ls hl => ?_)
        refine lv_goto (tgt := 6) S.1 S.2.1 dJ7_fill_d0a16_19 (by decide) ?_
        exact ih6 (vp_updL F i v) (i + 1) (by omega) (fun j hj => by show (if j = i then v else F j) = v; split; rfl; exact hF j (by omega)) (by omega) _ _ hP hD hS ls (lv_sub hl [1, 2, 0, 3] rfl)
  exact lp6 _ V2 0 (Nat.zero_le _) (fun j h => absurd h (Nat.not_lt_zero j)) (Nat.lt_succ_self _) _ _ hP hD hS ls (lv_sub hl [2, 3, 1, 0] rfl)

theorem pd_X1_goOn : yX1_goOn.cls = RX1 ∧ yX1_goOn.cls ≠ "java/lang/invoke/MethodHandle" ∧ yX1_goOn.cls ≠ "java/lang/invoke/VarHandle" ∧ (parseMethodDescriptor yX1_goOn.desc).map (fun d => d.parameters.length) = some 4 := by decide +kernel
theorem w_X1_goOn_0 : Cond.fieldLink RX1 15 "CoverSheet$DayTable" "nextValues" "[J" ∈ wsX1_goOn := by decide +kernel
theorem w_X1_goOn_1 : Cond.fieldLink RX1 11 "CoverSheet$DayTable" "values" "[J" ∈ wsX1_goOn := by decide +kernel
theorem in_X1_goOn_X1 : ∀ w ∈ u_ws RX1 TX1 2, w ∈ wsX1_goOn := by decide +kernel
theorem in_X1_goOn_X4 : ∀ w ∈ u_ws RX4 TX4 8, w ∈ wsX1_goOn := by decide +kernel
set_option maxHeartbeats 4000000 in
set_option maxRecDepth 100000 in
theorem w_X1_goOn_X5 (l : Launch) (D : va_G) (cT : ClassId × ClassId × ClassId) (sz : Nat) (c pa : Nat → Nat) (bd a6 a7 n ro cl fb rn : Nat) (nd sk mo wk fx wi la da we : Nat → Nat) (V V2 PR : Nat → Int64) (i d : Nat) (hwf : wfC n bd fb rn nd sk mo wk fx wi la da we) (hi : i < n) (hd : d < 7) : Met l yX1_goOn wsX1_goOn ({ frames := 2, cells := 0, slots := 0, locals := 47 } : Room) (va_Pc [.ref (c 5), .ref (pa i), .ref (c 4), .ref (c 9), .int (nI d)] (wr_R D (TY cT) (cX cT c a6 a7 n ro cl fb rn nd V V2 PR pa ++ pool n pa (per sk mo wk fx wi la da we)) sz)) (wQv (fun (_ : Unit) => True) D (fun (_ : Unit) => cX cT c a7 a6 n ro cl fb rn nd (goP (okp (sk i) (mo i) (fx i) fb rn d) (fun v e => v + PR (d * 4 + e)) (fun a b => if b < a then b else a) 9223372036854775807 V 480) V PR pa ++ pool n pa (per sk mo wk fx wi la da we)) (va_A (cX cT c a6 a7 n ro cl fb rn nd V V2 PR pa ++ pool n pa (per sk mo wk fx wi la da we)) sz)) 0 0 (va_A (cX cT c a6 a7 n ro cl fb rn nd V V2 PR pa ++ pool n pa (per sk mo wk fx wi la da we)) sz) := by
  refine wr_start (cc := cX1_goOn) (maxL := 16) (ret := none) RX1 ⟨by decide +kernel, rfl⟩ rfl (Nat.le_of_ble_eq_true rfl) ?_
  intro p0 e0 s0 m0 a0 b0 t0 c0 S hr hlocks hin hP hK hA hD hS ls hl
  generalize va_A (cX cT c a6 a7 n ro cl fb rn nd V V2 PR pa ++ pool n pa (per sk mo wk fx wi la da we)) sz = A at hA hD hS ⊢
  have hl : lv_has ls 16 [(0, .ref (c 5)), (1, .ref (pa i)), (2, .ref (c 4)), (3, .ref (c 9)), (4, .int (nI d))] := hl
  obtain ⟨hn, hcl, hfb, hrn, hnd, hper⟩ := id hwf
  have hpi := hper i
  refine lv_aload_n S.1 S.2.1 dX1_goOn_0 rfl (lv_at hl 0 rfl) ?_
  refine g_get (C := RX1) (T := TX1) (N := 2) (v := .ref a7) S 5 1 1 in_X1_goOn_X1 hK hP rfl rfl (by decide) w_X1_goOn_0 rfl dX1_goOn_1 ?_
  refine lv_aload_n S.1 S.2.1 dX1_goOn_4 rfl (lv_at hl 3 rfl) ?_
  refine rd_callUl (x := ⟨"CoverSheet$Measure", "none", "()J"⟩) (owner := "CoverSheet$Measure") (n := 0) (rest := [.ref a7]) S (r_X5_none l D cT (c 9) (c 10) ) gX1_goOn_X5_none_u18X5 rfl (List.mem_of_getElem? (i := 17) rfl) (by decide +kernel) ⟨rfl, rfl, Nat.le_of_ble_eq_true rfl, Nat.le_of_ble_eq_true rfl⟩ (hP.sub (ws' := [(c 9, .inr (4, [.ref (c 10)]))]) [9] rfl) hK (va_recv hK.1 hP (ci := 4) (q0 := 9) rfl rfl) hl rfl rfl (Nat.le_of_ble_eq_true rfl) ⟨Nat.zero_le _, Nat.zero_le _⟩ dX1_goOn_5 ?_
  refine wr_callSv (rest := []) S (w_J7_fill_7 l D cT _ c pa bd a6 a7 n ro cl fb rn nd sk mo wk fx wi la da we V V2 PR 9223372036854775807 (hwf)) gX1_goOn_J7_fill_d0a16 rfl pd_J7_fill_d0a16 ⟨rfl, rfl, Nat.le_of_ble_eq_true rfl, Nat.le_of_ble_eq_true rfl⟩ hP hK hD hS hA hl rfl rfl (Nat.le_of_ble_eq_true rfl) ⟨Nat.zero_le _, Nat.zero_le _⟩ dX1_goOn_8 (fun u_ H locs hr_ hP hD hS => ?_)
  have hP : va_P D vwCl (cX cT c a6 a7 n ro cl fb rn nd V (fun _ => 9223372036854775807) PR pa ++ pool n pa (per sk mo wk fx wi la da we)) H := hP
  have hD : va_D A (cX cT c a6 a7 n ro cl fb rn nd V (fun _ => 9223372036854775807) PR pa ++ pool n pa (per sk mo wk fx wi la da we)) := hD
  refine lv_iconst (v := (nI 0)) S.1 S.2.1 dX1_goOn_11 (by decide) ?_
  refine lv_istore (lv' := [(5, .int (nI 0)), (0, .ref (c 5)), (1, .ref (pa i)), (2, .ref (c 4)), (3, .ref (c 9)), (4, .int (nI d))]) S.1 S.2.1 dX1_goOn_12 hl (by decide) rfl (fun ls hl => ?_)
  have lp14 : ∀ (fu : Nat) (N1 : Nat → Int64) (p : Nat), (p ≤ 480) → (N1 = goP (okp (sk i) (mo i) (fx i) fb rn d) (fun v e => v + PR (d * 4 + e)) (fun a b => if b < a then b else a) 9223372036854775807 V p) → (480 - p) < fu → ∀ (H : Heap) (locs : List Loc), va_P D vwCl (cX cT c a6 a7 n ro cl fb rn nd V N1 PR pa ++ pool n pa (per sk mo wk fx wi la da we)) H → va_D A (cX cT c a6 a7 n ro cl fb rn nd V N1 PR pa ++ pool n pa (per sk mo wk fx wi la da we)) → va_S A s0.heap H locs → ∀ ls : Array Slot, lv_has ls 16 [(0, .ref (c 5)), (1, .ref (pa i)), (2, .ref (c 4)), (3, .ref (c 9)), (4, .int (nI d)), (5, .int (nI p))] → W p0 l e0 ({ frames := 2, cells := 0, slots := 0, locals := 47 } : Room) s0 m0 a0 b0 t0 c0 H locs 0 0 (MQ b0 (wQv (fun (_ : Unit) => True) D (fun (_ : Unit) => cX cT c a7 a6 n ro cl fb rn nd (goP (okp (sk i) (mo i) (fx i) fb rn d) (fun v e => v + PR (d * 4 + e)) (fun a b => if b < a then b else a) 9223372036854775807 V 480) V PR pa ++ pool n pa (per sk mo wk fx wi la da we)) A) a0 s0 0 0 A) (F0 m0 14 ls []) := by
    intro fu
    induction fu with
    | zero =>
      intro N1 p h2 hN1 hm
      exact absurd hm (Nat.not_lt_zero _)
    | succ fu ih14 =>
      intro N1 p h2 hN1 hm H locs hP hD hS ls hl
      refine lv_iload S.1 S.2.1 dX1_goOn_14 (lv_at hl 5 rfl) ?_
      refine lv_aload_n S.1 S.2.1 dX1_goOn_16 rfl (lv_at hl 0 rfl) ?_
      refine g_get (C := RX1) (T := TX1) (N := 2) (v := .ref a6) S 5 1 0 in_X1_goOn_X1 hK hP rfl rfl (by decide) w_X1_goOn_1 rfl dX1_goOn_17 ?_
      refine g_alen S 6 1 hK hP rfl rfl dX1_goOn_20 ?_
      refine n_cge S (tgt := 221) (by omega) dX1_goOn_21 (by decide) (fun c21 => ?_) (fun c21 => ?_)
      · refine lv_aload_n S.1 S.2.1 dX1_goOn_221 rfl (lv_at hl 0 rfl) ?_
        refine g_get (C := RX1) (T := TX1) (N := 2) (v := .ref a6) S 5 1 0 in_X1_goOn_X1 hK hP rfl rfl (by decide) w_X1_goOn_1 rfl dX1_goOn_222 ?_
        refine lv_astore (lv' := [(5, .ref a6), (0, .ref (c 5)), (1, .ref (pa i)), (2, .ref (c 4)), (3, .ref (c 9)), (4, .int (nI d))]) S.1 S.2.1 dX1_goOn_225 hl (by decide) rfl (fun ls hl => ?_)
        refine lv_aload_n S.1 S.2.1 dX1_goOn_227 rfl (lv_at hl 1 rfl) ?_
        refine lv_aload_n S.1 S.2.1 dX1_goOn_228 rfl (lv_at hl 1 rfl) ?_
        refine g_get (C := RX1) (T := TX1) (N := 2) (v := .ref a7) S 5 1 1 in_X1_goOn_X1 hK hP rfl rfl (by decide) w_X1_goOn_0 rfl dX1_goOn_229 ?_
        refine w_put (C := RX1) (T := TX1) (N := 2) (v := .ref (a7)) (ty := .array .long) S 5 1 0 in_X1_goOn_X1 tyX1 tyX1_ok nmX1 hK hP hD hS rfl rfl (by decide) w_X1_goOn_1 rfl (by decide +kernel) rfl rfl (Nat.le_of_ble_eq_true rfl) dX1_goOn_232 (fun H locs hP hD hS => ?_)
        refine lv_aload_n S.1 S.2.1 dX1_goOn_235 rfl (lv_at hl 1 rfl) ?_
        refine lv_aload S.1 S.2.1 dX1_goOn_236 (lv_at hl 0 rfl) ?_
        refine w_put (C := RX1) (T := TX1) (N := 2) (v := .ref (a6)) (ty := .array .long) S 5 1 1 in_X1_goOn_X1 tyX1 tyX1_ok nmX1 hK hP hD hS rfl rfl (by decide) w_X1_goOn_0 rfl (by decide +kernel) rfl rfl (Nat.le_of_ble_eq_true rfl) dX1_goOn_238 (fun H locs hP hD hS => ?_)
        have hP : va_P D vwCl ([(c 0, .inr (6, [.ref (c 1), .ref (c 2), .ref (c 4), .ref (c 5), .ref (c 8), .ref (c 9), .int (nI n), .int (nI ro), .int (nI cl)])), (c 1, .inl (cT.2.2, 8, .inr (.inr (.inr (.inr (tm n pa)))))), (c 2, .inr (2, [.ref (c 3)])), (c 3, .inl (cT.1, 28, .inl (fun k => nI (nd k)))), (c 4, .inr (5, [.int (nI fb), .int (nI rn)])), (c 5, .inr (1, [.ref a7, .ref a6])), (a6, .inl (cT.2.1, 480, .inr (.inl V))), (a7, .inl (cT.2.1, 480, .inr (.inl N1))), (c 8, .inr (0, [])), (c 9, .inr (4, [.ref (c 10)])), (c 10, .inl (cT.2.1, 28, .inr (.inl PR)))] ++ pool n pa (per sk mo wk fx wi la da we)) H := hP
        have hD : va_D A ([(c 0, .inr (6, [.ref (c 1), .ref (c 2), .ref (c 4), .ref (c 5), .ref (c 8), .ref (c 9), .int (nI n), .int (nI ro), .int (nI cl)])), (c 1, .inl (cT.2.2, 8, .inr (.inr (.inr (.inr (tm n pa)))))), (c 2, .inr (2, [.ref (c 3)])), (c 3, .inl (cT.1, 28, .inl (fun k => nI (nd k)))), (c 4, .inr (5, [.int (nI fb), .int (nI rn)])), (c 5, .inr (1, [.ref a7, .ref a6])), (a6, .inl (cT.2.1, 480, .inr (.inl V))), (a7, .inl (cT.2.1, 480, .inr (.inl N1))), (c 8, .inr (0, [])), (c 9, .inr (4, [.ref (c 10)])), (c 10, .inl (cT.2.1, 28, .inr (.inl PR)))] ++ pool n pa (per sk mo wk fx wi la da we)) := hD
        rw [show p = 480 by omega] at hN1
        rw [hN1] at hP hD
        exact wr_vret S () hr hlocks trivial (perm67 hP) (perm67D hD) hS dX1_goOn_241
      · refine lv_aload_n S.1 S.2.1 dX1_goOn_24 rfl (lv_at hl 0 rfl) ?_
        refine g_get (C := RX1) (T := TX1) (N := 2) (v := .ref a6) S 5 1 0 in_X1_goOn_X1 hK hP rfl rfl (by decide) w_X1_goOn_1 rfl dX1_goOn_25 ?_
        refine lv_iload S.1 S.2.1 dX1_goOn_28 (lv_at hl 5 rfl) ?_
        refine g_lald S 6 hK hP rfl (by omega) dX1_goOn_30 ?_
        refine lv_lstore (lv' := [(6, .long (V p)), (0, .ref (c 5)), (1, .ref (pa i)), (2, .ref (c 4)), (3, .ref (c 9)), (4, .int (nI d)), (5, .int (nI p))]) S.1 S.2.1 dX1_goOn_31 hl (by decide) rfl (fun ls hl => ?_)
        refine lv_lload S.1 S.2.1 dX1_goOn_33 (lv_at hl 0 rfl) ?_
        refine lv_aload_n S.1 S.2.1 dX1_goOn_35 rfl (lv_at hl 4 rfl) ?_
        refine rd_callUl (x := ⟨"CoverSheet$Measure", "none", "()J"⟩) (owner := "CoverSheet$Measure") (n := 0) (rest := [.long (V p)]) S (r_X5_none l D cT (c 9) (c 10) ) gX1_goOn_X5_none_u18X5 rfl (List.mem_of_getElem? (i := 17) rfl) (by decide +kernel) ⟨rfl, rfl, Nat.le_of_ble_eq_true rfl, Nat.le_of_ble_eq_true rfl⟩ (hP.sub (ws' := [(c 9, .inr (4, [.ref (c 10)]))]) [9] rfl) hK (va_recv hK.1 hP (ci := 4) (q0 := 9) rfl rfl) hl rfl rfl (Nat.le_of_ble_eq_true rfl) ⟨Nat.zero_le _, Nat.zero_le _⟩ dX1_goOn_36 ?_
        refine n_lne S (tgt := 46) dX1_goOn_39 dX1_goOn_40 (by decide) (fun c40 => ?_) (fun c40 => ?_)
        · refine lv_iload S.1 S.2.1 dX1_goOn_46 (lv_at hl 6 rfl) ?_
          refine lv_iconst (v := (nI 4)) S.1 S.2.1 dX1_goOn_48 (by decide) ?_
          refine n_rem S (by omega) dX1_goOn_49 ?_
          refine lv_istore (lv' := [(8, .int (nI (p % 4))), (6, .long (V p)), (0, .ref (c 5)), (1, .ref (pa i)), (2, .ref (c 4)), (3, .ref (c 9)), (4, .int (nI d)), (5, .int (nI p))]) S.1 S.2.1 dX1_goOn_50 hl (by decide) rfl (fun ls hl => ?_)
          refine lv_iload S.1 S.2.1 dX1_goOn_52 (lv_at hl 7 rfl) ?_
          refine lv_iconst (v := (nI 4)) S.1 S.2.1 dX1_goOn_54 (by decide) ?_
          refine n_div S (by omega) dX1_goOn_55 ?_
          refine lv_bipush (v := (nI 15)) S.1 S.2.1 dX1_goOn_56 (by decide) ?_
          refine n_rem S (by omega) dX1_goOn_58 ?_
          refine lv_istore (lv' := [(9, .int (nI ((p / 4) % 15))), (8, .int (nI (p % 4))), (6, .long (V p)), (0, .ref (c 5)), (1, .ref (pa i)), (2, .ref (c 4)), (3, .ref (c 9)), (4, .int (nI d)), (5, .int (nI p))]) S.1 S.2.1 dX1_goOn_59 hl (by decide) rfl (fun ls hl => ?_)
          refine lv_iload S.1 S.2.1 dX1_goOn_61 (lv_at hl 8 rfl) ?_
          refine lv_iconst (v := (nI 4)) S.1 S.2.1 dX1_goOn_63 (by decide) ?_
          refine n_div S (by omega) dX1_goOn_64 ?_
          refine lv_bipush (v := (nI 15)) S.1 S.2.1 dX1_goOn_65 (by decide) ?_
          refine n_div S (by omega) dX1_goOn_67 ?_
          refine lv_istore (lv' := [(10, .int (nI ((p / 4) / 15))), (9, .int (nI ((p / 4) % 15))), (8, .int (nI (p % 4))), (6, .long (V p)), (0, .ref (c 5)), (1, .ref (pa i)), (2, .ref (c 4)), (3, .ref (c 9)), (4, .int (nI d)), (5, .int (nI p))]) S.1 S.2.1 dX1_goOn_68 hl (by decide) rfl (fun ls hl => ?_)
          refine lv_iconst (v := (nI 0)) S.1 S.2.1 dX1_goOn_70 (by decide) ?_
          refine lv_istore (lv' := [(11, .int (nI 0)), (10, .int (nI ((p / 4) / 15))), (9, .int (nI ((p / 4) % 15))), (8, .int (nI (p % 4))), (6, .long (V p)), (0, .ref (c 5)), (1, .ref (pa i)), (2, .ref (c 4)), (3, .ref (c 9)), (4, .int (nI d)), (5, .int (nI p))]) S.1 S.2.1 dX1_goOn_71 hl (by decide) rfl (fun ls hl => ?_)
          have lp73 : ∀ (fu : Nat) (N2 : Nat → Int64) (e : Nat), (e ≤ 4) → (N2 = goE (okp (sk i) (mo i) (fx i) fb rn d) (fun v e => v + PR (d * 4 + e)) (fun a b => if b < a then b else a) (V p) p N1 e) → (4 - e) < fu → ∀ (H : Heap) (locs : List Loc), va_P D vwCl (cX cT c a6 a7 n ro cl fb rn nd V N2 PR pa ++ pool n pa (per sk mo wk fx wi la da we)) H → va_D A (cX cT c a6 a7 n ro cl fb rn nd V N2 PR pa ++ pool n pa (per sk mo wk fx wi la da we)) → va_S A s0.heap H locs → ∀ ls : Array Slot, lv_has ls 16 [(0, .ref (c 5)), (1, .ref (pa i)), (2, .ref (c 4)), (3, .ref (c 9)), (4, .int (nI d)), (5, .int (nI p)), (6, .long (V p)), (8, .int (nI (p % 4))), (9, .int (nI ((p / 4) % 15))), (10, .int (nI ((p / 4) / 15))), (11, .int (nI e))] → W p0 l e0 ({ frames := 2, cells := 0, slots := 0, locals := 47 } : Room) s0 m0 a0 b0 t0 c0 H locs 0 0 (MQ b0 (wQv (fun (_ : Unit) => True) D (fun (_ : Unit) => cX cT c a7 a6 n ro cl fb rn nd (goP (okp (sk i) (mo i) (fx i) fb rn d) (fun v e => v + PR (d * 4 + e)) (fun a b => if b < a then b else a) 9223372036854775807 V 480) V PR pa ++ pool n pa (per sk mo wk fx wi la da we)) A) a0 s0 0 0 A) (F0 m0 73 ls []) := by
            intro fu
            induction fu with
            | zero =>
              intro N2 e h3 hN2 hm
              exact absurd hm (Nat.not_lt_zero _)
            | succ fu ih73 =>
              intro N2 e h3 hN2 hm H locs hP hD hS ls hl
              refine lv_iload S.1 S.2.1 dX1_goOn_73 (lv_at hl 10 rfl) ?_
              refine lv_iconst (v := (nI 3)) S.1 S.2.1 dX1_goOn_75 (by decide) ?_
              refine n_cgt S (tgt := 215) (by omega) dX1_goOn_76 (by decide) (fun c76 => ?_) (fun c76 => ?_)
              · refine lv_iinc (v := (nI (p + 1))) (lv' := [(5, .int (nI (p + 1))), (0, .ref (c 5)), (1, .ref (pa i)), (2, .ref (c 4)), (3, .ref (c 9)), (4, .int (nI d)), (6, .long (V p)), (8, .int (nI (p % 4))), (9, .int (nI ((p / 4) % 15))), (10, .int (nI ((p / 4) / 15))), (11, .int (nI e))]) S.1 S.2.1 dX1_goOn_215 hl (k := 5) rfl (nI_1 _) (by decide) rfl (fun ls hl => ?_)
                refine lv_goto (tgt := 14) S.1 S.2.1 dX1_goOn_218 (by decide) ?_
                exact ih14 N2 (p + 1) (by omega) (by rw [hN2, show e = 4 by omega, hN1]; exact (goP_y c40).symm) (by omega) _ _ hP hD hS ls (lv_sub hl [1, 2, 3, 4, 5, 0] rfl)
              · refine lv_iload S.1 S.2.1 dX1_goOn_79 (lv_at hl 10 rfl) ?_
                refine n_zeq S (tgt := 97) (by omega) dX1_goOn_81 (by decide) (fun c81 => ?_) (fun c81 => ?_)
                · refine lv_iconst (v := (nI 0)) S.1 S.2.1 dX1_goOn_97 (by decide) ?_
                  refine lv_istore (lv' := [(12, .int (nI 0)), (0, .ref (c 5)), (1, .ref (pa i)), (2, .ref (c 4)), (3, .ref (c 9)), (4, .int (nI d)), (5, .int (nI p)), (6, .long (V p)), (8, .int (nI (p % 4))), (9, .int (nI ((p / 4) % 15))), (10, .int (nI ((p / 4) / 15))), (11, .int (nI e))]) S.1 S.2.1 dX1_goOn_98 hl (by decide) rfl (fun ls hl => ?_)
                  refine lv_iload S.1 S.2.1 dX1_goOn_100 (lv_at hl 0 rfl) ?_
                  refine n_zne S (tgt := 209) (by decide) dX1_goOn_102 (by decide) (fun q => absurd q (by decide)) (fun _ => ?_)
                  refine lv_aload_n S.1 S.2.1 dX1_goOn_105 rfl (lv_at hl 2 rfl) ?_
                  refine lv_iload S.1 S.2.1 dX1_goOn_106 (lv_at hl 5 rfl) ?_
                  refine lv_iload S.1 S.2.1 dX1_goOn_108 (lv_at hl 11 rfl) ?_
                  refine rd_callV (rest := []) S (r_X4_mayHave l D cT (pa i) (sk i) (mo i) (wk i) (fx i) (wi i) (la i) (da i) (we i) d e (hd) (by omega) (by omega) (by omega)) gX1_goOn_X4_mayHave rfl pd_X4_mayHave ⟨rfl, rfl, Nat.le_of_ble_eq_true rfl, Nat.le_of_ble_eq_true rfl⟩ (pool_one hP (by omega)) hK (va_recv hK.1 hP (ci := 3) (q0 := _) rfl (pool_at (by omega))) hl rfl rfl (Nat.le_of_ble_eq_true rfl) ⟨Nat.zero_le _, Nat.zero_le _⟩ dX1_goOn_110 ?_
                  refine n_beq S (tgt := 209) dX1_goOn_113 (by decide) (fun c113 => ?_) (fun c113 => ?_)
                  · refine lv_iinc (v := (nI (e + 1))) (lv' := [(11, .int (nI (e + 1))), (12, .int (nI 0)), (0, .ref (c 5)), (1, .ref (pa i)), (2, .ref (c 4)), (3, .ref (c 9)), (4, .int (nI d)), (5, .int (nI p)), (6, .long (V p)), (8, .int (nI (p % 4))), (9, .int (nI ((p / 4) % 15))), (10, .int (nI ((p / 4) / 15)))]) S.1 S.2.1 dX1_goOn_209 hl (k := 11) rfl (nI_1 _) (by decide) rfl (fun ls hl => ?_)
                    refine lv_goto (tgt := 73) S.1 S.2.1 dX1_goOn_212 (by decide) ?_
                    exact ih73 N2 (e + 1) (by omega) (by rw [hN2]; exact (goE_n (okp_n2 c113)).symm) (by omega) _ _ hP hD hS ls (lv_sub hl [2, 3, 4, 5, 6, 7, 8, 9, 10, 11, 0] rfl)
                  · refine lv_aload_n S.1 S.2.1 dX1_goOn_116 rfl (lv_at hl 3 rfl) ?_
                    refine lv_iload S.1 S.2.1 dX1_goOn_117 (lv_at hl 8 rfl) ?_
                    refine lv_iload S.1 S.2.1 dX1_goOn_119 (lv_at hl 9 rfl) ?_
                    refine lv_iload S.1 S.2.1 dX1_goOn_121 (lv_at hl 11 rfl) ?_
                    refine rd_callV (rest := []) S (r_X6_allow l D cT (c 4) fb rn (p % 4) ((p / 4) % 15) e (by omega) (by omega) (⟨by omega, by omega, by omega⟩)) gX1_goOn_X6_allow rfl pd_X6_allow ⟨rfl, rfl, Nat.le_of_ble_eq_true rfl, Nat.le_of_ble_eq_true rfl⟩ (hP.sub (ws' := [(c 4, .inr (5, [.int (nI fb), .int (nI rn)]))]) [4] rfl) hK (va_recv hK.1 hP (ci := 5) (q0 := 4) rfl rfl) hl rfl rfl (Nat.le_of_ble_eq_true rfl) ⟨Nat.zero_le _, Nat.zero_le _⟩ dX1_goOn_123 ?_
                    refine n_bne S (tgt := 132) dX1_goOn_126 (by decide) (fun c126 => ?_) (fun c126 => ?_)
                    · refine lv_iload S.1 S.2.1 dX1_goOn_132 (lv_at hl 11 rfl) ?_
                      refine n_zne S (tgt := 147) (by omega) dX1_goOn_134 (by decide) (fun c134 => ?_) (fun c134 => ?_)
                      · refine lv_iload S.1 S.2.1 dX1_goOn_147 (lv_at hl 10 rfl) ?_
                        refine lv_iconst (v := (nI 1)) S.1 S.2.1 dX1_goOn_149 (by decide) ?_
                        refine n_add S dX1_goOn_150 ?_
                        refine lv_iload S.1 S.2.1 dX1_goOn_151 (lv_at hl 9 rfl) ?_
                        refine lv_iconst (v := (nI 1)) S.1 S.2.1 dX1_goOn_153 (by decide) ?_
                        refine n_add S dX1_goOn_154 ?_
                        refine lv_iload S.1 S.2.1 dX1_goOn_155 (lv_at hl 11 rfl) ?_
                        refine rd_callS (rest := []) S (r_X1_placeOf l D cT (((p / 4) / 15) + 1) (((p / 4) % 15) + 1) e ) gX1_goOn_X1_placeOf rfl pd_X1_placeOf ⟨rfl, rfl, Nat.le_of_ble_eq_true rfl, Nat.le_of_ble_eq_true rfl⟩ (sx_P0 D _) hK hl rfl rfl (Nat.le_of_ble_eq_true rfl) ⟨Nat.zero_le _, Nat.zero_le _⟩ dX1_goOn_157 ?_
                        have hnx : nx p e < 480 := nx_lt (mo := mo i) (by omega) (by omega) (Or.inl c81) (by omega) c126 hrn
                        refine n_top (nx_1 (p := p) (e := e) c134) ?_
                        refine lv_istore (lv' := [(13, .int (nI (nx p e))), (12, .int (nI 0)), (0, .ref (c 5)), (1, .ref (pa i)), (2, .ref (c 4)), (3, .ref (c 9)), (4, .int (nI d)), (5, .int (nI p)), (6, .long (V p)), (8, .int (nI (p % 4))), (9, .int (nI ((p / 4) % 15))), (10, .int (nI ((p / 4) / 15))), (11, .int (nI e))]) S.1 S.2.1 dX1_goOn_160 hl (by decide) rfl (fun ls hl => ?_)
                        refine lv_iload S.1 S.2.1 dX1_goOn_162 (lv_at hl 0 rfl) ?_
                        refine n_zlt S (tgt := 209) (by omega) dX1_goOn_164 (by decide) ?_
                        refine lv_iload S.1 S.2.1 dX1_goOn_167 (lv_at hl 0 rfl) ?_
                        refine lv_aload_n S.1 S.2.1 dX1_goOn_169 rfl (lv_at hl 2 rfl) ?_
                        refine g_get (C := RX1) (T := TX1) (N := 2) (v := .ref a7) S 5 1 1 in_X1_goOn_X1 hK hP rfl rfl (by decide) w_X1_goOn_0 rfl dX1_goOn_170 ?_
                        refine g_alen S 7 1 hK hP rfl rfl dX1_goOn_173 ?_
                        refine n_cge S (tgt := 209) (by omega) dX1_goOn_174 (by decide) (fun c174 => ?_) (fun c174 => ?_)
                        · exact absurd c174 (by omega)
                        refine lv_aload_n S.1 S.2.1 dX1_goOn_177 rfl (lv_at hl 5 rfl) ?_
                        refine lv_lload S.1 S.2.1 dX1_goOn_178 (lv_at hl 8 rfl) ?_
                        refine lv_iload S.1 S.2.1 dX1_goOn_180 (lv_at hl 6 rfl) ?_
                        refine lv_iload S.1 S.2.1 dX1_goOn_182 (lv_at hl 12 rfl) ?_
                        refine rd_callUl (x := ⟨"CoverSheet$Measure", "longer", "(JII)J"⟩) (owner := "CoverSheet$Measure") (n := 3) (rest := []) S (r_X5_longer l D cT (c 9) (c 10) PR (V p) d e (hd) (by omega)) gX1_goOn_X5_longer_u73X5 rfl (List.mem_of_getElem? (i := 19) rfl) (by decide +kernel) ⟨rfl, rfl, Nat.le_of_ble_eq_true rfl, Nat.le_of_ble_eq_true rfl⟩ (sx_P2 (hP.sub (ws' := [(c 9, .inr (4, [.ref (c 10)]))]) [9] rfl) (hP.sub (ws' := [(c 10, .inl (cT.2.1, 28, .inr (.inl PR)))]) [10] rfl)) hK (va_recv hK.1 hP (ci := 4) (q0 := 9) rfl rfl) hl rfl rfl (Nat.le_of_ble_eq_true rfl) ⟨Nat.zero_le _, Nat.zero_le _⟩ dX1_goOn_184 ?_
                        refine lv_lstore (lv' := [(14, .long ((V p) + PR (d * 4 + e))), (13, .int (nI (nx p e))), (12, .int (nI 0)), (0, .ref (c 5)), (1, .ref (pa i)), (2, .ref (c 4)), (3, .ref (c 9)), (4, .int (nI d)), (5, .int (nI p)), (6, .long (V p)), (8, .int (nI (p % 4))), (9, .int (nI ((p / 4) % 15))), (10, .int (nI ((p / 4) / 15))), (11, .int (nI e))]) S.1 S.2.1 dX1_goOn_187 hl (by decide) rfl (fun ls hl => ?_)
                        refine lv_aload_n S.1 S.2.1 dX1_goOn_189 rfl (lv_at hl 3 rfl) ?_
                        refine g_get (C := RX1) (T := TX1) (N := 2) (v := .ref a7) S 5 1 1 in_X1_goOn_X1 hK hP rfl rfl (by decide) w_X1_goOn_0 rfl dX1_goOn_190 ?_
                        refine lv_iload S.1 S.2.1 dX1_goOn_193 (lv_at hl 1 rfl) ?_
                        refine lv_aload_n S.1 S.2.1 dX1_goOn_195 rfl (lv_at hl 6 rfl) ?_
                        refine lv_aload_n S.1 S.2.1 dX1_goOn_196 rfl (lv_at hl 3 rfl) ?_
                        refine g_get (C := RX1) (T := TX1) (N := 2) (v := .ref a7) S 5 1 1 in_X1_goOn_X1 hK hP rfl rfl (by decide) w_X1_goOn_0 rfl dX1_goOn_197 ?_
                        refine lv_iload S.1 S.2.1 dX1_goOn_200 (lv_at hl 1 rfl) ?_
                        refine g_lald S 7 hK hP rfl (by omega) dX1_goOn_202 ?_
                        refine lv_lload S.1 S.2.1 dX1_goOn_203 (lv_at hl 0 rfl) ?_
                        refine rd_callUl (x := ⟨"CoverSheet$Measure", "joined", "(JJ)J"⟩) (owner := "CoverSheet$Measure") (n := 2) (rest := [.int (nI (nx p e)), .ref a7]) S (r_X5_joined l D cT (c 9) (c 10) (N2 (nx p e)) ((V p) + PR (d * 4 + e)) ) gX1_goOn_X5_joined_u56X5 rfl (List.mem_of_getElem? (i := 20) rfl) (by decide +kernel) ⟨rfl, rfl, Nat.le_of_ble_eq_true rfl, Nat.le_of_ble_eq_true rfl⟩ (hP.sub (ws' := [(c 9, .inr (4, [.ref (c 10)]))]) [9] rfl) hK (va_recv hK.1 hP (ci := 4) (q0 := 9) rfl rfl) hl rfl rfl (Nat.le_of_ble_eq_true rfl) ⟨Nat.zero_le _, Nat.zero_le _⟩ dX1_goOn_205 ?_
                        refine w_last S 7 hK hP hD hS rfl (by omega) dX1_goOn_208 (fun H locs hP hD hS => ?_)
                        have hP : va_P D vwCl (cX cT c a6 a7 n ro cl fb rn nd V (vp_updL N2 (nx p e) (if ((V p) + PR (d * 4 + e)) < (N2 (nx p e)) then ((V p) + PR (d * 4 + e)) else (N2 (nx p e)))) PR pa ++ pool n pa (per sk mo wk fx wi la da we)) H := hP
                        have hD : va_D A (cX cT c a6 a7 n ro cl fb rn nd V (vp_updL N2 (nx p e) (if ((V p) + PR (d * 4 + e)) < (N2 (nx p e)) then ((V p) + PR (d * 4 + e)) else (N2 (nx p e)))) PR pa ++ pool n pa (per sk mo wk fx wi la da we)) := hD
                        refine lv_iinc (v := (nI (e + 1))) (lv' := [(11, .int (nI (e + 1))), (14, .long ((V p) + PR (d * 4 + e))), (13, .int (nI (nx p e))), (12, .int (nI 0)), (0, .ref (c 5)), (1, .ref (pa i)), (2, .ref (c 4)), (3, .ref (c 9)), (4, .int (nI d)), (5, .int (nI p)), (6, .long (V p)), (8, .int (nI (p % 4))), (9, .int (nI ((p / 4) % 15))), (10, .int (nI ((p / 4) / 15)))]) S.1 S.2.1 dX1_goOn_209 hl (k := 13) rfl (nI_1 _) (by decide) rfl (fun ls hl => ?_)
                        refine lv_goto (tgt := 73) S.1 S.2.1 dX1_goOn_212 (by decide) ?_
                        exact ih73 (vp_updL N2 (nx p e) (if ((V p) + PR (d * 4 + e)) < (N2 (nx p e)) then ((V p) + PR (d * 4 + e)) else (N2 (nx p e)))) (e + 1) (by omega) (by rw [hN2]; exact (goE_y (okp_y (Or.inl c81) c113 c126)).symm) (by omega) _ _ hP hD hS ls (lv_sub hl [4, 5, 6, 7, 8, 9, 10, 11, 12, 13, 0] rfl)
                      · refine lv_iload S.1 S.2.1 dX1_goOn_137 (lv_at hl 10 rfl) ?_
                        refine lv_iconst (v := (nI 0)) S.1 S.2.1 dX1_goOn_139 (by decide) ?_
                        refine lv_iconst (v := (nI 0)) S.1 S.2.1 dX1_goOn_140 (by decide) ?_
                        refine rd_callS (rest := []) S (r_X1_placeOf l D cT ((p / 4) / 15) 0 0 ) gX1_goOn_X1_placeOf rfl pd_X1_placeOf ⟨rfl, rfl, Nat.le_of_ble_eq_true rfl, Nat.le_of_ble_eq_true rfl⟩ (sx_P0 D _) hK hl rfl rfl (Nat.le_of_ble_eq_true rfl) ⟨Nat.zero_le _, Nat.zero_le _⟩ dX1_goOn_141 ?_
                        refine lv_goto (tgt := 160) S.1 S.2.1 dX1_goOn_144 (by decide) ?_
                        have hnx : nx p e < 480 := nx_lt (mo := mo i) (by omega) (by omega) (Or.inl c81) (by omega) c126 hrn
                        refine n_top (nx_0 (p := p) (e := e) c134) ?_
                        refine lv_istore (lv' := [(13, .int (nI (nx p e))), (12, .int (nI 0)), (0, .ref (c 5)), (1, .ref (pa i)), (2, .ref (c 4)), (3, .ref (c 9)), (4, .int (nI d)), (5, .int (nI p)), (6, .long (V p)), (8, .int (nI (p % 4))), (9, .int (nI ((p / 4) % 15))), (10, .int (nI ((p / 4) / 15))), (11, .int (nI e))]) S.1 S.2.1 dX1_goOn_160 hl (by decide) rfl (fun ls hl => ?_)
                        refine lv_iload S.1 S.2.1 dX1_goOn_162 (lv_at hl 0 rfl) ?_
                        refine n_zlt S (tgt := 209) (by omega) dX1_goOn_164 (by decide) ?_
                        refine lv_iload S.1 S.2.1 dX1_goOn_167 (lv_at hl 0 rfl) ?_
                        refine lv_aload_n S.1 S.2.1 dX1_goOn_169 rfl (lv_at hl 2 rfl) ?_
                        refine g_get (C := RX1) (T := TX1) (N := 2) (v := .ref a7) S 5 1 1 in_X1_goOn_X1 hK hP rfl rfl (by decide) w_X1_goOn_0 rfl dX1_goOn_170 ?_
                        refine g_alen S 7 1 hK hP rfl rfl dX1_goOn_173 ?_
                        refine n_cge S (tgt := 209) (by omega) dX1_goOn_174 (by decide) (fun c174 => ?_) (fun c174 => ?_)
                        · exact absurd c174 (by omega)
                        refine lv_aload_n S.1 S.2.1 dX1_goOn_177 rfl (lv_at hl 5 rfl) ?_
                        refine lv_lload S.1 S.2.1 dX1_goOn_178 (lv_at hl 8 rfl) ?_
                        refine lv_iload S.1 S.2.1 dX1_goOn_180 (lv_at hl 6 rfl) ?_
                        refine lv_iload S.1 S.2.1 dX1_goOn_182 (lv_at hl 12 rfl) ?_
                        refine rd_callUl (x := ⟨"CoverSheet$Measure", "longer", "(JII)J"⟩) (owner := "CoverSheet$Measure") (n := 3) (rest := []) S (r_X5_longer l D cT (c 9) (c 10) PR (V p) d e (hd) (by omega)) gX1_goOn_X5_longer_u73X5 rfl (List.mem_of_getElem? (i := 19) rfl) (by decide +kernel) ⟨rfl, rfl, Nat.le_of_ble_eq_true rfl, Nat.le_of_ble_eq_true rfl⟩ (sx_P2 (hP.sub (ws' := [(c 9, .inr (4, [.ref (c 10)]))]) [9] rfl) (hP.sub (ws' := [(c 10, .inl (cT.2.1, 28, .inr (.inl PR)))]) [10] rfl)) hK (va_recv hK.1 hP (ci := 4) (q0 := 9) rfl rfl) hl rfl rfl (Nat.le_of_ble_eq_true rfl) ⟨Nat.zero_le _, Nat.zero_le _⟩ dX1_goOn_184 ?_
                        refine lv_lstore (lv' := [(14, .long ((V p) + PR (d * 4 + e))), (13, .int (nI (nx p e))), (12, .int (nI 0)), (0, .ref (c 5)), (1, .ref (pa i)), (2, .ref (c 4)), (3, .ref (c 9)), (4, .int (nI d)), (5, .int (nI p)), (6, .long (V p)), (8, .int (nI (p % 4))), (9, .int (nI ((p / 4) % 15))), (10, .int (nI ((p / 4) / 15))), (11, .int (nI e))]) S.1 S.2.1 dX1_goOn_187 hl (by decide) rfl (fun ls hl => ?_)
                        refine lv_aload_n S.1 S.2.1 dX1_goOn_189 rfl (lv_at hl 3 rfl) ?_
                        refine g_get (C := RX1) (T := TX1) (N := 2) (v := .ref a7) S 5 1 1 in_X1_goOn_X1 hK hP rfl rfl (by decide) w_X1_goOn_0 rfl dX1_goOn_190 ?_
                        refine lv_iload S.1 S.2.1 dX1_goOn_193 (lv_at hl 1 rfl) ?_
                        refine lv_aload_n S.1 S.2.1 dX1_goOn_195 rfl (lv_at hl 6 rfl) ?_
                        refine lv_aload_n S.1 S.2.1 dX1_goOn_196 rfl (lv_at hl 3 rfl) ?_
                        refine g_get (C := RX1) (T := TX1) (N := 2) (v := .ref a7) S 5 1 1 in_X1_goOn_X1 hK hP rfl rfl (by decide) w_X1_goOn_0 rfl dX1_goOn_197 ?_
                        refine lv_iload S.1 S.2.1 dX1_goOn_200 (lv_at hl 1 rfl) ?_
                        refine g_lald S 7 hK hP rfl (by omega) dX1_goOn_202 ?_
                        refine lv_lload S.1 S.2.1 dX1_goOn_203 (lv_at hl 0 rfl) ?_
                        refine rd_callUl (x := ⟨"CoverSheet$Measure", "joined", "(JJ)J"⟩) (owner := "CoverSheet$Measure") (n := 2) (rest := [.int (nI (nx p e)), .ref a7]) S (r_X5_joined l D cT (c 9) (c 10) (N2 (nx p e)) ((V p) + PR (d * 4 + e)) ) gX1_goOn_X5_joined_u56X5 rfl (List.mem_of_getElem? (i := 20) rfl) (by decide +kernel) ⟨rfl, rfl, Nat.le_of_ble_eq_true rfl, Nat.le_of_ble_eq_true rfl⟩ (hP.sub (ws' := [(c 9, .inr (4, [.ref (c 10)]))]) [9] rfl) hK (va_recv hK.1 hP (ci := 4) (q0 := 9) rfl rfl) hl rfl rfl (Nat.le_of_ble_eq_true rfl) ⟨Nat.zero_le _, Nat.zero_le _⟩ dX1_goOn_205 ?_
                        refine w_last S 7 hK hP hD hS rfl (by omega) dX1_goOn_208 (fun H locs hP hD hS => ?_)
                        have hP : va_P D vwCl (cX cT c a6 a7 n ro cl fb rn nd V (vp_updL N2 (nx p e) (if ((V p) + PR (d * 4 + e)) < (N2 (nx p e)) then ((V p) + PR (d * 4 + e)) else (N2 (nx p e)))) PR pa ++ pool n pa (per sk mo wk fx wi la da we)) H := hP
                        have hD : va_D A (cX cT c a6 a7 n ro cl fb rn nd V (vp_updL N2 (nx p e) (if ((V p) + PR (d * 4 + e)) < (N2 (nx p e)) then ((V p) + PR (d * 4 + e)) else (N2 (nx p e)))) PR pa ++ pool n pa (per sk mo wk fx wi la da we)) := hD
                        refine lv_iinc (v := (nI (e + 1))) (lv' := [(11, .int (nI (e + 1))), (14, .long ((V p) + PR (d * 4 + e))), (13, .int (nI (nx p e))), (12, .int (nI 0)), (0, .ref (c 5)), (1, .ref (pa i)), (2, .ref (c 4)), (3, .ref (c 9)), (4, .int (nI d)), (5, .int (nI p)), (6, .long (V p)), (8, .int (nI (p % 4))), (9, .int (nI ((p / 4) % 15))), (10, .int (nI ((p / 4) / 15)))]) S.1 S.2.1 dX1_goOn_209 hl (k := 13) rfl (nI_1 _) (by decide) rfl (fun ls hl => ?_)
                        refine lv_goto (tgt := 73) S.1 S.2.1 dX1_goOn_212 (by decide) ?_
                        exact ih73 (vp_updL N2 (nx p e) (if ((V p) + PR (d * 4 + e)) < (N2 (nx p e)) then ((V p) + PR (d * 4 + e)) else (N2 (nx p e)))) (e + 1) (by omega) (by rw [hN2]; exact (goE_y (okp_y (Or.inl c81) c113 c126)).symm) (by omega) _ _ hP hD hS ls (lv_sub hl [4, 5, 6, 7, 8, 9, 10, 11, 12, 13, 0] rfl)
                    · refine lv_goto (tgt := 209) S.1 S.2.1 dX1_goOn_129 (by decide) ?_
                      refine lv_iinc (v := (nI (e + 1))) (lv' := [(11, .int (nI (e + 1))), (12, .int (nI 0)), (0, .ref (c 5)), (1, .ref (pa i)), (2, .ref (c 4)), (3, .ref (c 9)), (4, .int (nI d)), (5, .int (nI p)), (6, .long (V p)), (8, .int (nI (p % 4))), (9, .int (nI ((p / 4) % 15))), (10, .int (nI ((p / 4) / 15)))]) S.1 S.2.1 dX1_goOn_209 hl (k := 11) rfl (nI_1 _) (by decide) rfl (fun ls hl => ?_)
                      refine lv_goto (tgt := 73) S.1 S.2.1 dX1_goOn_212 (by decide) ?_
                      exact ih73 N2 (e + 1) (by omega) (by rw [hN2]; exact (goE_n (okp_n3 c126)).symm) (by omega) _ _ hP hD hS ls (lv_sub hl [2, 3, 4, 5, 6, 7, 8, 9, 10, 11, 0] rfl)
                · refine lv_iload S.1 S.2.1 dX1_goOn_84 (lv_at hl 9 rfl) ?_
                  refine lv_aload_n S.1 S.2.1 dX1_goOn_86 rfl (lv_at hl 1 rfl) ?_
                  refine g_getN (C := RX4) (T := TX4) (N := 8) (v := .int (nI (mo i))) S _ 3 1 in_X1_goOn_X4 hK hP (pool_at (by omega)) rfl (by decide) (List.mem_of_getElem? (i := 10) rfl) rfl dX1_goOn_87 ?_
                  refine n_clt S (tgt := 97) (by omega) dX1_goOn_90 (by decide) (fun c90 => ?_) (fun c90 => ?_)
                  · refine lv_iconst (v := (nI 0)) S.1 S.2.1 dX1_goOn_97 (by decide) ?_
                    refine lv_istore (lv' := [(12, .int (nI 0)), (0, .ref (c 5)), (1, .ref (pa i)), (2, .ref (c 4)), (3, .ref (c 9)), (4, .int (nI d)), (5, .int (nI p)), (6, .long (V p)), (8, .int (nI (p % 4))), (9, .int (nI ((p / 4) % 15))), (10, .int (nI ((p / 4) / 15))), (11, .int (nI e))]) S.1 S.2.1 dX1_goOn_98 hl (by decide) rfl (fun ls hl => ?_)
                    refine lv_iload S.1 S.2.1 dX1_goOn_100 (lv_at hl 0 rfl) ?_
                    refine n_zne S (tgt := 209) (by decide) dX1_goOn_102 (by decide) (fun q => absurd q (by decide)) (fun _ => ?_)
                    refine lv_aload_n S.1 S.2.1 dX1_goOn_105 rfl (lv_at hl 2 rfl) ?_
                    refine lv_iload S.1 S.2.1 dX1_goOn_106 (lv_at hl 5 rfl) ?_
                    refine lv_iload S.1 S.2.1 dX1_goOn_108 (lv_at hl 11 rfl) ?_
                    refine rd_callV (rest := []) S (r_X4_mayHave l D cT (pa i) (sk i) (mo i) (wk i) (fx i) (wi i) (la i) (da i) (we i) d e (hd) (by omega) (by omega) (by omega)) gX1_goOn_X4_mayHave rfl pd_X4_mayHave ⟨rfl, rfl, Nat.le_of_ble_eq_true rfl, Nat.le_of_ble_eq_true rfl⟩ (pool_one hP (by omega)) hK (va_recv hK.1 hP (ci := 3) (q0 := _) rfl (pool_at (by omega))) hl rfl rfl (Nat.le_of_ble_eq_true rfl) ⟨Nat.zero_le _, Nat.zero_le _⟩ dX1_goOn_110 ?_
                    refine n_beq S (tgt := 209) dX1_goOn_113 (by decide) (fun c113 => ?_) (fun c113 => ?_)
                    · refine lv_iinc (v := (nI (e + 1))) (lv' := [(11, .int (nI (e + 1))), (12, .int (nI 0)), (0, .ref (c 5)), (1, .ref (pa i)), (2, .ref (c 4)), (3, .ref (c 9)), (4, .int (nI d)), (5, .int (nI p)), (6, .long (V p)), (8, .int (nI (p % 4))), (9, .int (nI ((p / 4) % 15))), (10, .int (nI ((p / 4) / 15)))]) S.1 S.2.1 dX1_goOn_209 hl (k := 11) rfl (nI_1 _) (by decide) rfl (fun ls hl => ?_)
                      refine lv_goto (tgt := 73) S.1 S.2.1 dX1_goOn_212 (by decide) ?_
                      exact ih73 N2 (e + 1) (by omega) (by rw [hN2]; exact (goE_n (okp_n2 c113)).symm) (by omega) _ _ hP hD hS ls (lv_sub hl [2, 3, 4, 5, 6, 7, 8, 9, 10, 11, 0] rfl)
                    · refine lv_aload_n S.1 S.2.1 dX1_goOn_116 rfl (lv_at hl 3 rfl) ?_
                      refine lv_iload S.1 S.2.1 dX1_goOn_117 (lv_at hl 8 rfl) ?_
                      refine lv_iload S.1 S.2.1 dX1_goOn_119 (lv_at hl 9 rfl) ?_
                      refine lv_iload S.1 S.2.1 dX1_goOn_121 (lv_at hl 11 rfl) ?_
                      refine rd_callV (rest := []) S (r_X6_allow l D cT (c 4) fb rn (p % 4) ((p / 4) % 15) e (by omega) (by omega) (⟨by omega, by omega, by omega⟩)) gX1_goOn_X6_allow rfl pd_X6_allow ⟨rfl, rfl, Nat.le_of_ble_eq_true rfl, Nat.le_of_ble_eq_true rfl⟩ (hP.sub (ws' := [(c 4, .inr (5, [.int (nI fb), .int (nI rn)]))]) [4] rfl) hK (va_recv hK.1 hP (ci := 5) (q0 := 4) rfl rfl) hl rfl rfl (Nat.le_of_ble_eq_true rfl) ⟨Nat.zero_le _, Nat.zero_le _⟩ dX1_goOn_123 ?_
                      refine n_bne S (tgt := 132) dX1_goOn_126 (by decide) (fun c126 => ?_) (fun c126 => ?_)
                      · refine lv_iload S.1 S.2.1 dX1_goOn_132 (lv_at hl 11 rfl) ?_
                        refine n_zne S (tgt := 147) (by omega) dX1_goOn_134 (by decide) (fun c134 => ?_) (fun c134 => ?_)
                        · refine lv_iload S.1 S.2.1 dX1_goOn_147 (lv_at hl 10 rfl) ?_
                          refine lv_iconst (v := (nI 1)) S.1 S.2.1 dX1_goOn_149 (by decide) ?_
                          refine n_add S dX1_goOn_150 ?_
                          refine lv_iload S.1 S.2.1 dX1_goOn_151 (lv_at hl 9 rfl) ?_
                          refine lv_iconst (v := (nI 1)) S.1 S.2.1 dX1_goOn_153 (by decide) ?_
                          refine n_add S dX1_goOn_154 ?_
                          refine lv_iload S.1 S.2.1 dX1_goOn_155 (lv_at hl 11 rfl) ?_
                          refine rd_callS (rest := []) S (r_X1_placeOf l D cT (((p / 4) / 15) + 1) (((p / 4) % 15) + 1) e ) gX1_goOn_X1_placeOf rfl pd_X1_placeOf ⟨rfl, rfl, Nat.le_of_ble_eq_true rfl, Nat.le_of_ble_eq_true rfl⟩ (sx_P0 D _) hK hl rfl rfl (Nat.le_of_ble_eq_true rfl) ⟨Nat.zero_le _, Nat.zero_le _⟩ dX1_goOn_157 ?_
                          have hnx : nx p e < 480 := nx_lt (mo := mo i) (by omega) (by omega) (Or.inr c90) (by omega) c126 hrn
                          refine n_top (nx_1 (p := p) (e := e) c134) ?_
                          refine lv_istore (lv' := [(13, .int (nI (nx p e))), (12, .int (nI 0)), (0, .ref (c 5)), (1, .ref (pa i)), (2, .ref (c 4)), (3, .ref (c 9)), (4, .int (nI d)), (5, .int (nI p)), (6, .long (V p)), (8, .int (nI (p % 4))), (9, .int (nI ((p / 4) % 15))), (10, .int (nI ((p / 4) / 15))), (11, .int (nI e))]) S.1 S.2.1 dX1_goOn_160 hl (by decide) rfl (fun ls hl => ?_)
                          refine lv_iload S.1 S.2.1 dX1_goOn_162 (lv_at hl 0 rfl) ?_
                          refine n_zlt S (tgt := 209) (by omega) dX1_goOn_164 (by decide) ?_
                          refine lv_iload S.1 S.2.1 dX1_goOn_167 (lv_at hl 0 rfl) ?_
                          refine lv_aload_n S.1 S.2.1 dX1_goOn_169 rfl (lv_at hl 2 rfl) ?_
                          refine g_get (C := RX1) (T := TX1) (N := 2) (v := .ref a7) S 5 1 1 in_X1_goOn_X1 hK hP rfl rfl (by decide) w_X1_goOn_0 rfl dX1_goOn_170 ?_
                          refine g_alen S 7 1 hK hP rfl rfl dX1_goOn_173 ?_
                          refine n_cge S (tgt := 209) (by omega) dX1_goOn_174 (by decide) (fun c174 => ?_) (fun c174 => ?_)
                          · exact absurd c174 (by omega)
                          refine lv_aload_n S.1 S.2.1 dX1_goOn_177 rfl (lv_at hl 5 rfl) ?_
                          refine lv_lload S.1 S.2.1 dX1_goOn_178 (lv_at hl 8 rfl) ?_
                          refine lv_iload S.1 S.2.1 dX1_goOn_180 (lv_at hl 6 rfl) ?_
                          refine lv_iload S.1 S.2.1 dX1_goOn_182 (lv_at hl 12 rfl) ?_
                          refine rd_callUl (x := ⟨"CoverSheet$Measure", "longer", "(JII)J"⟩) (owner := "CoverSheet$Measure") (n := 3) (rest := []) S (r_X5_longer l D cT (c 9) (c 10) PR (V p) d e (hd) (by omega)) gX1_goOn_X5_longer_u73X5 rfl (List.mem_of_getElem? (i := 19) rfl) (by decide +kernel) ⟨rfl, rfl, Nat.le_of_ble_eq_true rfl, Nat.le_of_ble_eq_true rfl⟩ (sx_P2 (hP.sub (ws' := [(c 9, .inr (4, [.ref (c 10)]))]) [9] rfl) (hP.sub (ws' := [(c 10, .inl (cT.2.1, 28, .inr (.inl PR)))]) [10] rfl)) hK (va_recv hK.1 hP (ci := 4) (q0 := 9) rfl rfl) hl rfl rfl (Nat.le_of_ble_eq_true rfl) ⟨Nat.zero_le _, Nat.zero_le _⟩ dX1_goOn_184 ?_
                          refine lv_lstore (lv' := [(14, .long ((V p) + PR (d * 4 + e))), (13, .int (nI (nx p e))), (12, .int (nI 0)), (0, .ref (c 5)), (1, .ref (pa i)), (2, .ref (c 4)), (3, .ref (c 9)), (4, .int (nI d)), (5, .int (nI p)), (6, .long (V p)), (8, .int (nI (p % 4))), (9, .int (nI ((p / 4) % 15))), (10, .int (nI ((p / 4) / 15))), (11, .int (nI e))]) S.1 S.2.1 dX1_goOn_187 hl (by decide) rfl (fun ls hl => ?_)
                          refine lv_aload_n S.1 S.2.1 dX1_goOn_189 rfl (lv_at hl 3 rfl) ?_
                          refine g_get (C := RX1) (T := TX1) (N := 2) (v := .ref a7) S 5 1 1 in_X1_goOn_X1 hK hP rfl rfl (by decide) w_X1_goOn_0 rfl dX1_goOn_190 ?_
                          refine lv_iload S.1 S.2.1 dX1_goOn_193 (lv_at hl 1 rfl) ?_
                          refine lv_aload_n S.1 S.2.1 dX1_goOn_195 rfl (lv_at hl 6 rfl) ?_
                          refine lv_aload_n S.1 S.2.1 dX1_goOn_196 rfl (lv_at hl 3 rfl) ?_
                          refine g_get (C := RX1) (T := TX1) (N := 2) (v := .ref a7) S 5 1 1 in_X1_goOn_X1 hK hP rfl rfl (by decide) w_X1_goOn_0 rfl dX1_goOn_197 ?_
                          refine lv_iload S.1 S.2.1 dX1_goOn_200 (lv_at hl 1 rfl) ?_
                          refine g_lald S 7 hK hP rfl (by omega) dX1_goOn_202 ?_
                          refine lv_lload S.1 S.2.1 dX1_goOn_203 (lv_at hl 0 rfl) ?_
                          refine rd_callUl (x := ⟨"CoverSheet$Measure", "joined", "(JJ)J"⟩) (owner := "CoverSheet$Measure") (n := 2) (rest := [.int (nI (nx p e)), .ref a7]) S (r_X5_joined l D cT (c 9) (c 10) (N2 (nx p e)) ((V p) + PR (d * 4 + e)) ) gX1_goOn_X5_joined_u56X5 rfl (List.mem_of_getElem? (i := 20) rfl) (by decide +kernel) ⟨rfl, rfl, Nat.le_of_ble_eq_true rfl, Nat.le_of_ble_eq_true rfl⟩ (hP.sub (ws' := [(c 9, .inr (4, [.ref (c 10)]))]) [9] rfl) hK (va_recv hK.1 hP (ci := 4) (q0 := 9) rfl rfl) hl rfl rfl (Nat.le_of_ble_eq_true rfl) ⟨Nat.zero_le _, Nat.zero_le _⟩ dX1_goOn_205 ?_
                          refine w_last S 7 hK hP hD hS rfl (by omega) dX1_goOn_208 (fun H locs hP hD hS => ?_)
                          have hP : va_P D vwCl (cX cT c a6 a7 n ro cl fb rn nd V (vp_updL N2 (nx p e) (if ((V p) + PR (d * 4 + e)) < (N2 (nx p e)) then ((V p) + PR (d * 4 + e)) else (N2 (nx p e)))) PR pa ++ pool n pa (per sk mo wk fx wi la da we)) H := hP
                          have hD : va_D A (cX cT c a6 a7 n ro cl fb rn nd V (vp_updL N2 (nx p e) (if ((V p) + PR (d * 4 + e)) < (N2 (nx p e)) then ((V p) + PR (d * 4 + e)) else (N2 (nx p e)))) PR pa ++ pool n pa (per sk mo wk fx wi la da we)) := hD
                          refine lv_iinc (v := (nI (e + 1))) (lv' := [(11, .int (nI (e + 1))), (14, .long ((V p) + PR (d * 4 + e))), (13, .int (nI (nx p e))), (12, .int (nI 0)), (0, .ref (c 5)), (1, .ref (pa i)), (2, .ref (c 4)), (3, .ref (c 9)), (4, .int (nI d)), (5, .int (nI p)), (6, .long (V p)), (8, .int (nI (p % 4))), (9, .int (nI ((p / 4) % 15))), (10, .int (nI ((p / 4) / 15)))]) S.1 S.2.1 dX1_goOn_209 hl (k := 13) rfl (nI_1 _) (by decide) rfl (fun ls hl => ?_)
                          refine lv_goto (tgt := 73) S.1 S.2.1 dX1_goOn_212 (by decide) ?_
                          exact ih73 (vp_updL N2 (nx p e) (if ((V p) + PR (d * 4 + e)) < (N2 (nx p e)) then ((V p) + PR (d * 4 + e)) else (N2 (nx p e)))) (e + 1) (by omega) (by rw [hN2]; exact (goE_y (okp_y (Or.inr c90) c113 c126)).symm) (by omega) _ _ hP hD hS ls (lv_sub hl [4, 5, 6, 7, 8, 9, 10, 11, 12, 13, 0] rfl)
                        · refine lv_iload S.1 S.2.1 dX1_goOn_137 (lv_at hl 10 rfl) ?_
                          refine lv_iconst (v := (nI 0)) S.1 S.2.1 dX1_goOn_139 (by decide) ?_
                          refine lv_iconst (v := (nI 0)) S.1 S.2.1 dX1_goOn_140 (by decide) ?_
                          refine rd_callS (rest := []) S (r_X1_placeOf l D cT ((p / 4) / 15) 0 0 ) gX1_goOn_X1_placeOf rfl pd_X1_placeOf ⟨rfl, rfl, Nat.le_of_ble_eq_true rfl, Nat.le_of_ble_eq_true rfl⟩ (sx_P0 D _) hK hl rfl rfl (Nat.le_of_ble_eq_true rfl) ⟨Nat.zero_le _, Nat.zero_le _⟩ dX1_goOn_141 ?_
                          refine lv_goto (tgt := 160) S.1 S.2.1 dX1_goOn_144 (by decide) ?_
                          have hnx : nx p e < 480 := nx_lt (mo := mo i) (by omega) (by omega) (Or.inr c90) (by omega) c126 hrn
                          refine n_top (nx_0 (p := p) (e := e) c134) ?_
                          refine lv_istore (lv' := [(13, .int (nI (nx p e))), (12, .int (nI 0)), (0, .ref (c 5)), (1, .ref (pa i)), (2, .ref (c 4)), (3, .ref (c 9)), (4, .int (nI d)), (5, .int (nI p)), (6, .long (V p)), (8, .int (nI (p % 4))), (9, .int (nI ((p / 4) % 15))), (10, .int (nI ((p / 4) / 15))), (11, .int (nI e))]) S.1 S.2.1 dX1_goOn_160 hl (by decide) rfl (fun ls hl => ?_)
                          refine lv_iload S.1 S.2.1 dX1_goOn_162 (lv_at hl 0 rfl) ?_
                          refine n_zlt S (tgt := 209) (by omega) dX1_goOn_164 (by decide) ?_
                          refine lv_iload S.1 S.2.1 dX1_goOn_167 (lv_at hl 0 rfl) ?_
                          refine lv_aload_n S.1 S.2.1 dX1_goOn_169 rfl (lv_at hl 2 rfl) ?_
                          refine g_get (C := RX1) (T := TX1) (N := 2) (v := .ref a7) S 5 1 1 in_X1_goOn_X1 hK hP rfl rfl (by decide) w_X1_goOn_0 rfl dX1_goOn_170 ?_
                          refine g_alen S 7 1 hK hP rfl rfl dX1_goOn_173 ?_
                          refine n_cge S (tgt := 209) (by omega) dX1_goOn_174 (by decide) (fun c174 => ?_) (fun c174 => ?_)
                          · exact absurd c174 (by omega)
                          refine lv_aload_n S.1 S.2.1 dX1_goOn_177 rfl (lv_at hl 5 rfl) ?_
                          refine lv_lload S.1 S.2.1 dX1_goOn_178 (lv_at hl 8 rfl) ?_
                          refine lv_iload S.1 S.2.1 dX1_goOn_180 (lv_at hl 6 rfl) ?_
                          refine lv_iload S.1 S.2.1 dX1_goOn_182 (lv_at hl 12 rfl) ?_
                          refine rd_callUl (x := ⟨"CoverSheet$Measure", "longer", "(JII)J"⟩) (owner := "CoverSheet$Measure") (n := 3) (rest := []) S (r_X5_longer l D cT (c 9) (c 10) PR (V p) d e (hd) (by omega)) gX1_goOn_X5_longer_u73X5 rfl (List.mem_of_getElem? (i := 19) rfl) (by decide +kernel) ⟨rfl, rfl, Nat.le_of_ble_eq_true rfl, Nat.le_of_ble_eq_true rfl⟩ (sx_P2 (hP.sub (ws' := [(c 9, .inr (4, [.ref (c 10)]))]) [9] rfl) (hP.sub (ws' := [(c 10, .inl (cT.2.1, 28, .inr (.inl PR)))]) [10] rfl)) hK (va_recv hK.1 hP (ci := 4) (q0 := 9) rfl rfl) hl rfl rfl (Nat.le_of_ble_eq_true rfl) ⟨Nat.zero_le _, Nat.zero_le _⟩ dX1_goOn_184 ?_
                          refine lv_lstore (lv' := [(14, .long ((V p) + PR (d * 4 + e))), (13, .int (nI (nx p e))), (12, .int (nI 0)), (0, .ref (c 5)), (1, .ref (pa i)), (2, .ref (c 4)), (3, .ref (c 9)), (4, .int (nI d)), (5, .int (nI p)), (6, .long (V p)), (8, .int (nI (p % 4))), (9, .int (nI ((p / 4) % 15))), (10, .int (nI ((p / 4) / 15))), (11, .int (nI e))]) S.1 S.2.1 dX1_goOn_187 hl (by decide) rfl (fun ls hl => ?_)
                          refine lv_aload_n S.1 S.2.1 dX1_goOn_189 rfl (lv_at hl 3 rfl) ?_
                          refine g_get (C := RX1) (T := TX1) (N := 2) (v := .ref a7) S 5 1 1 in_X1_goOn_X1 hK hP rfl rfl (by decide) w_X1_goOn_0 rfl dX1_goOn_190 ?_
                          refine lv_iload S.1 S.2.1 dX1_goOn_193 (lv_at hl 1 rfl) ?_
                          refine lv_aload_n S.1 S.2.1 dX1_goOn_195 rfl (lv_at hl 6 rfl) ?_
                          refine lv_aload_n S.1 S.2.1 dX1_goOn_196 rfl (lv_at hl 3 rfl) ?_
                          refine g_get (C := RX1) (T := TX1) (N := 2) (v := .ref a7) S 5 1 1 in_X1_goOn_X1 hK hP rfl rfl (by decide) w_X1_goOn_0 rfl dX1_goOn_197 ?_
                          refine lv_iload S.1 S.2.1 dX1_goOn_200 (lv_at hl 1 rfl) ?_
                          refine g_lald S 7 hK hP rfl (by omega) dX1_goOn_202 ?_
                          refine lv_lload S.1 S.2.1 dX1_goOn_203 (lv_at hl 0 rfl) ?_
                          refine rd_callUl (x := ⟨"CoverSheet$Measure", "joined", "(JJ)J"⟩) (owner := "CoverSheet$Measure") (n := 2) (rest := [.int (nI (nx p e)), .ref a7]) S (r_X5_joined l D cT (c 9) (c 10) (N2 (nx p e)) ((V p) + PR (d * 4 + e)) ) gX1_goOn_X5_joined_u56X5 rfl (List.mem_of_getElem? (i := 20) rfl) (by decide +kernel) ⟨rfl, rfl, Nat.le_of_ble_eq_true rfl, Nat.le_of_ble_eq_true rfl⟩ (hP.sub (ws' := [(c 9, .inr (4, [.ref (c 10)]))]) [9] rfl) hK (va_recv hK.1 hP (ci := 4) (q0 := 9) rfl rfl) hl rfl rfl (Nat.le_of_ble_eq_true rfl) ⟨Nat.zero_le _, Nat.zero_le _⟩ dX1_goOn_205 ?_
                          refine w_last S 7 hK hP hD hS rfl (by omega) dX1_goOn_208 (fun H locs hP hD hS => ?_)
                          have hP : va_P D vwCl (cX cT c a6 a7 n ro cl fb rn nd V (vp_updL N2 (nx p e) (if ((V p) + PR (d * 4 + e)) < (N2 (nx p e)) then ((V p) + PR (d * 4 + e)) else (N2 (nx p e)))) PR pa ++ pool n pa (per sk mo wk fx wi la da we)) H := hP
                          have hD : va_D A (cX cT c a6 a7 n ro cl fb rn nd V (vp_updL N2 (nx p e) (if ((V p) + PR (d * 4 + e)) < (N2 (nx p e)) then ((V p) + PR (d * 4 + e)) else (N2 (nx p e)))) PR pa ++ pool n pa (per sk mo wk fx wi la da we)) := hD
                          refine lv_iinc (v := (nI (e + 1))) (lv' := [(11, .int (nI (e + 1))), (14, .long ((V p) + PR (d * 4 + e))), (13, .int (nI (nx p e))), (12, .int (nI 0)), (0, .ref (c 5)), (1, .ref (pa i)), (2, .ref (c 4)), (3, .ref (c 9)), (4, .int (nI d)), (5, .int (nI p)), (6, .long (V p)), (8, .int (nI (p % 4))), (9, .int (nI ((p / 4) % 15))), (10, .int (nI ((p / 4) / 15)))]) S.1 S.2.1 dX1_goOn_209 hl (k := 13) rfl (nI_1 _) (by decide) rfl (fun ls hl => ?_)
                          refine lv_goto (tgt := 73) S.1 S.2.1 dX1_goOn_212 (by decide) ?_
                          exact ih73 (vp_updL N2 (nx p e) (if ((V p) + PR (d * 4 + e)) < (N2 (nx p e)) then ((V p) + PR (d * 4 + e)) else (N2 (nx p e)))) (e + 1) (by omega) (by rw [hN2]; exact (goE_y (okp_y (Or.inr c90) c113 c126)).symm) (by omega) _ _ hP hD hS ls (lv_sub hl [4, 5, 6, 7, 8, 9, 10, 11, 12, 13, 0] rfl)
                      · refine lv_goto (tgt := 209) S.1 S.2.1 dX1_goOn_129 (by decide) ?_
                        refine lv_iinc (v := (nI (e + 1))) (lv' := [(11, .int (nI (e + 1))), (12, .int (nI 0)), (0, .ref (c 5)), (1, .ref (pa i)), (2, .ref (c 4)), (3, .ref (c 9)), (4, .int (nI d)), (5, .int (nI p)), (6, .long (V p)), (8, .int (nI (p % 4))), (9, .int (nI ((p / 4) % 15))), (10, .int (nI ((p / 4) / 15)))]) S.1 S.2.1 dX1_goOn_209 hl (k := 11) rfl (nI_1 _) (by decide) rfl (fun ls hl => ?_)
                        refine lv_goto (tgt := 73) S.1 S.2.1 dX1_goOn_212 (by decide) ?_
                        exact ih73 N2 (e + 1) (by omega) (by rw [hN2]; exact (goE_n (okp_n3 c126)).symm) (by omega) _ _ hP hD hS ls (lv_sub hl [2, 3, 4, 5, 6, 7, 8, 9, 10, 11, 0] rfl)
                  · refine lv_iconst (v := (nI 1)) S.1 S.2.1 dX1_goOn_93 (by decide) ?_
                    refine lv_goto (tgt := 98) S.1 S.2.1 dX1_goOn_94 (by decide) ?_
                    refine lv_istore (lv' := [(12, .int (nI 1)), (0, .ref (c 5)), (1, .ref (pa i)), (2, .ref (c 4)), (3, .ref (c 9)), (4, .int (nI d)), (5, .int (nI p)), (6, .long (V p)), (8, .int (nI (p % 4))), (9, .int (nI ((p / 4) % 15))), (10, .int (nI ((p / 4) / 15))), (11, .int (nI e))]) S.1 S.2.1 dX1_goOn_98 hl (by decide) rfl (fun ls hl => ?_)
                    refine lv_iload S.1 S.2.1 dX1_goOn_100 (lv_at hl 0 rfl) ?_
                    refine n_zne S (tgt := 209) (by decide) dX1_goOn_102 (by decide) (fun _ => ?_) (fun q => absurd q (by decide))
                    refine lv_iinc (v := (nI (e + 1))) (lv' := [(11, .int (nI (e + 1))), (12, .int (nI 1)), (0, .ref (c 5)), (1, .ref (pa i)), (2, .ref (c 4)), (3, .ref (c 9)), (4, .int (nI d)), (5, .int (nI p)), (6, .long (V p)), (8, .int (nI (p % 4))), (9, .int (nI ((p / 4) % 15))), (10, .int (nI ((p / 4) / 15)))]) S.1 S.2.1 dX1_goOn_209 hl (k := 11) rfl (nI_1 _) (by decide) rfl (fun ls hl => ?_)
                    refine lv_goto (tgt := 73) S.1 S.2.1 dX1_goOn_212 (by decide) ?_
                    exact ih73 N2 (e + 1) (by omega) (by rw [hN2]; exact (goE_n (okp_n1 c81 c90)).symm) (by omega) _ _ hP hD hS ls (lv_sub hl [2, 3, 4, 5, 6, 7, 8, 9, 10, 11, 0] rfl)
          exact lp73 _ N1 0 (Nat.zero_le _) (rfl) (Nat.lt_succ_self _) _ _ hP hD hS ls (lv_sub hl [5, 6, 7, 8, 9, 10, 4, 3, 2, 1, 0] rfl)
        · refine lv_goto (tgt := 215) S.1 S.2.1 dX1_goOn_43 (by decide) ?_
          refine lv_iinc (v := (nI (p + 1))) (lv' := [(5, .int (nI (p + 1))), (6, .long (V p)), (0, .ref (c 5)), (1, .ref (pa i)), (2, .ref (c 4)), (3, .ref (c 9)), (4, .int (nI d))]) S.1 S.2.1 dX1_goOn_215 hl (k := 6) rfl (nI_1 _) (by decide) rfl (fun ls hl => ?_)
          refine lv_goto (tgt := 14) S.1 S.2.1 dX1_goOn_218 (by decide) ?_
          exact ih14 N1 (p + 1) (by omega) (by rw [hN1]; exact (goP_n c40).symm) (by omega) _ _ hP hD hS ls (lv_sub hl [2, 3, 4, 5, 6, 0] rfl)
  exact lp14 _ (fun _ => 9223372036854775807) 0 (Nat.zero_le _) (rfl) (Nat.lt_succ_self _) _ _ hP hD hS ls (lv_sub hl [1, 2, 3, 4, 5, 0] rfl)

set_option maxHeartbeats 4000000 in
set_option maxRecDepth 100000 in
theorem w_X1_goOn_X0 (l : Launch) (D : va_G) (cT : ClassId × ClassId × ClassId) (sz : Nat) (c pa : Nat → Nat) (bd a6 a7 n ro cl fb rn : Nat) (nd sk mo wk fx wi la da we : Nat → Nat) (V V2 PR : Nat → Int64) (i d : Nat) (hwf : wfC n bd fb rn nd sk mo wk fx wi la da we) (hi : i < n) (hd : d < 7) : Met l yX1_goOn wsX1_goOn ({ frames := 2, cells := 0, slots := 0, locals := 44 } : Room) (va_Pc [.ref (c 5), .ref (pa i), .ref (c 4), .ref (c 8), .int (nI d)] (wr_R D (TY cT) (cX cT c a6 a7 n ro cl fb rn nd V V2 PR pa ++ pool n pa (per sk mo wk fx wi la da we)) sz)) (wQv (fun (_ : Unit) => True) D (fun (_ : Unit) => cX cT c a7 a6 n ro cl fb rn nd (goP (okp (sk i) (mo i) (fx i) fb rn d) (fun v _ => v) (fun a b => a + b) 0 V 480) V PR pa ++ pool n pa (per sk mo wk fx wi la da we)) (va_A (cX cT c a6 a7 n ro cl fb rn nd V V2 PR pa ++ pool n pa (per sk mo wk fx wi la da we)) sz)) 0 0 (va_A (cX cT c a6 a7 n ro cl fb rn nd V V2 PR pa ++ pool n pa (per sk mo wk fx wi la da we)) sz) := by
  refine wr_start (cc := cX1_goOn) (maxL := 16) (ret := none) RX1 ⟨by decide +kernel, rfl⟩ rfl (Nat.le_of_ble_eq_true rfl) ?_
  intro p0 e0 s0 m0 a0 b0 t0 c0 S hr hlocks hin hP hK hA hD hS ls hl
  generalize va_A (cX cT c a6 a7 n ro cl fb rn nd V V2 PR pa ++ pool n pa (per sk mo wk fx wi la da we)) sz = A at hA hD hS ⊢
  have hl : lv_has ls 16 [(0, .ref (c 5)), (1, .ref (pa i)), (2, .ref (c 4)), (3, .ref (c 8)), (4, .int (nI d))] := hl
  obtain ⟨hn, hcl, hfb, hrn, hnd, hper⟩ := id hwf
  have hpi := hper i
  refine lv_aload_n S.1 S.2.1 dX1_goOn_0 rfl (lv_at hl 0 rfl) ?_
  refine g_get (C := RX1) (T := TX1) (N := 2) (v := .ref a7) S 5 1 1 in_X1_goOn_X1 hK hP rfl rfl (by decide) w_X1_goOn_0 rfl dX1_goOn_1 ?_
  refine lv_aload_n S.1 S.2.1 dX1_goOn_4 rfl (lv_at hl 3 rfl) ?_
  refine rd_callUl (x := ⟨"CoverSheet$Measure", "none", "()J"⟩) (owner := "CoverSheet$Measure") (n := 0) (rest := [.ref a7]) S (r_X0_none l D cT (c 8) ) gX1_goOn_X0_none_u18X0 rfl (List.mem_of_getElem? (i := 17) rfl) (by decide +kernel) ⟨rfl, rfl, Nat.le_of_ble_eq_true rfl, Nat.le_of_ble_eq_true rfl⟩ (hP.sub (ws' := [(c 8, .inr (0, []))]) [8] rfl) hK (va_recv hK.1 hP (ci := 0) (q0 := 8) rfl rfl) hl rfl rfl (Nat.le_of_ble_eq_true rfl) ⟨Nat.zero_le _, Nat.zero_le _⟩ dX1_goOn_5 ?_
  refine wr_callSv (rest := []) S (w_J7_fill_7 l D cT _ c pa bd a6 a7 n ro cl fb rn nd sk mo wk fx wi la da we V V2 PR 0 (hwf)) gX1_goOn_J7_fill_d0a16 rfl pd_J7_fill_d0a16 ⟨rfl, rfl, Nat.le_of_ble_eq_true rfl, Nat.le_of_ble_eq_true rfl⟩ hP hK hD hS hA hl rfl rfl (Nat.le_of_ble_eq_true rfl) ⟨Nat.zero_le _, Nat.zero_le _⟩ dX1_goOn_8 (fun u_ H locs hr_ hP hD hS => ?_)
  have hP : va_P D vwCl (cX cT c a6 a7 n ro cl fb rn nd V (fun _ => 0) PR pa ++ pool n pa (per sk mo wk fx wi la da we)) H := hP
  have hD : va_D A (cX cT c a6 a7 n ro cl fb rn nd V (fun _ => 0) PR pa ++ pool n pa (per sk mo wk fx wi la da we)) := hD
  refine lv_iconst (v := (nI 0)) S.1 S.2.1 dX1_goOn_11 (by decide) ?_
  refine lv_istore (lv' := [(5, .int (nI 0)), (0, .ref (c 5)), (1, .ref (pa i)), (2, .ref (c 4)), (3, .ref (c 8)), (4, .int (nI d))]) S.1 S.2.1 dX1_goOn_12 hl (by decide) rfl (fun ls hl => ?_)
  have lp14 : ∀ (fu : Nat) (N1 : Nat → Int64) (p : Nat), (p ≤ 480) → (N1 = goP (okp (sk i) (mo i) (fx i) fb rn d) (fun v _ => v) (fun a b => a + b) 0 V p) → (480 - p) < fu → ∀ (H : Heap) (locs : List Loc), va_P D vwCl (cX cT c a6 a7 n ro cl fb rn nd V N1 PR pa ++ pool n pa (per sk mo wk fx wi la da we)) H → va_D A (cX cT c a6 a7 n ro cl fb rn nd V N1 PR pa ++ pool n pa (per sk mo wk fx wi la da we)) → va_S A s0.heap H locs → ∀ ls : Array Slot, lv_has ls 16 [(0, .ref (c 5)), (1, .ref (pa i)), (2, .ref (c 4)), (3, .ref (c 8)), (4, .int (nI d)), (5, .int (nI p))] → W p0 l e0 ({ frames := 2, cells := 0, slots := 0, locals := 44 } : Room) s0 m0 a0 b0 t0 c0 H locs 0 0 (MQ b0 (wQv (fun (_ : Unit) => True) D (fun (_ : Unit) => cX cT c a7 a6 n ro cl fb rn nd (goP (okp (sk i) (mo i) (fx i) fb rn d) (fun v _ => v) (fun a b => a + b) 0 V 480) V PR pa ++ pool n pa (per sk mo wk fx wi la da we)) A) a0 s0 0 0 A) (F0 m0 14 ls []) := by
    intro fu
    induction fu with
    | zero =>
      intro N1 p h2 hN1 hm
      exact absurd hm (Nat.not_lt_zero _)
    | succ fu ih14 =>
      intro N1 p h2 hN1 hm H locs hP hD hS ls hl
      refine lv_iload S.1 S.2.1 dX1_goOn_14 (lv_at hl 5 rfl) ?_
      refine lv_aload_n S.1 S.2.1 dX1_goOn_16 rfl (lv_at hl 0 rfl) ?_
      refine g_get (C := RX1) (T := TX1) (N := 2) (v := .ref a6) S 5 1 0 in_X1_goOn_X1 hK hP rfl rfl (by decide) w_X1_goOn_1 rfl dX1_goOn_17 ?_
      refine g_alen S 6 1 hK hP rfl rfl dX1_goOn_20 ?_
      refine n_cge S (tgt := 221) (by omega) dX1_goOn_21 (by decide) (fun c21 => ?_) (fun c21 => ?_)
      · refine lv_aload_n S.1 S.2.1 dX1_goOn_221 rfl (lv_at hl 0 rfl) ?_
        refine g_get (C := RX1) (T := TX1) (N := 2) (v := .ref a6) S 5 1 0 in_X1_goOn_X1 hK hP rfl rfl (by decide) w_X1_goOn_1 rfl dX1_goOn_222 ?_
        refine lv_astore (lv' := [(5, .ref a6), (0, .ref (c 5)), (1, .ref (pa i)), (2, .ref (c 4)), (3, .ref (c 8)), (4, .int (nI d))]) S.1 S.2.1 dX1_goOn_225 hl (by decide) rfl (fun ls hl => ?_)
        refine lv_aload_n S.1 S.2.1 dX1_goOn_227 rfl (lv_at hl 1 rfl) ?_
        refine lv_aload_n S.1 S.2.1 dX1_goOn_228 rfl (lv_at hl 1 rfl) ?_
        refine g_get (C := RX1) (T := TX1) (N := 2) (v := .ref a7) S 5 1 1 in_X1_goOn_X1 hK hP rfl rfl (by decide) w_X1_goOn_0 rfl dX1_goOn_229 ?_
        refine w_put (C := RX1) (T := TX1) (N := 2) (v := .ref (a7)) (ty := .array .long) S 5 1 0 in_X1_goOn_X1 tyX1 tyX1_ok nmX1 hK hP hD hS rfl rfl (by decide) w_X1_goOn_1 rfl (by decide +kernel) rfl rfl (Nat.le_of_ble_eq_true rfl) dX1_goOn_232 (fun H locs hP hD hS => ?_)
        refine lv_aload_n S.1 S.2.1 dX1_goOn_235 rfl (lv_at hl 1 rfl) ?_
        refine lv_aload S.1 S.2.1 dX1_goOn_236 (lv_at hl 0 rfl) ?_
        refine w_put (C := RX1) (T := TX1) (N := 2) (v := .ref (a6)) (ty := .array .long) S 5 1 1 in_X1_goOn_X1 tyX1 tyX1_ok nmX1 hK hP hD hS rfl rfl (by decide) w_X1_goOn_0 rfl (by decide +kernel) rfl rfl (Nat.le_of_ble_eq_true rfl) dX1_goOn_238 (fun H locs hP hD hS => ?_)
        have hP : va_P D vwCl ([(c 0, .inr (6, [.ref (c 1), .ref (c 2), .ref (c 4), .ref (c 5), .ref (c 8), .ref (c 9), .int (nI n), .int (nI ro), .int (nI cl)])), (c 1, .inl (cT.2.2, 8, .inr (.inr (.inr (.inr (tm n pa)))))), (c 2, .inr (2, [.ref (c 3)])), (c 3, .inl (cT.1, 28, .inl (fun k => nI (nd k)))), (c 4, .inr (5, [.int (nI fb), .int (nI rn)])), (c 5, .inr (1, [.ref a7, .ref a6])), (a6, .inl (cT.2.1, 480, .inr (.inl V))), (a7, .inl (cT.2.1, 480, .inr (.inl N1))), (c 8, .inr (0, [])), (c 9, .inr (4, [.ref (c 10)])), (c 10, .inl (cT.2.1, 28, .inr (.inl PR)))] ++ pool n pa (per sk mo wk fx wi la da we)) H := hP
        have hD : va_D A ([(c 0, .inr (6, [.ref (c 1), .ref (c 2), .ref (c 4), .ref (c 5), .ref (c 8), .ref (c 9), .int (nI n), .int (nI ro), .int (nI cl)])), (c 1, .inl (cT.2.2, 8, .inr (.inr (.inr (.inr (tm n pa)))))), (c 2, .inr (2, [.ref (c 3)])), (c 3, .inl (cT.1, 28, .inl (fun k => nI (nd k)))), (c 4, .inr (5, [.int (nI fb), .int (nI rn)])), (c 5, .inr (1, [.ref a7, .ref a6])), (a6, .inl (cT.2.1, 480, .inr (.inl V))), (a7, .inl (cT.2.1, 480, .inr (.inl N1))), (c 8, .inr (0, [])), (c 9, .inr (4, [.ref (c 10)])), (c 10, .inl (cT.2.1, 28, .inr (.inl PR)))] ++ pool n pa (per sk mo wk fx wi la da we)) := hD
        rw [show p = 480 by omega] at hN1
        rw [hN1] at hP hD
        exact wr_vret S () hr hlocks trivial (perm67 hP) (perm67D hD) hS dX1_goOn_241
      · refine lv_aload_n S.1 S.2.1 dX1_goOn_24 rfl (lv_at hl 0 rfl) ?_
        refine g_get (C := RX1) (T := TX1) (N := 2) (v := .ref a6) S 5 1 0 in_X1_goOn_X1 hK hP rfl rfl (by decide) w_X1_goOn_1 rfl dX1_goOn_25 ?_
        refine lv_iload S.1 S.2.1 dX1_goOn_28 (lv_at hl 5 rfl) ?_
        refine g_lald S 6 hK hP rfl (by omega) dX1_goOn_30 ?_
        refine lv_lstore (lv' := [(6, .long (V p)), (0, .ref (c 5)), (1, .ref (pa i)), (2, .ref (c 4)), (3, .ref (c 8)), (4, .int (nI d)), (5, .int (nI p))]) S.1 S.2.1 dX1_goOn_31 hl (by decide) rfl (fun ls hl => ?_)
        refine lv_lload S.1 S.2.1 dX1_goOn_33 (lv_at hl 0 rfl) ?_
        refine lv_aload_n S.1 S.2.1 dX1_goOn_35 rfl (lv_at hl 4 rfl) ?_
        refine rd_callUl (x := ⟨"CoverSheet$Measure", "none", "()J"⟩) (owner := "CoverSheet$Measure") (n := 0) (rest := [.long (V p)]) S (r_X0_none l D cT (c 8) ) gX1_goOn_X0_none_u18X0 rfl (List.mem_of_getElem? (i := 17) rfl) (by decide +kernel) ⟨rfl, rfl, Nat.le_of_ble_eq_true rfl, Nat.le_of_ble_eq_true rfl⟩ (hP.sub (ws' := [(c 8, .inr (0, []))]) [8] rfl) hK (va_recv hK.1 hP (ci := 0) (q0 := 8) rfl rfl) hl rfl rfl (Nat.le_of_ble_eq_true rfl) ⟨Nat.zero_le _, Nat.zero_le _⟩ dX1_goOn_36 ?_
        refine n_lne S (tgt := 46) dX1_goOn_39 dX1_goOn_40 (by decide) (fun c40 => ?_) (fun c40 => ?_)
        · refine lv_iload S.1 S.2.1 dX1_goOn_46 (lv_at hl 6 rfl) ?_
          refine lv_iconst (v := (nI 4)) S.1 S.2.1 dX1_goOn_48 (by decide) ?_
          refine n_rem S (by omega) dX1_goOn_49 ?_
          refine lv_istore (lv' := [(8, .int (nI (p % 4))), (6, .long (V p)), (0, .ref (c 5)), (1, .ref (pa i)), (2, .ref (c 4)), (3, .ref (c 8)), (4, .int (nI d)), (5, .int (nI p))]) S.1 S.2.1 dX1_goOn_50 hl (by decide) rfl (fun ls hl => ?_)
          refine lv_iload S.1 S.2.1 dX1_goOn_52 (lv_at hl 7 rfl) ?_
          refine lv_iconst (v := (nI 4)) S.1 S.2.1 dX1_goOn_54 (by decide) ?_
          refine n_div S (by omega) dX1_goOn_55 ?_
          refine lv_bipush (v := (nI 15)) S.1 S.2.1 dX1_goOn_56 (by decide) ?_
          refine n_rem S (by omega) dX1_goOn_58 ?_
          refine lv_istore (lv' := [(9, .int (nI ((p / 4) % 15))), (8, .int (nI (p % 4))), (6, .long (V p)), (0, .ref (c 5)), (1, .ref (pa i)), (2, .ref (c 4)), (3, .ref (c 8)), (4, .int (nI d)), (5, .int (nI p))]) S.1 S.2.1 dX1_goOn_59 hl (by decide) rfl (fun ls hl => ?_)
          refine lv_iload S.1 S.2.1 dX1_goOn_61 (lv_at hl 8 rfl) ?_
          refine lv_iconst (v := (nI 4)) S.1 S.2.1 dX1_goOn_63 (by decide) ?_
          refine n_div S (by omega) dX1_goOn_64 ?_
          refine lv_bipush (v := (nI 15)) S.1 S.2.1 dX1_goOn_65 (by decide) ?_
          refine n_div S (by omega) dX1_goOn_67 ?_
          refine lv_istore (lv' := [(10, .int (nI ((p / 4) / 15))), (9, .int (nI ((p / 4) % 15))), (8, .int (nI (p % 4))), (6, .long (V p)), (0, .ref (c 5)), (1, .ref (pa i)), (2, .ref (c 4)), (3, .ref (c 8)), (4, .int (nI d)), (5, .int (nI p))]) S.1 S.2.1 dX1_goOn_68 hl (by decide) rfl (fun ls hl => ?_)
          refine lv_iconst (v := (nI 0)) S.1 S.2.1 dX1_goOn_70 (by decide) ?_
          refine lv_istore (lv' := [(11, .int (nI 0)), (10, .int (nI ((p / 4) / 15))), (9, .int (nI ((p / 4) % 15))), (8, .int (nI (p % 4))), (6, .long (V p)), (0, .ref (c 5)), (1, .ref (pa i)), (2, .ref (c 4)), (3, .ref (c 8)), (4, .int (nI d)), (5, .int (nI p))]) S.1 S.2.1 dX1_goOn_71 hl (by decide) rfl (fun ls hl => ?_)
          have lp73 : ∀ (fu : Nat) (N2 : Nat → Int64) (e : Nat), (e ≤ 4) → (N2 = goE (okp (sk i) (mo i) (fx i) fb rn d) (fun v _ => v) (fun a b => a + b) (V p) p N1 e) → (4 - e) < fu → ∀ (H : Heap) (locs : List Loc), va_P D vwCl (cX cT c a6 a7 n ro cl fb rn nd V N2 PR pa ++ pool n pa (per sk mo wk fx wi la da we)) H → va_D A (cX cT c a6 a7 n ro cl fb rn nd V N2 PR pa ++ pool n pa (per sk mo wk fx wi la da we)) → va_S A s0.heap H locs → ∀ ls : Array Slot, lv_has ls 16 [(0, .ref (c 5)), (1, .ref (pa i)), (2, .ref (c 4)), (3, .ref (c 8)), (4, .int (nI d)), (5, .int (nI p)), (6, .long (V p)), (8, .int (nI (p % 4))), (9, .int (nI ((p / 4) % 15))), (10, .int (nI ((p / 4) / 15))), (11, .int (nI e))] → W p0 l e0 ({ frames := 2, cells := 0, slots := 0, locals := 44 } : Room) s0 m0 a0 b0 t0 c0 H locs 0 0 (MQ b0 (wQv (fun (_ : Unit) => True) D (fun (_ : Unit) => cX cT c a7 a6 n ro cl fb rn nd (goP (okp (sk i) (mo i) (fx i) fb rn d) (fun v _ => v) (fun a b => a + b) 0 V 480) V PR pa ++ pool n pa (per sk mo wk fx wi la da we)) A) a0 s0 0 0 A) (F0 m0 73 ls []) := by
            intro fu
            induction fu with
            | zero =>
              intro N2 e h3 hN2 hm
              exact absurd hm (Nat.not_lt_zero _)
            | succ fu ih73 =>
              intro N2 e h3 hN2 hm H locs hP hD hS ls hl
              refine lv_iload S.1 S.2.1 dX1_goOn_73 (lv_at hl 10 rfl) ?_
              refine lv_iconst (v := (nI 3)) S.1 S.2.1 dX1_goOn_75 (by decide) ?_
              refine n_cgt S (tgt := 215) (by omega) dX1_goOn_76 (by decide) (fun c76 => ?_) (fun c76 => ?_)
              · refine lv_iinc (v := (nI (p + 1))) (lv' := [(5, .int (nI (p + 1))), (0, .ref (c 5)), (1, .ref (pa i)), (2, .ref (c 4)), (3, .ref (c 8)), (4, .int (nI d)), (6, .long (V p)), (8, .int (nI (p % 4))), (9, .int (nI ((p / 4) % 15))), (10, .int (nI ((p / 4) / 15))), (11, .int (nI e))]) S.1 S.2.1 dX1_goOn_215 hl (k := 5) rfl (nI_1 _) (by decide) rfl (fun ls hl => ?_)
                refine lv_goto (tgt := 14) S.1 S.2.1 dX1_goOn_218 (by decide) ?_
                exact ih14 N2 (p + 1) (by omega) (by rw [hN2, show e = 4 by omega, hN1]; exact (goP_y c40).symm) (by omega) _ _ hP hD hS ls (lv_sub hl [1, 2, 3, 4, 5, 0] rfl)
              · refine lv_iload S.1 S.2.1 dX1_goOn_79 (lv_at hl 10 rfl) ?_
                refine n_zeq S (tgt := 97) (by omega) dX1_goOn_81 (by decide) (fun c81 => ?_) (fun c81 => ?_)
                · refine lv_iconst (v := (nI 0)) S.1 S.2.1 dX1_goOn_97 (by decide) ?_
                  refine lv_istore (lv' := [(12, .int (nI 0)), (0, .ref (c 5)), (1, .ref (pa i)), (2, .ref (c 4)), (3, .ref (c 8)), (4, .int (nI d)), (5, .int (nI p)), (6, .long (V p)), (8, .int (nI (p % 4))), (9, .int (nI ((p / 4) % 15))), (10, .int (nI ((p / 4) / 15))), (11, .int (nI e))]) S.1 S.2.1 dX1_goOn_98 hl (by decide) rfl (fun ls hl => ?_)
                  refine lv_iload S.1 S.2.1 dX1_goOn_100 (lv_at hl 0 rfl) ?_
                  refine n_zne S (tgt := 209) (by decide) dX1_goOn_102 (by decide) (fun q => absurd q (by decide)) (fun _ => ?_)
                  refine lv_aload_n S.1 S.2.1 dX1_goOn_105 rfl (lv_at hl 2 rfl) ?_
                  refine lv_iload S.1 S.2.1 dX1_goOn_106 (lv_at hl 5 rfl) ?_
                  refine lv_iload S.1 S.2.1 dX1_goOn_108 (lv_at hl 11 rfl) ?_
                  refine rd_callV (rest := []) S (r_X4_mayHave l D cT (pa i) (sk i) (mo i) (wk i) (fx i) (wi i) (la i) (da i) (we i) d e (hd) (by omega) (by omega) (by omega)) gX1_goOn_X4_mayHave rfl pd_X4_mayHave ⟨rfl, rfl, Nat.le_of_ble_eq_true rfl, Nat.le_of_ble_eq_true rfl⟩ (pool_one hP (by omega)) hK (va_recv hK.1 hP (ci := 3) (q0 := _) rfl (pool_at (by omega))) hl rfl rfl (Nat.le_of_ble_eq_true rfl) ⟨Nat.zero_le _, Nat.zero_le _⟩ dX1_goOn_110 ?_
                  refine n_beq S (tgt := 209) dX1_goOn_113 (by decide) (fun c113 => ?_) (fun c113 => ?_)
                  · refine lv_iinc (v := (nI (e + 1))) (lv' := [(11, .int (nI (e + 1))), (12, .int (nI 0)), (0, .ref (c 5)), (1, .ref (pa i)), (2, .ref (c 4)), (3, .ref (c 8)), (4, .int (nI d)), (5, .int (nI p)), (6, .long (V p)), (8, .int (nI (p % 4))), (9, .int (nI ((p / 4) % 15))), (10, .int (nI ((p / 4) / 15)))]) S.1 S.2.1 dX1_goOn_209 hl (k := 11) rfl (nI_1 _) (by decide) rfl (fun ls hl => ?_)
                    refine lv_goto (tgt := 73) S.1 S.2.1 dX1_goOn_212 (by decide) ?_
                    exact ih73 N2 (e + 1) (by omega) (by rw [hN2]; exact (goE_n (okp_n2 c113)).symm) (by omega) _ _ hP hD hS ls (lv_sub hl [2, 3, 4, 5, 6, 7, 8, 9, 10, 11, 0] rfl)
                  · refine lv_aload_n S.1 S.2.1 dX1_goOn_116 rfl (lv_at hl 3 rfl) ?_
                    refine lv_iload S.1 S.2.1 dX1_goOn_117 (lv_at hl 8 rfl) ?_
                    refine lv_iload S.1 S.2.1 dX1_goOn_119 (lv_at hl 9 rfl) ?_
                    refine lv_iload S.1 S.2.1 dX1_goOn_121 (lv_at hl 11 rfl) ?_
                    refine rd_callV (rest := []) S (r_X6_allow l D cT (c 4) fb rn (p % 4) ((p / 4) % 15) e (by omega) (by omega) (⟨by omega, by omega, by omega⟩)) gX1_goOn_X6_allow rfl pd_X6_allow ⟨rfl, rfl, Nat.le_of_ble_eq_true rfl, Nat.le_of_ble_eq_true rfl⟩ (hP.sub (ws' := [(c 4, .inr (5, [.int (nI fb), .int (nI rn)]))]) [4] rfl) hK (va_recv hK.1 hP (ci := 5) (q0 := 4) rfl rfl) hl rfl rfl (Nat.le_of_ble_eq_true rfl) ⟨Nat.zero_le _, Nat.zero_le _⟩ dX1_goOn_123 ?_
                    refine n_bne S (tgt := 132) dX1_goOn_126 (by decide) (fun c126 => ?_) (fun c126 => ?_)
                    · refine lv_iload S.1 S.2.1 dX1_goOn_132 (lv_at hl 11 rfl) ?_
                      refine n_zne S (tgt := 147) (by omega) dX1_goOn_134 (by decide) (fun c134 => ?_) (fun c134 => ?_)
                      · refine lv_iload S.1 S.2.1 dX1_goOn_147 (lv_at hl 10 rfl) ?_
                        refine lv_iconst (v := (nI 1)) S.1 S.2.1 dX1_goOn_149 (by decide) ?_
                        refine n_add S dX1_goOn_150 ?_
                        refine lv_iload S.1 S.2.1 dX1_goOn_151 (lv_at hl 9 rfl) ?_
                        refine lv_iconst (v := (nI 1)) S.1 S.2.1 dX1_goOn_153 (by decide) ?_
                        refine n_add S dX1_goOn_154 ?_
                        refine lv_iload S.1 S.2.1 dX1_goOn_155 (lv_at hl 11 rfl) ?_
                        refine rd_callS (rest := []) S (r_X1_placeOf l D cT (((p / 4) / 15) + 1) (((p / 4) % 15) + 1) e ) gX1_goOn_X1_placeOf rfl pd_X1_placeOf ⟨rfl, rfl, Nat.le_of_ble_eq_true rfl, Nat.le_of_ble_eq_true rfl⟩ (sx_P0 D _) hK hl rfl rfl (Nat.le_of_ble_eq_true rfl) ⟨Nat.zero_le _, Nat.zero_le _⟩ dX1_goOn_157 ?_
                        have hnx : nx p e < 480 := nx_lt (mo := mo i) (by omega) (by omega) (Or.inl c81) (by omega) c126 hrn
                        refine n_top (nx_1 (p := p) (e := e) c134) ?_
                        refine lv_istore (lv' := [(13, .int (nI (nx p e))), (12, .int (nI 0)), (0, .ref (c 5)), (1, .ref (pa i)), (2, .ref (c 4)), (3, .ref (c 8)), (4, .int (nI d)), (5, .int (nI p)), (6, .long (V p)), (8, .int (nI (p % 4))), (9, .int (nI ((p / 4) % 15))), (10, .int (nI ((p / 4) / 15))), (11, .int (nI e))]) S.1 S.2.1 dX1_goOn_160 hl (by decide) rfl (fun ls hl => ?_)
                        refine lv_iload S.1 S.2.1 dX1_goOn_162 (lv_at hl 0 rfl) ?_
                        refine n_zlt S (tgt := 209) (by omega) dX1_goOn_164 (by decide) ?_
                        refine lv_iload S.1 S.2.1 dX1_goOn_167 (lv_at hl 0 rfl) ?_
                        refine lv_aload_n S.1 S.2.1 dX1_goOn_169 rfl (lv_at hl 2 rfl) ?_
                        refine g_get (C := RX1) (T := TX1) (N := 2) (v := .ref a7) S 5 1 1 in_X1_goOn_X1 hK hP rfl rfl (by decide) w_X1_goOn_0 rfl dX1_goOn_170 ?_
                        refine g_alen S 7 1 hK hP rfl rfl dX1_goOn_173 ?_
                        refine n_cge S (tgt := 209) (by omega) dX1_goOn_174 (by decide) (fun c174 => ?_) (fun c174 => ?_)
                        · exact absurd c174 (by omega)
                        refine lv_aload_n S.1 S.2.1 dX1_goOn_177 rfl (lv_at hl 5 rfl) ?_
                        refine lv_lload S.1 S.2.1 dX1_goOn_178 (lv_at hl 8 rfl) ?_
                        refine lv_iload S.1 S.2.1 dX1_goOn_180 (lv_at hl 6 rfl) ?_
                        refine lv_iload S.1 S.2.1 dX1_goOn_182 (lv_at hl 12 rfl) ?_
                        refine rd_callUl (x := ⟨"CoverSheet$Measure", "longer", "(JII)J"⟩) (owner := "CoverSheet$Measure") (n := 3) (rest := []) S (r_X0_longer l D cT (c 8) (V p) d e ) gX1_goOn_X0_longer_u73X0 rfl (List.mem_of_getElem? (i := 19) rfl) (by decide +kernel) ⟨rfl, rfl, Nat.le_of_ble_eq_true rfl, Nat.le_of_ble_eq_true rfl⟩ (hP.sub (ws' := [(c 8, .inr (0, []))]) [8] rfl) hK (va_recv hK.1 hP (ci := 0) (q0 := 8) rfl rfl) hl rfl rfl (Nat.le_of_ble_eq_true rfl) ⟨Nat.zero_le _, Nat.zero_le _⟩ dX1_goOn_184 ?_
                        refine lv_lstore (lv' := [(14, .long (V p)), (13, .int (nI (nx p e))), (12, .int (nI 0)), (0, .ref (c 5)), (1, .ref (pa i)), (2, .ref (c 4)), (3, .ref (c 8)), (4, .int (nI d)), (5, .int (nI p)), (6, .long (V p)), (8, .int (nI (p % 4))), (9, .int (nI ((p / 4) % 15))), (10, .int (nI ((p / 4) / 15))), (11, .int (nI e))]) S.1 S.2.1 dX1_goOn_187 hl (by decide) rfl (fun ls hl => ?_)
                        refine lv_aload_n S.1 S.2.1 dX1_goOn_189 rfl (lv_at hl 3 rfl) ?_
                        refine g_get (C := RX1) (T := TX1) (N := 2) (v := .ref a7) S 5 1 1 in_X1_goOn_X1 hK hP rfl rfl (by decide) w_X1_goOn_0 rfl dX1_goOn_190 ?_
                        refine lv_iload S.1 S.2.1 dX1_goOn_193 (lv_at hl 1 rfl) ?_
                        refine lv_aload_n S.1 S.2.1 dX1_goOn_195 rfl (lv_at hl 6 rfl) ?_
                        refine lv_aload_n S.1 S.2.1 dX1_goOn_196 rfl (lv_at hl 3 rfl) ?_
                        refine g_get (C := RX1) (T := TX1) (N := 2) (v := .ref a7) S 5 1 1 in_X1_goOn_X1 hK hP rfl rfl (by decide) w_X1_goOn_0 rfl dX1_goOn_197 ?_
                        refine lv_iload S.1 S.2.1 dX1_goOn_200 (lv_at hl 1 rfl) ?_
                        refine g_lald S 7 hK hP rfl (by omega) dX1_goOn_202 ?_
                        refine lv_lload S.1 S.2.1 dX1_goOn_203 (lv_at hl 0 rfl) ?_
                        refine rd_callUl (x := ⟨"CoverSheet$Measure", "joined", "(JJ)J"⟩) (owner := "CoverSheet$Measure") (n := 2) (rest := [.int (nI (nx p e)), .ref a7]) S (r_X0_joined l D cT (c 8) (N2 (nx p e)) (V p) ) gX1_goOn_X0_joined_u56X0 rfl (List.mem_of_getElem? (i := 20) rfl) (by decide +kernel) ⟨rfl, rfl, Nat.le_of_ble_eq_true rfl, Nat.le_of_ble_eq_true rfl⟩ (hP.sub (ws' := [(c 8, .inr (0, []))]) [8] rfl) hK (va_recv hK.1 hP (ci := 0) (q0 := 8) rfl rfl) hl rfl rfl (Nat.le_of_ble_eq_true rfl) ⟨Nat.zero_le _, Nat.zero_le _⟩ dX1_goOn_205 ?_
                        refine w_last S 7 hK hP hD hS rfl (by omega) dX1_goOn_208 (fun H locs hP hD hS => ?_)
                        have hP : va_P D vwCl (cX cT c a6 a7 n ro cl fb rn nd V (vp_updL N2 (nx p e) ((N2 (nx p e)) + (V p))) PR pa ++ pool n pa (per sk mo wk fx wi la da we)) H := hP
                        have hD : va_D A (cX cT c a6 a7 n ro cl fb rn nd V (vp_updL N2 (nx p e) ((N2 (nx p e)) + (V p))) PR pa ++ pool n pa (per sk mo wk fx wi la da we)) := hD
                        refine lv_iinc (v := (nI (e + 1))) (lv' := [(11, .int (nI (e + 1))), (14, .long (V p)), (13, .int (nI (nx p e))), (12, .int (nI 0)), (0, .ref (c 5)), (1, .ref (pa i)), (2, .ref (c 4)), (3, .ref (c 8)), (4, .int (nI d)), (5, .int (nI p)), (6, .long (V p)), (8, .int (nI (p % 4))), (9, .int (nI ((p / 4) % 15))), (10, .int (nI ((p / 4) / 15)))]) S.1 S.2.1 dX1_goOn_209 hl (k := 13) rfl (nI_1 _) (by decide) rfl (fun ls hl => ?_)
                        refine lv_goto (tgt := 73) S.1 S.2.1 dX1_goOn_212 (by decide) ?_
                        exact ih73 (vp_updL N2 (nx p e) ((N2 (nx p e)) + (V p))) (e + 1) (by omega) (by rw [hN2]; exact (goE_y (okp_y (Or.inl c81) c113 c126)).symm) (by omega) _ _ hP hD hS ls (lv_sub hl [4, 5, 6, 7, 8, 9, 10, 11, 12, 13, 0] rfl)
                      · refine lv_iload S.1 S.2.1 dX1_goOn_137 (lv_at hl 10 rfl) ?_
                        refine lv_iconst (v := (nI 0)) S.1 S.2.1 dX1_goOn_139 (by decide) ?_
                        refine lv_iconst (v := (nI 0)) S.1 S.2.1 dX1_goOn_140 (by decide) ?_
                        refine rd_callS (rest := []) S (r_X1_placeOf l D cT ((p / 4) / 15) 0 0 ) gX1_goOn_X1_placeOf rfl pd_X1_placeOf ⟨rfl, rfl, Nat.le_of_ble_eq_true rfl, Nat.le_of_ble_eq_true rfl⟩ (sx_P0 D _) hK hl rfl rfl (Nat.le_of_ble_eq_true rfl) ⟨Nat.zero_le _, Nat.zero_le _⟩ dX1_goOn_141 ?_
                        refine lv_goto (tgt := 160) S.1 S.2.1 dX1_goOn_144 (by decide) ?_
                        have hnx : nx p e < 480 := nx_lt (mo := mo i) (by omega) (by omega) (Or.inl c81) (by omega) c126 hrn
                        refine n_top (nx_0 (p := p) (e := e) c134) ?_
                        refine lv_istore (lv' := [(13, .int (nI (nx p e))), (12, .int (nI 0)), (0, .ref (c 5)), (1, .ref (pa i)), (2, .ref (c 4)), (3, .ref (c 8)), (4, .int (nI d)), (5, .int (nI p)), (6, .long (V p)), (8, .int (nI (p % 4))), (9, .int (nI ((p / 4) % 15))), (10, .int (nI ((p / 4) / 15))), (11, .int (nI e))]) S.1 S.2.1 dX1_goOn_160 hl (by decide) rfl (fun ls hl => ?_)
                        refine lv_iload S.1 S.2.1 dX1_goOn_162 (lv_at hl 0 rfl) ?_
                        refine n_zlt S (tgt := 209) (by omega) dX1_goOn_164 (by decide) ?_
                        refine lv_iload S.1 S.2.1 dX1_goOn_167 (lv_at hl 0 rfl) ?_
                        refine lv_aload_n S.1 S.2.1 dX1_goOn_169 rfl (lv_at hl 2 rfl) ?_
                        refine g_get (C := RX1) (T := TX1) (N := 2) (v := .ref a7) S 5 1 1 in_X1_goOn_X1 hK hP rfl rfl (by decide) w_X1_goOn_0 rfl dX1_goOn_170 ?_
                        refine g_alen S 7 1 hK hP rfl rfl dX1_goOn_173 ?_
                        refine n_cge S (tgt := 209) (by omega) dX1_goOn_174 (by decide) (fun c174 => ?_) (fun c174 => ?_)
                        · exact absurd c174 (by omega)
                        refine lv_aload_n S.1 S.2.1 dX1_goOn_177 rfl (lv_at hl 5 rfl) ?_
                        refine lv_lload S.1 S.2.1 dX1_goOn_178 (lv_at hl 8 rfl) ?_
                        refine lv_iload S.1 S.2.1 dX1_goOn_180 (lv_at hl 6 rfl) ?_
                        refine lv_iload S.1 S.2.1 dX1_goOn_182 (lv_at hl 12 rfl) ?_
                        refine rd_callUl (x := ⟨"CoverSheet$Measure", "longer", "(JII)J"⟩) (owner := "CoverSheet$Measure") (n := 3) (rest := []) S (r_X0_longer l D cT (c 8) (V p) d e ) gX1_goOn_X0_longer_u73X0 rfl (List.mem_of_getElem? (i := 19) rfl) (by decide +kernel) ⟨rfl, rfl, Nat.le_of_ble_eq_true rfl, Nat.le_of_ble_eq_true rfl⟩ (hP.sub (ws' := [(c 8, .inr (0, []))]) [8] rfl) hK (va_recv hK.1 hP (ci := 0) (q0 := 8) rfl rfl) hl rfl rfl (Nat.le_of_ble_eq_true rfl) ⟨Nat.zero_le _, Nat.zero_le _⟩ dX1_goOn_184 ?_
                        refine lv_lstore (lv' := [(14, .long (V p)), (13, .int (nI (nx p e))), (12, .int (nI 0)), (0, .ref (c 5)), (1, .ref (pa i)), (2, .ref (c 4)), (3, .ref (c 8)), (4, .int (nI d)), (5, .int (nI p)), (6, .long (V p)), (8, .int (nI (p % 4))), (9, .int (nI ((p / 4) % 15))), (10, .int (nI ((p / 4) / 15))), (11, .int (nI e))]) S.1 S.2.1 dX1_goOn_187 hl (by decide) rfl (fun ls hl => ?_)
                        refine lv_aload_n S.1 S.2.1 dX1_goOn_189 rfl (lv_at hl 3 rfl) ?_
                        refine g_get (C := RX1) (T := TX1) (N := 2) (v := .ref a7) S 5 1 1 in_X1_goOn_X1 hK hP rfl rfl (by decide) w_X1_goOn_0 rfl dX1_goOn_190 ?_
                        refine lv_iload S.1 S.2.1 dX1_goOn_193 (lv_at hl 1 rfl) ?_
                        refine lv_aload_n S.1 S.2.1 dX1_goOn_195 rfl (lv_at hl 6 rfl) ?_
                        refine lv_aload_n S.1 S.2.1 dX1_goOn_196 rfl (lv_at hl 3 rfl) ?_
                        refine g_get (C := RX1) (T := TX1) (N := 2) (v := .ref a7) S 5 1 1 in_X1_goOn_X1 hK hP rfl rfl (by decide) w_X1_goOn_0 rfl dX1_goOn_197 ?_
                        refine lv_iload S.1 S.2.1 dX1_goOn_200 (lv_at hl 1 rfl) ?_
                        refine g_lald S 7 hK hP rfl (by omega) dX1_goOn_202 ?_
                        refine lv_lload S.1 S.2.1 dX1_goOn_203 (lv_at hl 0 rfl) ?_
                        refine rd_callUl (x := ⟨"CoverSheet$Measure", "joined", "(JJ)J"⟩) (owner := "CoverSheet$Measure") (n := 2) (rest := [.int (nI (nx p e)), .ref a7]) S (r_X0_joined l D cT (c 8) (N2 (nx p e)) (V p) ) gX1_goOn_X0_joined_u56X0 rfl (List.mem_of_getElem? (i := 20) rfl) (by decide +kernel) ⟨rfl, rfl, Nat.le_of_ble_eq_true rfl, Nat.le_of_ble_eq_true rfl⟩ (hP.sub (ws' := [(c 8, .inr (0, []))]) [8] rfl) hK (va_recv hK.1 hP (ci := 0) (q0 := 8) rfl rfl) hl rfl rfl (Nat.le_of_ble_eq_true rfl) ⟨Nat.zero_le _, Nat.zero_le _⟩ dX1_goOn_205 ?_
                        refine w_last S 7 hK hP hD hS rfl (by omega) dX1_goOn_208 (fun H locs hP hD hS => ?_)
                        have hP : va_P D vwCl (cX cT c a6 a7 n ro cl fb rn nd V (vp_updL N2 (nx p e) ((N2 (nx p e)) + (V p))) PR pa ++ pool n pa (per sk mo wk fx wi la da we)) H := hP
                        have hD : va_D A (cX cT c a6 a7 n ro cl fb rn nd V (vp_updL N2 (nx p e) ((N2 (nx p e)) + (V p))) PR pa ++ pool n pa (per sk mo wk fx wi la da we)) := hD
                        refine lv_iinc (v := (nI (e + 1))) (lv' := [(11, .int (nI (e + 1))), (14, .long (V p)), (13, .int (nI (nx p e))), (12, .int (nI 0)), (0, .ref (c 5)), (1, .ref (pa i)), (2, .ref (c 4)), (3, .ref (c 8)), (4, .int (nI d)), (5, .int (nI p)), (6, .long (V p)), (8, .int (nI (p % 4))), (9, .int (nI ((p / 4) % 15))), (10, .int (nI ((p / 4) / 15)))]) S.1 S.2.1 dX1_goOn_209 hl (k := 13) rfl (nI_1 _) (by decide) rfl (fun ls hl => ?_)
                        refine lv_goto (tgt := 73) S.1 S.2.1 dX1_goOn_212 (by decide) ?_
                        exact ih73 (vp_updL N2 (nx p e) ((N2 (nx p e)) + (V p))) (e + 1) (by omega) (by rw [hN2]; exact (goE_y (okp_y (Or.inl c81) c113 c126)).symm) (by omega) _ _ hP hD hS ls (lv_sub hl [4, 5, 6, 7, 8, 9, 10, 11, 12, 13, 0] rfl)
                    · refine lv_goto (tgt := 209) S.1 S.2.1 dX1_goOn_129 (by decide) ?_
                      refine lv_iinc (v := (nI (e + 1))) (lv' := [(11, .int (nI (e + 1))), (12, .int (nI 0)), (0, .ref (c 5)), (1, .ref (pa i)), (2, .ref (c 4)), (3, .ref (c 8)), (4, .int (nI d)), (5, .int (nI p)), (6, .long (V p)), (8, .int (nI (p % 4))), (9, .int (nI ((p / 4) % 15))), (10, .int (nI ((p / 4) / 15)))]) S.1 S.2.1 dX1_goOn_209 hl (k := 11) rfl (nI_1 _) (by decide) rfl (fun ls hl => ?_)
                      refine lv_goto (tgt := 73) S.1 S.2.1 dX1_goOn_212 (by decide) ?_
                      exact ih73 N2 (e + 1) (by omega) (by rw [hN2]; exact (goE_n (okp_n3 c126)).symm) (by omega) _ _ hP hD hS ls (lv_sub hl [2, 3, 4, 5, 6, 7, 8, 9, 10, 11, 0] rfl)
                · refine lv_iload S.1 S.2.1 dX1_goOn_84 (lv_at hl 9 rfl) ?_
                  refine lv_aload_n S.1 S.2.1 dX1_goOn_86 rfl (lv_at hl 1 rfl) ?_
                  refine g_getN (C := RX4) (T := TX4) (N := 8) (v := .int (nI (mo i))) S _ 3 1 in_X1_goOn_X4 hK hP (pool_at (by omega)) rfl (by decide) (List.mem_of_getElem? (i := 10) rfl) rfl dX1_goOn_87 ?_
                  refine n_clt S (tgt := 97) (by omega) dX1_goOn_90 (by decide) (fun c90 => ?_) (fun c90 => ?_)
                  · refine lv_iconst (v := (nI 0)) S.1 S.2.1 dX1_goOn_97 (by decide) ?_
                    refine lv_istore (lv' := [(12, .int (nI 0)), (0, .ref (c 5)), (1, .ref (pa i)), (2, .ref (c 4)), (3, .ref (c 8)), (4, .int (nI d)), (5, .int (nI p)), (6, .long (V p)), (8, .int (nI (p % 4))), (9, .int (nI ((p / 4) % 15))), (10, .int (nI ((p / 4) / 15))), (11, .int (nI e))]) S.1 S.2.1 dX1_goOn_98 hl (by decide) rfl (fun ls hl => ?_)
                    refine lv_iload S.1 S.2.1 dX1_goOn_100 (lv_at hl 0 rfl) ?_
                    refine n_zne S (tgt := 209) (by decide) dX1_goOn_102 (by decide) (fun q => absurd q (by decide)) (fun _ => ?_)
                    refine lv_aload_n S.1 S.2.1 dX1_goOn_105 rfl (lv_at hl 2 rfl) ?_
                    refine lv_iload S.1 S.2.1 dX1_goOn_106 (lv_at hl 5 rfl) ?_
                    refine lv_iload S.1 S.2.1 dX1_goOn_108 (lv_at hl 11 rfl) ?_
                    refine rd_callV (rest := []) S (r_X4_mayHave l D cT (pa i) (sk i) (mo i) (wk i) (fx i) (wi i) (la i) (da i) (we i) d e (hd) (by omega) (by omega) (by omega)) gX1_goOn_X4_mayHave rfl pd_X4_mayHave ⟨rfl, rfl, Nat.le_of_ble_eq_true rfl, Nat.le_of_ble_eq_true rfl⟩ (pool_one hP (by omega)) hK (va_recv hK.1 hP (ci := 3) (q0 := _) rfl (pool_at (by omega))) hl rfl rfl (Nat.le_of_ble_eq_true rfl) ⟨Nat.zero_le _, Nat.zero_le _⟩ dX1_goOn_110 ?_
                    refine n_beq S (tgt := 209) dX1_goOn_113 (by decide) (fun c113 => ?_) (fun c113 => ?_)
                    · refine lv_iinc (v := (nI (e + 1))) (lv' := [(11, .int (nI (e + 1))), (12, .int (nI 0)), (0, .ref (c 5)), (1, .ref (pa i)), (2, .ref (c 4)), (3, .ref (c 8)), (4, .int (nI d)), (5, .int (nI p)), (6, .long (V p)), (8, .int (nI (p % 4))), (9, .int (nI ((p / 4) % 15))), (10, .int (nI ((p / 4) / 15)))]) S.1 S.2.1 dX1_goOn_209 hl (k := 11) rfl (nI_1 _) (by decide) rfl (fun ls hl => ?_)
                      refine lv_goto (tgt := 73) S.1 S.2.1 dX1_goOn_212 (by decide) ?_
                      exact ih73 N2 (e + 1) (by omega) (by rw [hN2]; exact (goE_n (okp_n2 c113)).symm) (by omega) _ _ hP hD hS ls (lv_sub hl [2, 3, 4, 5, 6, 7, 8, 9, 10, 11, 0] rfl)
                    · refine lv_aload_n S.1 S.2.1 dX1_goOn_116 rfl (lv_at hl 3 rfl) ?_
                      refine lv_iload S.1 S.2.1 dX1_goOn_117 (lv_at hl 8 rfl) ?_
                      refine lv_iload S.1 S.2.1 dX1_goOn_119 (lv_at hl 9 rfl) ?_
                      refine lv_iload S.1 S.2.1 dX1_goOn_121 (lv_at hl 11 rfl) ?_
                      refine rd_callV (rest := []) S (r_X6_allow l D cT (c 4) fb rn (p % 4) ((p / 4) % 15) e (by omega) (by omega) (⟨by omega, by omega, by omega⟩)) gX1_goOn_X6_allow rfl pd_X6_allow ⟨rfl, rfl, Nat.le_of_ble_eq_true rfl, Nat.le_of_ble_eq_true rfl⟩ (hP.sub (ws' := [(c 4, .inr (5, [.int (nI fb), .int (nI rn)]))]) [4] rfl) hK (va_recv hK.1 hP (ci := 5) (q0 := 4) rfl rfl) hl rfl rfl (Nat.le_of_ble_eq_true rfl) ⟨Nat.zero_le _, Nat.zero_le _⟩ dX1_goOn_123 ?_
                      refine n_bne S (tgt := 132) dX1_goOn_126 (by decide) (fun c126 => ?_) (fun c126 => ?_)
                      · refine lv_iload S.1 S.2.1 dX1_goOn_132 (lv_at hl 11 rfl) ?_
                        refine n_zne S (tgt := 147) (by omega) dX1_goOn_134 (by decide) (fun c134 => ?_) (fun c134 => ?_)
                        · refine lv_iload S.1 S.2.1 dX1_goOn_147 (lv_at hl 10 rfl) ?_
                          refine lv_iconst (v := (nI 1)) S.1 S.2.1 dX1_goOn_149 (by decide) ?_
                          refine n_add S dX1_goOn_150 ?_
                          refine lv_iload S.1 S.2.1 dX1_goOn_151 (lv_at hl 9 rfl) ?_
                          refine lv_iconst (v := (nI 1)) S.1 S.2.1 dX1_goOn_153 (by decide) ?_
                          refine n_add S dX1_goOn_154 ?_
                          refine lv_iload S.1 S.2.1 dX1_goOn_155 (lv_at hl 11 rfl) ?_
                          refine rd_callS (rest := []) S (r_X1_placeOf l D cT (((p / 4) / 15) + 1) (((p / 4) % 15) + 1) e ) gX1_goOn_X1_placeOf rfl pd_X1_placeOf ⟨rfl, rfl, Nat.le_of_ble_eq_true rfl, Nat.le_of_ble_eq_true rfl⟩ (sx_P0 D _) hK hl rfl rfl (Nat.le_of_ble_eq_true rfl) ⟨Nat.zero_le _, Nat.zero_le _⟩ dX1_goOn_157 ?_
                          have hnx : nx p e < 480 := nx_lt (mo := mo i) (by omega) (by omega) (Or.inr c90) (by omega) c126 hrn
                          refine n_top (nx_1 (p := p) (e := e) c134) ?_
                          refine lv_istore (lv' := [(13, .int (nI (nx p e))), (12, .int (nI 0)), (0, .ref (c 5)), (1, .ref (pa i)), (2, .ref (c 4)), (3, .ref (c 8)), (4, .int (nI d)), (5, .int (nI p)), (6, .long (V p)), (8, .int (nI (p % 4))), (9, .int (nI ((p / 4) % 15))), (10, .int (nI ((p / 4) / 15))), (11, .int (nI e))]) S.1 S.2.1 dX1_goOn_160 hl (by decide) rfl (fun ls hl => ?_)
                          refine lv_iload S.1 S.2.1 dX1_goOn_162 (lv_at hl 0 rfl) ?_
                          refine n_zlt S (tgt := 209) (by omega) dX1_goOn_164 (by decide) ?_
                          refine lv_iload S.1 S.2.1 dX1_goOn_167 (lv_at hl 0 rfl) ?_
                          refine lv_aload_n S.1 S.2.1 dX1_goOn_169 rfl (lv_at hl 2 rfl) ?_
                          refine g_get (C := RX1) (T := TX1) (N := 2) (v := .ref a7) S 5 1 1 in_X1_goOn_X1 hK hP rfl rfl (by decide) w_X1_goOn_0 rfl dX1_goOn_170 ?_
                          refine g_alen S 7 1 hK hP rfl rfl dX1_goOn_173 ?_
                          refine n_cge S (tgt := 209) (by omega) dX1_goOn_174 (by decide) (fun c174 => ?_) (fun c174 => ?_)
                          · exact absurd c174 (by omega)
                          refine lv_aload_n S.1 S.2.1 dX1_goOn_177 rfl (lv_at hl 5 rfl) ?_
                          refine lv_lload S.1 S.2.1 dX1_goOn_178 (lv_at hl 8 rfl) ?_
                          refine lv_iload S.1 S.2.1 dX1_goOn_180 (lv_at hl 6 rfl) ?_
                          refine lv_iload S.1 S.2.1 dX1_goOn_182 (lv_at hl 12 rfl) ?_
                          refine rd_callUl (x := ⟨"CoverSheet$Measure", "longer", "(JII)J"⟩) (owner := "CoverSheet$Measure") (n := 3) (rest := []) S (r_X0_longer l D cT (c 8) (V p) d e ) gX1_goOn_X0_longer_u73X0 rfl (List.mem_of_getElem? (i := 19) rfl) (by decide +kernel) ⟨rfl, rfl, Nat.le_of_ble_eq_true rfl, Nat.le_of_ble_eq_true rfl⟩ (hP.sub (ws' := [(c 8, .inr (0, []))]) [8] rfl) hK (va_recv hK.1 hP (ci := 0) (q0 := 8) rfl rfl) hl rfl rfl (Nat.le_of_ble_eq_true rfl) ⟨Nat.zero_le _, Nat.zero_le _⟩ dX1_goOn_184 ?_
                          refine lv_lstore (lv' := [(14, .long (V p)), (13, .int (nI (nx p e))), (12, .int (nI 0)), (0, .ref (c 5)), (1, .ref (pa i)), (2, .ref (c 4)), (3, .ref (c 8)), (4, .int (nI d)), (5, .int (nI p)), (6, .long (V p)), (8, .int (nI (p % 4))), (9, .int (nI ((p / 4) % 15))), (10, .int (nI ((p / 4) / 15))), (11, .int (nI e))]) S.1 S.2.1 dX1_goOn_187 hl (by decide) rfl (fun ls hl => ?_)
                          refine lv_aload_n S.1 S.2.1 dX1_goOn_189 rfl (lv_at hl 3 rfl) ?_
                          refine g_get (C := RX1) (T := TX1) (N := 2) (v := .ref a7) S 5 1 1 in_X1_goOn_X1 hK hP rfl rfl (by decide) w_X1_goOn_0 rfl dX1_goOn_190 ?_
                          refine lv_iload S.1 S.2.1 dX1_goOn_193 (lv_at hl 1 rfl) ?_
                          refine lv_aload_n S.1 S.2.1 dX1_goOn_195 rfl (lv_at hl 6 rfl) ?_
                          refine lv_aload_n S.1 S.2.1 dX1_goOn_196 rfl (lv_at hl 3 rfl) ?_
                          refine g_get (C := RX1) (T := TX1) (N := 2) (v := .ref a7) S 5 1 1 in_X1_goOn_X1 hK hP rfl rfl (by decide) w_X1_goOn_0 rfl dX1_goOn_197 ?_
                          refine lv_iload S.1 S.2.1 dX1_goOn_200 (lv_at hl 1 rfl) ?_
                          refine g_lald S 7 hK hP rfl (by omega) dX1_goOn_202 ?_
                          refine lv_lload S.1 S.2.1 dX1_goOn_203 (lv_at hl 0 rfl) ?_
                          refine rd_callUl (x := ⟨"CoverSheet$Measure", "joined", "(JJ)J"⟩) (owner := "CoverSheet$Measure") (n := 2) (rest := [.int (nI (nx p e)), .ref a7]) S (r_X0_joined l D cT (c 8) (N2 (nx p e)) (V p) ) gX1_goOn_X0_joined_u56X0 rfl (List.mem_of_getElem? (i := 20) rfl) (by decide +kernel) ⟨rfl, rfl, Nat.le_of_ble_eq_true rfl, Nat.le_of_ble_eq_true rfl⟩ (hP.sub (ws' := [(c 8, .inr (0, []))]) [8] rfl) hK (va_recv hK.1 hP (ci := 0) (q0 := 8) rfl rfl) hl rfl rfl (Nat.le_of_ble_eq_true rfl) ⟨Nat.zero_le _, Nat.zero_le _⟩ dX1_goOn_205 ?_
                          refine w_last S 7 hK hP hD hS rfl (by omega) dX1_goOn_208 (fun H locs hP hD hS => ?_)
                          have hP : va_P D vwCl (cX cT c a6 a7 n ro cl fb rn nd V (vp_updL N2 (nx p e) ((N2 (nx p e)) + (V p))) PR pa ++ pool n pa (per sk mo wk fx wi la da we)) H := hP
                          have hD : va_D A (cX cT c a6 a7 n ro cl fb rn nd V (vp_updL N2 (nx p e) ((N2 (nx p e)) + (V p))) PR pa ++ pool n pa (per sk mo wk fx wi la da we)) := hD
                          refine lv_iinc (v := (nI (e + 1))) (lv' := [(11, .int (nI (e + 1))), (14, .long (V p)), (13, .int (nI (nx p e))), (12, .int (nI 0)), (0, .ref (c 5)), (1, .ref (pa i)), (2, .ref (c 4)), (3, .ref (c 8)), (4, .int (nI d)), (5, .int (nI p)), (6, .long (V p)), (8, .int (nI (p % 4))), (9, .int (nI ((p / 4) % 15))), (10, .int (nI ((p / 4) / 15)))]) S.1 S.2.1 dX1_goOn_209 hl (k := 13) rfl (nI_1 _) (by decide) rfl (fun ls hl => ?_)
                          refine lv_goto (tgt := 73) S.1 S.2.1 dX1_goOn_212 (by decide) ?_
                          exact ih73 (vp_updL N2 (nx p e) ((N2 (nx p e)) + (V p))) (e + 1) (by omega) (by rw [hN2]; exact (goE_y (okp_y (Or.inr c90) c113 c126)).symm) (by omega) _ _ hP hD hS ls (lv_sub hl [4, 5, 6, 7, 8, 9, 10, 11, 12, 13, 0] rfl)
                        · refine lv_iload S.1 S.2.1 dX1_goOn_137 (lv_at hl 10 rfl) ?_
                          refine lv_iconst (v := (nI 0)) S.1 S.2.1 dX1_goOn_139 (by decide) ?_
                          refine lv_iconst (v := (nI 0)) S.1 S.2.1 dX1_goOn_140 (by decide) ?_
                          refine rd_callS (rest := []) S (r_X1_placeOf l D cT ((p / 4) / 15) 0 0 ) gX1_goOn_X1_placeOf rfl pd_X1_placeOf ⟨rfl, rfl, Nat.le_of_ble_eq_true rfl, Nat.le_of_ble_eq_true rfl⟩ (sx_P0 D _) hK hl rfl rfl (Nat.le_of_ble_eq_true rfl) ⟨Nat.zero_le _, Nat.zero_le _⟩ dX1_goOn_141 ?_
                          refine lv_goto (tgt := 160) S.1 S.2.1 dX1_goOn_144 (by decide) ?_
                          have hnx : nx p e < 480 := nx_lt (mo := mo i) (by omega) (by omega) (Or.inr c90) (by omega) c126 hrn
                          refine n_top (nx_0 (p := p) (e := e) c134) ?_
                          refine lv_istore (lv' := [(13, .int (nI (nx p e))), (12, .int (nI 0)), (0, .ref (c 5)), (1, .ref (pa i)), (2, .ref (c 4)), (3, .ref (c 8)), (4, .int (nI d)), (5, .int (nI p)), (6, .long (V p)), (8, .int (nI (p % 4))), (9, .int (nI ((p / 4) % 15))), (10, .int (nI ((p / 4) / 15))), (11, .int (nI e))]) S.1 S.2.1 dX1_goOn_160 hl (by decide) rfl (fun ls hl => ?_)
                          refine lv_iload S.1 S.2.1 dX1_goOn_162 (lv_at hl 0 rfl) ?_
                          refine n_zlt S (tgt := 209) (by omega) dX1_goOn_164 (by decide) ?_
                          refine lv_iload S.1 S.2.1 dX1_goOn_167 (lv_at hl 0 rfl) ?_
                          refine lv_aload_n S.1 S.2.1 dX1_goOn_169 rfl (lv_at hl 2 rfl) ?_
                          refine g_get (C := RX1) (T := TX1) (N := 2) (v := .ref a7) S 5 1 1 in_X1_goOn_X1 hK hP rfl rfl (by decide) w_X1_goOn_0 rfl dX1_goOn_170 ?_
                          refine g_alen S 7 1 hK hP rfl rfl dX1_goOn_173 ?_
                          refine n_cge S (tgt := 209) (by omega) dX1_goOn_174 (by decide) (fun c174 => ?_) (fun c174 => ?_)
                          · exact absurd c174 (by omega)
                          refine lv_aload_n S.1 S.2.1 dX1_goOn_177 rfl (lv_at hl 5 rfl) ?_
                          refine lv_lload S.1 S.2.1 dX1_goOn_178 (lv_at hl 8 rfl) ?_
                          refine lv_iload S.1 S.2.1 dX1_goOn_180 (lv_at hl 6 rfl) ?_
                          refine lv_iload S.1 S.2.1 dX1_goOn_182 (lv_at hl 12 rfl) ?_
                          refine rd_callUl (x := ⟨"CoverSheet$Measure", "longer", "(JII)J"⟩) (owner := "CoverSheet$Measure") (n := 3) (rest := []) S (r_X0_longer l D cT (c 8) (V p) d e ) gX1_goOn_X0_longer_u73X0 rfl (List.mem_of_getElem? (i := 19) rfl) (by decide +kernel) ⟨rfl, rfl, Nat.le_of_ble_eq_true rfl, Nat.le_of_ble_eq_true rfl⟩ (hP.sub (ws' := [(c 8, .inr (0, []))]) [8] rfl) hK (va_recv hK.1 hP (ci := 0) (q0 := 8) rfl rfl) hl rfl rfl (Nat.le_of_ble_eq_true rfl) ⟨Nat.zero_le _, Nat.zero_le _⟩ dX1_goOn_184 ?_
                          refine lv_lstore (lv' := [(14, .long (V p)), (13, .int (nI (nx p e))), (12, .int (nI 0)), (0, .ref (c 5)), (1, .ref (pa i)), (2, .ref (c 4)), (3, .ref (c 8)), (4, .int (nI d)), (5, .int (nI p)), (6, .long (V p)), (8, .int (nI (p % 4))), (9, .int (nI ((p / 4) % 15))), (10, .int (nI ((p / 4) / 15))), (11, .int (nI e))]) S.1 S.2.1 dX1_goOn_187 hl (by decide) rfl (fun ls hl => ?_)
                          refine lv_aload_n S.1 S.2.1 dX1_goOn_189 rfl (lv_at hl 3 rfl) ?_
                          refine g_get (C := RX1) (T := TX1) (N := 2) (v := .ref a7) S 5 1 1 in_X1_goOn_X1 hK hP rfl rfl (by decide) w_X1_goOn_0 rfl dX1_goOn_190 ?_
                          refine lv_iload S.1 S.2.1 dX1_goOn_193 (lv_at hl 1 rfl) ?_
                          refine lv_aload_n S.1 S.2.1 dX1_goOn_195 rfl (lv_at hl 6 rfl) ?_
                          refine lv_aload_n S.1 S.2.1 dX1_goOn_196 rfl (lv_at hl 3 rfl) ?_
                          refine g_get (C := RX1) (T := TX1) (N := 2) (v := .ref a7) S 5 1 1 in_X1_goOn_X1 hK hP rfl rfl (by decide) w_X1_goOn_0 rfl dX1_goOn_197 ?_
                          refine lv_iload S.1 S.2.1 dX1_goOn_200 (lv_at hl 1 rfl) ?_
                          refine g_lald S 7 hK hP rfl (by omega) dX1_goOn_202 ?_
                          refine lv_lload S.1 S.2.1 dX1_goOn_203 (lv_at hl 0 rfl) ?_
                          refine rd_callUl (x := ⟨"CoverSheet$Measure", "joined", "(JJ)J"⟩) (owner := "CoverSheet$Measure") (n := 2) (rest := [.int (nI (nx p e)), .ref a7]) S (r_X0_joined l D cT (c 8) (N2 (nx p e)) (V p) ) gX1_goOn_X0_joined_u56X0 rfl (List.mem_of_getElem? (i := 20) rfl) (by decide +kernel) ⟨rfl, rfl, Nat.le_of_ble_eq_true rfl, Nat.le_of_ble_eq_true rfl⟩ (hP.sub (ws' := [(c 8, .inr (0, []))]) [8] rfl) hK (va_recv hK.1 hP (ci := 0) (q0 := 8) rfl rfl) hl rfl rfl (Nat.le_of_ble_eq_true rfl) ⟨Nat.zero_le _, Nat.zero_le _⟩ dX1_goOn_205 ?_
                          refine w_last S 7 hK hP hD hS rfl (by omega) dX1_goOn_208 (fun H locs hP hD hS => ?_)
                          have hP : va_P D vwCl (cX cT c a6 a7 n ro cl fb rn nd V (vp_updL N2 (nx p e) ((N2 (nx p e)) + (V p))) PR pa ++ pool n pa (per sk mo wk fx wi la da we)) H := hP
                          have hD : va_D A (cX cT c a6 a7 n ro cl fb rn nd V (vp_updL N2 (nx p e) ((N2 (nx p e)) + (V p))) PR pa ++ pool n pa (per sk mo wk fx wi la da we)) := hD
                          refine lv_iinc (v := (nI (e + 1))) (lv' := [(11, .int (nI (e + 1))), (14, .long (V p)), (13, .int (nI (nx p e))), (12, .int (nI 0)), (0, .ref (c 5)), (1, .ref (pa i)), (2, .ref (c 4)), (3, .ref (c 8)), (4, .int (nI d)), (5, .int (nI p)), (6, .long (V p)), (8, .int (nI (p % 4))), (9, .int (nI ((p / 4) % 15))), (10, .int (nI ((p / 4) / 15)))]) S.1 S.2.1 dX1_goOn_209 hl (k := 13) rfl (nI_1 _) (by decide) rfl (fun ls hl => ?_)
                          refine lv_goto (tgt := 73) S.1 S.2.1 dX1_goOn_212 (by decide) ?_
                          exact ih73 (vp_updL N2 (nx p e) ((N2 (nx p e)) + (V p))) (e + 1) (by omega) (by rw [hN2]; exact (goE_y (okp_y (Or.inr c90) c113 c126)).symm) (by omega) _ _ hP hD hS ls (lv_sub hl [4, 5, 6, 7, 8, 9, 10, 11, 12, 13, 0] rfl)
                      · refine lv_goto (tgt := 209) S.1 S.2.1 dX1_goOn_129 (by decide) ?_
                        refine lv_iinc (v := (nI (e + 1))) (lv' := [(11, .int (nI (e + 1))), (12, .int (nI 0)), (0, .ref (c 5)), (1, .ref (pa i)), (2, .ref (c 4)), (3, .ref (c 8)), (4, .int (nI d)), (5, .int (nI p)), (6, .long (V p)), (8, .int (nI (p % 4))), (9, .int (nI ((p / 4) % 15))), (10, .int (nI ((p / 4) / 15)))]) S.1 S.2.1 dX1_goOn_209 hl (k := 11) rfl (nI_1 _) (by decide) rfl (fun ls hl => ?_)
                        refine lv_goto (tgt := 73) S.1 S.2.1 dX1_goOn_212 (by decide) ?_
                        exact ih73 N2 (e + 1) (by omega) (by rw [hN2]; exact (goE_n (okp_n3 c126)).symm) (by omega) _ _ hP hD hS ls (lv_sub hl [2, 3, 4, 5, 6, 7, 8, 9, 10, 11, 0] rfl)
                  · refine lv_iconst (v := (nI 1)) S.1 S.2.1 dX1_goOn_93 (by decide) ?_
                    refine lv_goto (tgt := 98) S.1 S.2.1 dX1_goOn_94 (by decide) ?_
                    refine lv_istore (lv' := [(12, .int (nI 1)), (0, .ref (c 5)), (1, .ref (pa i)), (2, .ref (c 4)), (3, .ref (c 8)), (4, .int (nI d)), (5, .int (nI p)), (6, .long (V p)), (8, .int (nI (p % 4))), (9, .int (nI ((p / 4) % 15))), (10, .int (nI ((p / 4) / 15))), (11, .int (nI e))]) S.1 S.2.1 dX1_goOn_98 hl (by decide) rfl (fun ls hl => ?_)
                    refine lv_iload S.1 S.2.1 dX1_goOn_100 (lv_at hl 0 rfl) ?_
                    refine n_zne S (tgt := 209) (by decide) dX1_goOn_102 (by decide) (fun _ => ?_) (fun q => absurd q (by decide))
                    refine lv_iinc (v := (nI (e + 1))) (lv' := [(11, .int (nI (e + 1))), (12, .int (nI 1)), (0, .ref (c 5)), (1, .ref (pa i)), (2, .ref (c 4)), (3, .ref (c 8)), (4, .int (nI d)), (5, .int (nI p)), (6, .long (V p)), (8, .int (nI (p % 4))), (9, .int (nI ((p / 4) % 15))), (10, .int (nI ((p / 4) / 15)))]) S.1 S.2.1 dX1_goOn_209 hl (k := 11) rfl (nI_1 _) (by decide) rfl (fun ls hl => ?_)
                    refine lv_goto (tgt := 73) S.1 S.2.1 dX1_goOn_212 (by decide) ?_
                    exact ih73 N2 (e + 1) (by omega) (by rw [hN2]; exact (goE_n (okp_n1 c81 c90)).symm) (by omega) _ _ hP hD hS ls (lv_sub hl [2, 3, 4, 5, 6, 7, 8, 9, 10, 11, 0] rfl)
          exact lp73 _ N1 0 (Nat.zero_le _) (rfl) (Nat.lt_succ_self _) _ _ hP hD hS ls (lv_sub hl [5, 6, 7, 8, 9, 10, 4, 3, 2, 1, 0] rfl)
        · refine lv_goto (tgt := 215) S.1 S.2.1 dX1_goOn_43 (by decide) ?_
          refine lv_iinc (v := (nI (p + 1))) (lv' := [(5, .int (nI (p + 1))), (6, .long (V p)), (0, .ref (c 5)), (1, .ref (pa i)), (2, .ref (c 4)), (3, .ref (c 8)), (4, .int (nI d))]) S.1 S.2.1 dX1_goOn_215 hl (k := 6) rfl (nI_1 _) (by decide) rfl (fun ls hl => ?_)
          refine lv_goto (tgt := 14) S.1 S.2.1 dX1_goOn_218 (by decide) ?_
          exact ih14 N1 (p + 1) (by omega) (by rw [hN1]; exact (goP_n c40).symm) (by omega) _ _ hP hD hS ls (lv_sub hl [2, 3, 4, 5, 6, 0] rfl)
  exact lp14 _ (fun _ => 0) 0 (Nat.zero_le _) (rfl) (Nat.lt_succ_self _) _ _ hP hD hS ls (lv_sub hl [1, 2, 3, 4, 5, 0] rfl)

