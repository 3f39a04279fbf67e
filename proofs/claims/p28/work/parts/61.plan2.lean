theorem pd_X8_plan : yX8_plan.cls = RX8 ∧ yX8_plan.cls ≠ "java/lang/invoke/MethodHandle" ∧ yX8_plan.cls ≠ "java/lang/invoke/VarHandle" ∧ (parseMethodDescriptor yX8_plan.desc).map (fun d => d.parameters.length) = some 0 := by decide +kernel
theorem w_X8_plan_0 : Cond.fieldLink RX8 11 "CoverSheet" "team" "[LCoverSheet$Person;" ∈ wsX8_plan := by decide +kernel
theorem w_X8_plan_1 : Cond.fieldLink RX8 135 "CoverSheet" "lastRounds" "I" ∈ wsX8_plan := by decide +kernel
theorem in_X8_plan_X4 : ∀ w ∈ u_ws RX4 TX4 8, w ∈ wsX8_plan := by decide +kernel
theorem in_X8_plan_X8 : ∀ w ∈ u_ws RX8 TX8 9, w ∈ wsX8_plan := by decide +kernel
set_option maxHeartbeats 4000000 in
set_option maxRecDepth 100000 in
theorem w_X8_plan (l : Launch) (D : va_G) (cT : ClassId × ClassId × ClassId) (sz : Nat) (c pa : Nat → Nat) (bd a6 a7 n ro cl fb rn : Nat) (nd sk mo wk fx wi la da we : Nat → Nat) (V V2 PR : Nat → Int64) (hwf : wfC n bd fb rn nd sk mo wk fx wi la da we) (hinj : inj n pa) (hwz : ∀ k, n ≤ k → wk k = 0) : Met l yX8_plan wsX8_plan ({ frames := 6, cells := 0, slots := 0, locals := 163 } : Room) (va_Pc [.ref (c 0)] (wr_R D (TY cT) (cX cT c a6 a7 n ro cl fb rn nd V V2 PR pa ++ pool n pa (per sk mo wk fx wi la da we)) sz)) (wQi (fun (r_ : Int32) (u_ : Nat × Nat × Nat × (Nat → Int64) × (Nat → Int64) × (Nat → Int64)) => PRd (cho n fb rn nd sk mo fx wi la da we) n (fun _ => 0) u_.1 ∧ r_ = nI (gpd n nd ((pls (cho n fb rn nd sk mo fx wi la da we) n (fun _ => 0) u_.1).1) 7)) D (fun (u_ : Nat × Nat × Nat × (Nat → Int64) × (Nat → Int64) × (Nat → Int64)) => cX cT c u_.2.1 u_.2.2.1 n u_.1 cl fb rn nd u_.2.2.2.1 u_.2.2.2.2.1 u_.2.2.2.2.2 pa ++ pool n pa (per sk mo ((pls (cho n fb rn nd sk mo fx wi la da we) n (fun _ => 0) u_.1).1) fx wi la da we)) (va_A (cX cT c a6 a7 n ro cl fb rn nd V V2 PR pa ++ pool n pa (per sk mo wk fx wi la da we)) sz)) 0 0 (va_A (cX cT c a6 a7 n ro cl fb rn nd V V2 PR pa ++ pool n pa (per sk mo wk fx wi la da we)) sz) := by
  refine wr_start (cc := cX8_plan) (maxL := 5) (ret := (some .int)) RX8 ⟨by decide +kernel, rfl⟩ rfl (Nat.le_of_ble_eq_true rfl) ?_
  intro p0 e0 s0 m0 a0 b0 t0 c0 S hr hlocks hin hP hK hA hD hS ls hl
  generalize va_A (cX cT c a6 a7 n ro cl fb rn nd V V2 PR pa ++ pool n pa (per sk mo wk fx wi la da we)) sz = A at hA hD hS ⊢
  have hl : lv_has ls 5 [(0, .ref (c 0))] := hl
  obtain ⟨hn, hcl, hfb, hrn, hnd, hper⟩ := id hwf
  refine lv_aload_n S.1 S.2.1 dX8_plan_0 rfl (lv_at hl 0 rfl) ?_
  refine g_get (C := RX8) (T := TX8) (N := 9) (v := .ref (c 1)) S 0 6 0 in_X8_plan_X8 hK hP rfl rfl (by decide) w_X8_plan_0 rfl dX8_plan_1 ?_
  refine lv_astore_n (lv' := [(1, .ref (c 1)), (0, .ref (c 0))]) S.1 S.2.1 dX8_plan_4 rfl hl (by decide) rfl (fun ls hl => ?_)
  refine lv_aload_n S.1 S.2.1 dX8_plan_5 rfl (lv_at hl 0 rfl) ?_
  refine g_alen S 1 2 hK hP rfl rfl dX8_plan_6 ?_
  refine lv_istore_n (lv' := [(2, .int (nI 8)), (1, .ref (c 1)), (0, .ref (c 0))]) S.1 S.2.1 dX8_plan_7 rfl hl (by decide) rfl (fun ls hl => ?_)
  refine lv_iconst (v := (nI 0)) S.1 S.2.1 dX8_plan_8 (by decide) ?_
  refine lv_istore_n (lv' := [(3, .int (nI 0)), (2, .int (nI 8)), (1, .ref (c 1)), (0, .ref (c 0))]) S.1 S.2.1 dX8_plan_9 rfl hl (by decide) rfl (fun ls hl => ?_)
  have lp10 : ∀ (fu : Nat) (i : Nat), (i ≤ 8) → (8 - i) < fu → ∀ (H : Heap) (locs : List Loc), va_P D vwCl (cX cT c a6 a7 n ro cl fb rn nd V V2 PR pa ++ pool n pa (per sk mo (upn wk (fun _ => 0) (min i n)) fx wi la da we)) H → va_D A (cX cT c a6 a7 n ro cl fb rn nd V V2 PR pa ++ pool n pa (per sk mo (upn wk (fun _ => 0) (min i n)) fx wi la da we)) → va_S A s0.heap H locs → ∀ ls : Array Slot, lv_has ls 5 [(0, .ref (c 0)), (1, .ref (c 1)), (2, .int (nI 8)), (3, .int (nI i))] → W p0 l e0 ({ frames := 6, cells := 0, slots := 0, locals := 163 } : Room) s0 m0 a0 b0 t0 c0 H locs 0 0 (MQ b0 (wQi (fun (r_ : Int32) (u_ : Nat × Nat × Nat × (Nat → Int64) × (Nat → Int64) × (Nat → Int64)) => PRd (cho n fb rn nd sk mo fx wi la da we) n (fun _ => 0) u_.1 ∧ r_ = nI (gpd n nd ((pls (cho n fb rn nd sk mo fx wi la da we) n (fun _ => 0) u_.1).1) 7)) D (fun (u_ : Nat × Nat × Nat × (Nat → Int64) × (Nat → Int64) × (Nat → Int64)) => cX cT c u_.2.1 u_.2.2.1 n u_.1 cl fb rn nd u_.2.2.2.1 u_.2.2.2.2.1 u_.2.2.2.2.2 pa ++ pool n pa (per sk mo ((pls (cho n fb rn nd sk mo fx wi la da we) n (fun _ => 0) u_.1).1) fx wi la da we)) A) a0 s0 0 0 A) (F0 m0 10 ls []) := by
    intro fu
    induction fu with
    | zero =>
      intro i h2 hm
      exact absurd hm (Nat.not_lt_zero _)
    | succ fu ih10 =>
      intro i h2 hm H locs hP hD hS ls hl
      have hwfi : wfC n bd fb rn nd sk mo (upn wk (fun _ => 0) (min i n)) fx wi la da we := wf_fun hwf (upn_all (P := fun z => z < 16384) (fun k => (hper k).2.2.1) (fun _ => by decide))
      refine lv_iload_n S.1 S.2.1 dX8_plan_10 rfl (lv_at hl 3 rfl) ?_
      refine lv_iload_n S.1 S.2.1 dX8_plan_11 rfl (lv_at hl 2 rfl) ?_
      refine n_cge S (tgt := 37) (by omega) dX8_plan_12 (by decide) (fun c12 => ?_) (fun c12 => ?_)
      · have ez : upn wk (fun _ => 0) n = fun _ => 0 := off_n hwz
        rw [show min i n = n by omega, ez] at hP hD
        refine lv_iconst (v := (nI 1)) S.1 S.2.1 dX8_plan_37 (by decide) ?_
        refine lv_istore_n (lv' := [(1, .int (nI 1)), (0, .ref (c 0)), (2, .int (nI 8)), (3, .int (nI i))]) S.1 S.2.1 dX8_plan_38 rfl hl (by decide) rfl (fun ls hl => ?_)
        refine lv_iconst (v := (nI 1)) S.1 S.2.1 dX8_plan_39 (by decide) ?_
        refine lv_istore_n (lv' := [(2, .int (nI 1)), (1, .int (nI 1)), (0, .ref (c 0)), (3, .int (nI i))]) S.1 S.2.1 dX8_plan_40 rfl hl (by decide) rfl (fun ls hl => ?_)
        have lp41 : ∀ (fu : Nat) (x6 : Nat) (x7 : Nat) (V1 : Nat → Int64) (W1 : Nat → Int64) (P1 : Nat → Int64) (b : Bool) (r : Nat) (rx : Nat), (r ≤ 10) → (b = (pls (cho n fb rn nd sk mo fx wi la da we) n (fun _ => 0) r).2) → (∀ k, k < r → (pls (cho n fb rn nd sk mo fx wi la da we) n (fun _ => 0) k).2 = true) → (r = 0 ∨ rx = r) → (10 - r) < fu → ∀ (H : Heap) (locs : List Loc), va_P D vwCl (cX cT c x6 x7 n rx cl fb rn nd V1 W1 P1 pa ++ pool n pa (per sk mo ((pls (cho n fb rn nd sk mo fx wi la da we) n (fun _ => 0) r).1) fx wi la da we)) H → va_D A (cX cT c x6 x7 n rx cl fb rn nd V1 W1 P1 pa ++ pool n pa (per sk mo ((pls (cho n fb rn nd sk mo fx wi la da we) n (fun _ => 0) r).1) fx wi la da we)) → va_S A s0.heap H locs → ∀ ls : Array Slot, lv_has ls 5 [(0, .ref (c 0)), (1, .int (nI b.toNat)), (2, .int (nI (r + 1)))] → W p0 l e0 ({ frames := 6, cells := 0, slots := 0, locals := 163 } : Room) s0 m0 a0 b0 t0 c0 H locs 0 0 (MQ b0 (wQi (fun (r_ : Int32) (u_ : Nat × Nat × Nat × (Nat → Int64) × (Nat → Int64) × (Nat → Int64)) => PRd (cho n fb rn nd sk mo fx wi la da we) n (fun _ => 0) u_.1 ∧ r_ = nI (gpd n nd ((pls (cho n fb rn nd sk mo fx wi la da we) n (fun _ => 0) u_.1).1) 7)) D (fun (u_ : Nat × Nat × Nat × (Nat → Int64) × (Nat → Int64) × (Nat → Int64)) => cX cT c u_.2.1 u_.2.2.1 n u_.1 cl fb rn nd u_.2.2.2.1 u_.2.2.2.2.1 u_.2.2.2.2.2 pa ++ pool n pa (per sk mo ((pls (cho n fb rn nd sk mo fx wi la da we) n (fun _ => 0) u_.1).1) fx wi la da we)) A) a0 s0 0 0 A) (F0 m0 41 ls []) := by
          intro fu
          induction fu with
          | zero =>
            intro x6 x7 V1 W1 P1 b r rx hr10 hb hall hrx hm
            exact absurd hm (Nat.not_lt_zero _)
          | succ fu ih41 =>
            intro x6 x7 V1 W1 P1 b r rx hr10 hb hall hrx hm H locs hP hD hS ls hl
            have hwfr : wfC n bd fb rn nd sk mo ((pls (cho n fb rn nd sk mo fx wi la da we) n (fun _ => 0) r).1) fx wi la da we := wf_fun hwf (pls_lt (fun w p => cho_lt _ _ _ _ _ _ _ _ _ _ _ w p) (fun _ => by decide) r)
            refine lv_iload_n S.1 S.2.1 dX8_plan_41 rfl (lv_at hl 1 rfl) ?_
            refine n_beq S (tgt := 67) dX8_plan_42 (by decide) (fun c42 => ?_) (fun c42 => ?_)
            · have hrxr : rx = r := hrx.resolve_left (fun q => by rw [q, c42] at hb; exact Bool.false_ne_true hb)
              refine lv_aload_n S.1 S.2.1 dX8_plan_67 rfl (lv_at hl 0 rfl) ?_
              refine rd_callV (rest := []) S (r_X8_allGaps l D cT c pa bd x6 x7 n rx cl fb rn nd sk mo ((pls (cho n fb rn nd sk mo fx wi la da we) n (fun _ => 0) r).1) fx wi la da we V1 W1 P1 (hwfr)) gX8_plan_X8_allGaps rfl pd_X8_allGaps ⟨rfl, rfl, Nat.le_of_ble_eq_true rfl, Nat.le_of_ble_eq_true rfl⟩ hP hK (va_recv hK.1 hP (ci := 6) (q0 := 0) rfl rfl) hl rfl rfl (Nat.le_of_ble_eq_true rfl) ⟨Nat.zero_le _, Nat.zero_le _⟩ dX8_plan_68 ?_
              exact wr_iret S ((r, x6, x7, V1, W1, P1)) hr rfl hlocks (⟨⟨hall, Or.inl (by rw [← hb, c42]), hr10⟩, rfl⟩) (by rw [hrxr] at hP; exact hP) (by rw [hrxr] at hD; exact hD) hS dX8_plan_71
            · refine lv_iload_n S.1 S.2.1 dX8_plan_45 rfl (lv_at hl 2 rfl) ?_
              refine lv_bipush (v := (nI 10)) S.1 S.2.1 dX8_plan_46 (by decide) ?_
              refine n_cgt S (tgt := 67) (by omega) dX8_plan_48 (by decide) (fun c48 => ?_) (fun c48 => ?_)
              · have hrxr : rx = r := hrx.resolve_left (fun q => by omega)
                refine lv_aload_n S.1 S.2.1 dX8_plan_67 rfl (lv_at hl 0 rfl) ?_
                refine rd_callV (rest := []) S (r_X8_allGaps l D cT c pa bd x6 x7 n rx cl fb rn nd sk mo ((pls (cho n fb rn nd sk mo fx wi la da we) n (fun _ => 0) r).1) fx wi la da we V1 W1 P1 (hwfr)) gX8_plan_X8_allGaps rfl pd_X8_allGaps ⟨rfl, rfl, Nat.le_of_ble_eq_true rfl, Nat.le_of_ble_eq_true rfl⟩ hP hK (va_recv hK.1 hP (ci := 6) (q0 := 0) rfl rfl) hl rfl rfl (Nat.le_of_ble_eq_true rfl) ⟨Nat.zero_le _, Nat.zero_le _⟩ dX8_plan_68 ?_
                exact wr_iret S ((r, x6, x7, V1, W1, P1)) hr rfl hlocks (⟨⟨hall, Or.inr (by omega), hr10⟩, rfl⟩) (by rw [hrxr] at hP; exact hP) (by rw [hrxr] at hD; exact hD) hS dX8_plan_71
              · refine lv_aload_n S.1 S.2.1 dX8_plan_51 rfl (lv_at hl 0 rfl) ?_
                refine wr_callVi (rest := []) S (w_X8_planRound l D cT _ c pa bd x6 x7 n rx cl fb rn nd sk mo ((pls (cho n fb rn nd sk mo fx wi la da we) n (fun _ => 0) r).1) fx wi la da we V1 W1 P1 (hwfr) (hinj)) gX8_plan_X8_planRound rfl pd_X8_planRound ⟨rfl, rfl, Nat.le_of_ble_eq_true rfl, Nat.le_of_ble_eq_true rfl⟩ hP hK hD hS hA (va_recv hK.1 hP (ci := 6) (q0 := 0) rfl rfl) hl rfl rfl (Nat.le_of_ble_eq_true rfl) ⟨Nat.zero_le _, Nat.zero_le _⟩ dX8_plan_52 (fun r_ u_ H locs hr_ hP hD hS => ?_)
                rw [show r_ = nI ((rst (cho n fb rn nd sk mo fx wi la da we) ((pls (cho n fb rn nd sk mo fx wi la da we) n (fun _ => 0) r).1) n).2).toNat from hr_]
                have hP : va_P D vwCl (cX cT c u_.1 u_.2.1 n rx cl fb rn nd u_.2.2.1 u_.2.2.2.1 u_.2.2.2.2 pa ++ pool n pa (per sk mo ((rst (cho n fb rn nd sk mo fx wi la da we) ((pls (cho n fb rn nd sk mo fx wi la da we) n (fun _ => 0) r).1) n).1) fx wi la da we)) H := hP
                have hD : va_D A (cX cT c u_.1 u_.2.1 n rx cl fb rn nd u_.2.2.1 u_.2.2.2.1 u_.2.2.2.2 pa ++ pool n pa (per sk mo ((rst (cho n fb rn nd sk mo fx wi la da we) ((pls (cho n fb rn nd sk mo fx wi la da we) n (fun _ => 0) r).1) n).1) fx wi la da we)) := hD
                refine lv_istore_n (lv' := [(1, .int (nI ((rst (cho n fb rn nd sk mo fx wi la da we) ((pls (cho n fb rn nd sk mo fx wi la da we) n (fun _ => 0) r).1) n).2).toNat)), (0, .ref (c 0)), (2, .int (nI (r + 1)))]) S.1 S.2.1 dX8_plan_55 rfl hl (by decide) rfl (fun ls hl => ?_)
                refine lv_aload_n S.1 S.2.1 dX8_plan_56 rfl (lv_at hl 1 rfl) ?_
                refine lv_iload_n S.1 S.2.1 dX8_plan_57 rfl (lv_at hl 2 rfl) ?_
                refine w_put (C := RX8) (T := TX8) (N := 9) (v := .int (nI (r + 1))) (ty := .int) S 0 6 7 in_X8_plan_X8 tyX8 tyX8_ok nmX8 hK hP hD hS rfl rfl (by decide) w_X8_plan_1 rfl (by decide +kernel) rfl rfl (Nat.le_of_ble_eq_true rfl) dX8_plan_58 (fun H locs hP hD hS => ?_)
                have hP : va_P D vwCl (cX cT c u_.1 u_.2.1 n (r + 1) cl fb rn nd u_.2.2.1 u_.2.2.2.1 u_.2.2.2.2 pa ++ pool n pa (per sk mo ((rst (cho n fb rn nd sk mo fx wi la da we) ((pls (cho n fb rn nd sk mo fx wi la da we) n (fun _ => 0) r).1) n).1) fx wi la da we)) H := hP
                have hD : va_D A (cX cT c u_.1 u_.2.1 n (r + 1) cl fb rn nd u_.2.2.1 u_.2.2.2.1 u_.2.2.2.2 pa ++ pool n pa (per sk mo ((rst (cho n fb rn nd sk mo fx wi la da we) ((pls (cho n fb rn nd sk mo fx wi la da we) n (fun _ => 0) r).1) n).1) fx wi la da we)) := hD
                refine lv_iinc (v := (nI (r + 1 + 1))) (lv' := [(2, .int (nI (r + 1 + 1))), (1, .int (nI ((rst (cho n fb rn nd sk mo fx wi la da we) ((pls (cho n fb rn nd sk mo fx wi la da we) n (fun _ => 0) r).1) n).2).toNat)), (0, .ref (c 0))]) S.1 S.2.1 dX8_plan_61 hl (k := 2) rfl (nI_1 _) (by decide) rfl (fun ls hl => ?_)
                refine lv_goto (tgt := 41) S.1 S.2.1 dX8_plan_64 (by decide) ?_
                exact ih41 u_.1 u_.2.1 u_.2.2.1 u_.2.2.2.1 u_.2.2.2.2 ((rst (cho n fb rn nd sk mo fx wi la da we) ((pls (cho n fb rn nd sk mo fx wi la da we) n (fun _ => 0) r).1) n).2) (r + 1) (r + 1) (by omega) (rfl) (fun k hk => by rcases Nat.lt_or_eq_of_le (Nat.le_of_lt_succ hk) with q | q; exact hall k q; rw [q, ← hb, c42]) (Or.inr rfl) (by omega) _ _ hP hD hS ls (lv_sub hl [2, 1, 0] rfl)
        exact lp41 _ a6 a7 V V2 PR true 0 ro (Nat.zero_le _) (rfl) (fun k h => absurd h (Nat.not_lt_zero k)) (Or.inl rfl) (Nat.lt_succ_self _) _ _ hP hD hS ls (lv_sub hl [2, 1, 0] rfl)
      · refine lv_aload_n S.1 S.2.1 dX8_plan_15 rfl (lv_at hl 1 rfl) ?_
        refine lv_iload_n S.1 S.2.1 dX8_plan_16 rfl (lv_at hl 3 rfl) ?_
        refine g_aald S 1 hK hP rfl (by omega) dX8_plan_17 ?_
        by_cases hb : i < n
        · refine n_topv (show va_rf (tm n pa i) = .ref (pa i) by rw [tm_in hb]; rfl) ?_
          have hpi := hper i
          have em : min i n = i := by omega
          rw [em] at hP hD hwfi
          refine lv_astore (lv' := [(4, .ref (pa i)), (0, .ref (c 0)), (1, .ref (c 1)), (2, .int (nI 8)), (3, .int (nI i))]) S.1 S.2.1 dX8_plan_18 hl (by decide) rfl (fun ls hl => ?_)
          refine lv_aload S.1 S.2.1 dX8_plan_20 (lv_at hl 0 rfl) ?_
          refine lv_ifnull S.1 S.2.1 dX8_plan_22 ?_
          refine lv_aload S.1 S.2.1 dX8_plan_25 (lv_at hl 0 rfl) ?_
          refine lv_iconst (v := (nI 0)) S.1 S.2.1 dX8_plan_27 (by decide) ?_
          refine w_putN (C := RX4) (T := TX4) (N := 8) (v := .int (nI 0)) (ty := .int) S _ 3 2 in_X8_plan_X4 tyX4 tyX4_ok nmX4 hK hP hD hS (pool_at (by omega)) rfl (by decide) (List.mem_of_getElem? (i := 11) rfl) rfl (by decide +kernel) rfl rfl (Nat.le_of_ble_eq_true rfl) dX8_plan_28 (fun H locs hP hD hS => ?_)
          have hP : va_P D vwCl (cX cT c a6 a7 n ro cl fb rn nd V V2 PR pa ++ pool n pa (per sk mo (va_up (upn wk (fun _ => 0) i) i 0) fx wi la da we)) H := by rw [← per_set_wk (i := i) (by omega)]; exact hP
          have hD : va_D A (cX cT c a6 a7 n ro cl fb rn nd V V2 PR pa ++ pool n pa (per sk mo (va_up (upn wk (fun _ => 0) i) i 0) fx wi la da we)) := by rw [← per_set_wk (i := i) (by omega)]; exact hD
          have hP : va_P D vwCl (cX cT c a6 a7 n ro cl fb rn nd V V2 PR pa ++ pool n pa (per sk mo (upn wk (fun _ => 0) (min (i + 1) n)) fx wi la da we)) H := by rw [show min (i + 1) n = i + 1 by omega, ← upn_s (m := i)]; exact hP
          have hD : va_D A (cX cT c a6 a7 n ro cl fb rn nd V V2 PR pa ++ pool n pa (per sk mo (upn wk (fun _ => 0) (min (i + 1) n)) fx wi la da we)) := by rw [show min (i + 1) n = i + 1 by omega, ← upn_s (m := i)]; exact hD
          refine lv_iinc (v := (nI (i + 1))) (lv' := [(3, .int (nI (i + 1))), (4, .ref (pa i)), (0, .ref (c 0)), (1, .ref (c 1)), (2, .int (nI 8))]) S.1 S.2.1 dX8_plan_31 hl (k := 4) rfl (nI_1 _) (by decide) rfl (fun ls hl => ?_)
          refine lv_goto (tgt := 10) S.1 S.2.1 dX8_plan_34 (by decide) ?_
          exact ih10 (i + 1) (by omega) (by omega) _ _ hP hD hS ls (lv_sub hl [2, 3, 4, 0] rfl)
        · refine n_topv (show va_rf (tm n pa i) = .null by rw [tm_out (Nat.le_of_not_lt hb)]; rfl) ?_
          refine lv_astoreN (lv' := [(4, .null), (0, .ref (c 0)), (1, .ref (c 1)), (2, .int (nI 8)), (3, .int (nI i))]) S.1 S.2.1 dX8_plan_18 hl (by decide) rfl (fun ls hl => ?_)
          refine lv_aloadN S.1 S.2.1 dX8_plan_20 (lv_at hl 0 rfl) ?_
          refine lv_ifnullN (tgt := 31) S.1 S.2.1 dX8_plan_22 (by decide) ?_
          have hP : va_P D vwCl (cX cT c a6 a7 n ro cl fb rn nd V V2 PR pa ++ pool n pa (per sk mo (upn wk (fun _ => 0) (min (i + 1) n)) fx wi la da we)) H := by rw [show min (i + 1) n = min i n by omega]; exact hP
          have hD : va_D A (cX cT c a6 a7 n ro cl fb rn nd V V2 PR pa ++ pool n pa (per sk mo (upn wk (fun _ => 0) (min (i + 1) n)) fx wi la da we)) := by rw [show min (i + 1) n = min i n by omega]; exact hD
          refine lv_iinc (v := (nI (i + 1))) (lv' := [(3, .int (nI (i + 1))), (4, .null), (0, .ref (c 0)), (1, .ref (c 1)), (2, .int (nI 8))]) S.1 S.2.1 dX8_plan_31 hl (k := 4) rfl (nI_1 _) (by decide) rfl (fun ls hl => ?_)
          refine lv_goto (tgt := 10) S.1 S.2.1 dX8_plan_34 (by decide) ?_
          exact ih10 (i + 1) (by omega) (by omega) _ _ hP hD hS ls (lv_sub hl [2, 3, 4, 0] rfl)
  exact lp10 _ 0 (Nat.zero_le _) (Nat.lt_succ_self _) _ _ hP hD hS ls (lv_sub hl [3, 2, 1, 0] rfl)

theorem pd_X8_closeWeek : yX8_closeWeek.cls = RX8 ∧ yX8_closeWeek.cls ≠ "java/lang/invoke/MethodHandle" ∧ yX8_closeWeek.cls ≠ "java/lang/invoke/VarHandle" ∧ (parseMethodDescriptor yX8_closeWeek.desc).map (fun d => d.parameters.length) = some 0 := by decide +kernel
theorem w_X8_closeWeek_0 : Cond.fieldLink RX8 11 "CoverSheet" "team" "[LCoverSheet$Person;" ∈ wsX8_closeWeek := by decide +kernel
theorem w_X8_closeWeek_1 : Cond.fieldLink RX8 171 "CoverSheet" "closedWeeks" "I" ∈ wsX8_closeWeek := by decide +kernel
theorem in_X8_closeWeek_X8 : ∀ w ∈ u_ws RX8 TX8 9, w ∈ wsX8_closeWeek := by decide +kernel
set_option maxHeartbeats 4000000 in
set_option maxRecDepth 100000 in
theorem w_X8_closeWeek (l : Launch) (D : va_G) (cT : ClassId × ClassId × ClassId) (sz : Nat) (c pa : Nat → Nat) (bd a6 a7 n ro cl fb rn : Nat) (nd sk mo wk fx wi la da we : Nat → Nat) (V V2 PR : Nat → Int64) (hwf : wfC n bd fb rn nd sk mo wk fx wi la da we) (hbd : bd + 1 < 4096) : Met l yX8_closeWeek wsX8_closeWeek ({ frames := 4, cells := 0, slots := 0, locals := 85 } : Room) (va_Pc [.ref (c 0)] (wr_R D (TY cT) (cX cT c a6 a7 n ro cl fb rn nd V V2 PR pa ++ pool n pa (per sk mo wk fx wi la da we)) sz)) (wQi (fun (r_ : Int32) (_ : Unit) => r_ = (nI (cl + 1))) D (fun (_ : Unit) => cX cT c a6 a7 n ro (cl + 1) fb rn nd V V2 PR pa ++ pool n pa (per sk mo (upn wk (fun _ => 0) n) (upn fx (fun _ => 0) n) (upn wi (fun _ => 0) n) (upn la (clL wk) n) (upn da (clG wk da) n) (upn we (clE wk we) n))) (va_A (cX cT c a6 a7 n ro cl fb rn nd V V2 PR pa ++ pool n pa (per sk mo wk fx wi la da we)) sz)) 0 0 (va_A (cX cT c a6 a7 n ro cl fb rn nd V V2 PR pa ++ pool n pa (per sk mo wk fx wi la da we)) sz) := by
  refine wr_start (cc := cX8_closeWeek) (maxL := 5) (ret := (some .int)) RX8 ⟨by decide +kernel, rfl⟩ rfl (Nat.le_of_ble_eq_true rfl) ?_
  intro p0 e0 s0 m0 a0 b0 t0 c0 S hr hlocks hin hP hK hA hD hS ls hl
  generalize va_A (cX cT c a6 a7 n ro cl fb rn nd V V2 PR pa ++ pool n pa (per sk mo wk fx wi la da we)) sz = A at hA hD hS ⊢
  have hl : lv_has ls 5 [(0, .ref (c 0))] := hl
  obtain ⟨hn, hcl, hfb, hrn, hnd, hper⟩ := id hwf
  refine lv_aload_n S.1 S.2.1 dX8_closeWeek_0 rfl (lv_at hl 0 rfl) ?_
  refine g_get (C := RX8) (T := TX8) (N := 9) (v := .ref (c 1)) S 0 6 0 in_X8_closeWeek_X8 hK hP rfl rfl (by decide) w_X8_closeWeek_0 rfl dX8_closeWeek_1 ?_
  refine lv_astore_n (lv' := [(1, .ref (c 1)), (0, .ref (c 0))]) S.1 S.2.1 dX8_closeWeek_4 rfl hl (by decide) rfl (fun ls hl => ?_)
  refine lv_aload_n S.1 S.2.1 dX8_closeWeek_5 rfl (lv_at hl 0 rfl) ?_
  refine g_alen S 1 2 hK hP rfl rfl dX8_closeWeek_6 ?_
  refine lv_istore_n (lv' := [(2, .int (nI 8)), (1, .ref (c 1)), (0, .ref (c 0))]) S.1 S.2.1 dX8_closeWeek_7 rfl hl (by decide) rfl (fun ls hl => ?_)
  refine lv_iconst (v := (nI 0)) S.1 S.2.1 dX8_closeWeek_8 (by decide) ?_
  refine lv_istore_n (lv' := [(3, .int (nI 0)), (2, .int (nI 8)), (1, .ref (c 1)), (0, .ref (c 0))]) S.1 S.2.1 dX8_closeWeek_9 rfl hl (by decide) rfl (fun ls hl => ?_)
  have lp10 : ∀ (fu : Nat) (i : Nat), (i ≤ 8) → (8 - i) < fu → ∀ (H : Heap) (locs : List Loc), va_P D vwCl (cX cT c a6 a7 n ro cl fb rn nd V V2 PR pa ++ pool n pa (per sk mo (upn wk (fun _ => 0) (min i n)) (upn fx (fun _ => 0) (min i n)) (upn wi (fun _ => 0) (min i n)) (upn la (clL wk) (min i n)) (upn da (clG wk da) (min i n)) (upn we (clE wk we) (min i n)))) H → va_D A (cX cT c a6 a7 n ro cl fb rn nd V V2 PR pa ++ pool n pa (per sk mo (upn wk (fun _ => 0) (min i n)) (upn fx (fun _ => 0) (min i n)) (upn wi (fun _ => 0) (min i n)) (upn la (clL wk) (min i n)) (upn da (clG wk da) (min i n)) (upn we (clE wk we) (min i n)))) → va_S A s0.heap H locs → ∀ ls : Array Slot, lv_has ls 5 [(0, .ref (c 0)), (1, .ref (c 1)), (2, .int (nI 8)), (3, .int (nI i))] → W p0 l e0 ({ frames := 4, cells := 0, slots := 0, locals := 85 } : Room) s0 m0 a0 b0 t0 c0 H locs 0 0 (MQ b0 (wQi (fun (r_ : Int32) (_ : Unit) => r_ = (nI (cl + 1))) D (fun (_ : Unit) => cX cT c a6 a7 n ro (cl + 1) fb rn nd V V2 PR pa ++ pool n pa (per sk mo (upn wk (fun _ => 0) n) (upn fx (fun _ => 0) n) (upn wi (fun _ => 0) n) (upn la (clL wk) n) (upn da (clG wk da) n) (upn we (clE wk we) n))) A) a0 s0 0 0 A) (F0 m0 10 ls []) := by
    intro fu
    induction fu with
    | zero =>
      intro i h2 hm
      exact absurd hm (Nat.not_lt_zero _)
    | succ fu ih10 =>
      intro i h2 hm H locs hP hD hS ls hl
      have hwfi := wf_close hwf hbd (min i n) (min i n)
      refine lv_iload_n S.1 S.2.1 dX8_closeWeek_10 rfl (lv_at hl 3 rfl) ?_
      refine lv_iload_n S.1 S.2.1 dX8_closeWeek_11 rfl (lv_at hl 2 rfl) ?_
      refine n_cge S (tgt := 36) (by omega) dX8_closeWeek_12 (by decide) (fun c12 => ?_) (fun c12 => ?_)
      · rw [show min i n = n by omega] at hP hD
        refine lv_aload_n S.1 S.2.1 dX8_closeWeek_36 rfl (lv_at hl 0 rfl) ?_
        refine lv_dup S.1 S.2.1 dX8_closeWeek_37 rfl ?_
        refine g_get (C := RX8) (T := TX8) (N := 9) (v := .int (nI cl)) S 0 6 8 in_X8_closeWeek_X8 hK hP rfl rfl (by decide) w_X8_closeWeek_1 rfl dX8_closeWeek_38 ?_
        refine lv_iconst (v := (nI 1)) S.1 S.2.1 dX8_closeWeek_41 (by decide) ?_
        refine n_add S dX8_closeWeek_42 ?_
        refine w_put (C := RX8) (T := TX8) (N := 9) (v := .int (nI (cl + 1))) (ty := .int) S 0 6 8 in_X8_closeWeek_X8 tyX8 tyX8_ok nmX8 hK hP hD hS rfl rfl (by decide) w_X8_closeWeek_1 rfl (by decide +kernel) rfl rfl (Nat.le_of_ble_eq_true rfl) dX8_closeWeek_43 (fun H locs hP hD hS => ?_)
        have hP : va_P D vwCl (cX cT c a6 a7 n ro (cl + 1) fb rn nd V V2 PR pa ++ pool n pa (per sk mo (upn wk (fun _ => 0) n) (upn fx (fun _ => 0) n) (upn wi (fun _ => 0) n) (upn la (clL wk) n) (upn da (clG wk da) n) (upn we (clE wk we) n))) H := hP
        have hD : va_D A (cX cT c a6 a7 n ro (cl + 1) fb rn nd V V2 PR pa ++ pool n pa (per sk mo (upn wk (fun _ => 0) n) (upn fx (fun _ => 0) n) (upn wi (fun _ => 0) n) (upn la (clL wk) n) (upn da (clG wk da) n) (upn we (clE wk we) n))) := hD
        refine lv_aload_n S.1 S.2.1 dX8_closeWeek_46 rfl (lv_at hl 0 rfl) ?_
        refine g_get (C := RX8) (T := TX8) (N := 9) (v := .int (nI (cl + 1))) S 0 6 8 in_X8_closeWeek_X8 hK hP rfl rfl (by decide) w_X8_closeWeek_1 rfl dX8_closeWeek_47 ?_
        exact wr_iret S (()) hr rfl hlocks (rfl) (hP) (hD) hS dX8_closeWeek_50
      · refine lv_aload_n S.1 S.2.1 dX8_closeWeek_15 rfl (lv_at hl 1 rfl) ?_
        refine lv_iload_n S.1 S.2.1 dX8_closeWeek_16 rfl (lv_at hl 3 rfl) ?_
        refine g_aald S 1 hK hP rfl (by omega) dX8_closeWeek_17 ?_
        by_cases hb : i < n
        · refine n_topv (show va_rf (tm n pa i) = .ref (pa i) by rw [tm_in hb]; rfl) ?_
          have hpi := hper i
          have em : min i n = i := by omega
          rw [em] at hP hD hwfi
          refine lv_astore (lv' := [(4, .ref (pa i)), (0, .ref (c 0)), (1, .ref (c 1)), (2, .int (nI 8)), (3, .int (nI i))]) S.1 S.2.1 dX8_closeWeek_18 hl (by decide) rfl (fun ls hl => ?_)
          refine lv_aload S.1 S.2.1 dX8_closeWeek_20 (lv_at hl 0 rfl) ?_
          refine lv_ifnull S.1 S.2.1 dX8_closeWeek_22 ?_
          refine lv_aload S.1 S.2.1 dX8_closeWeek_25 (lv_at hl 0 rfl) ?_
          refine wr_callVv (rest := []) S (r_X4_noteWeek l D cT _ c pa (bd + 1) a6 a7 n ro cl fb rn nd sk mo (upn wk (fun _ => 0) i) (upn fx (fun _ => 0) i) (upn wi (fun _ => 0) i) (upn la (clL wk) i) (upn da (clG wk da) i) (upn we (clE wk we) i) V V2 PR i (hwfi) (by omega)) gX8_closeWeek_X4_noteWeek rfl pd_X4_noteWeek ⟨rfl, rfl, Nat.le_of_ble_eq_true rfl, Nat.le_of_ble_eq_true rfl⟩ hP hK hD hS hA (va_recv hK.1 hP (ci := 3) (q0 := _) rfl (pool_at (by omega))) hl rfl rfl (Nat.le_of_ble_eq_true rfl) ⟨Nat.zero_le _, Nat.zero_le _⟩ dX8_closeWeek_27 (fun u_ H locs hr_ hP hD hS => ?_)
          have hP : va_P D vwCl (cX cT c a6 a7 n ro cl fb rn nd V V2 PR pa ++ pool n pa (per sk mo (va_up (upn wk (fun _ => 0) i) i 0) (va_up (upn fx (fun _ => 0) i) i 0) (va_up (upn wi (fun _ => 0) i) i 0) (va_up (upn la (clL wk) i) i (ent ((upn wk (fun _ => 0) i) i) 6)) (va_up (upn da (clG wk da) i) i (rnb ((upn wk (fun _ => 0) i) i) ((upn da (clG wk da) i) i) 7)) (va_up (upn we (clE wk we) i) i ((upn we (clE wk we) i) i + shc ((upn wk (fun _ => 0) i) i) 5 2)))) H := hP
          have hD : va_D A (cX cT c a6 a7 n ro cl fb rn nd V V2 PR pa ++ pool n pa (per sk mo (va_up (upn wk (fun _ => 0) i) i 0) (va_up (upn fx (fun _ => 0) i) i 0) (va_up (upn wi (fun _ => 0) i) i 0) (va_up (upn la (clL wk) i) i (ent ((upn wk (fun _ => 0) i) i) 6)) (va_up (upn da (clG wk da) i) i (rnb ((upn wk (fun _ => 0) i) i) ((upn da (clG wk da) i) i) 7)) (va_up (upn we (clE wk we) i) i ((upn we (clE wk we) i) i + shc ((upn wk (fun _ => 0) i) i) 5 2)))) := hD
          have q1 : upn wk (fun _ => 0) i i = wk i := upn_at
          have q2 : upn da (clG wk da) i i = da i := upn_at
          have q3 : upn we (clE wk we) i i = we i := upn_at
          rw [q1, q2, q3] at hP hD
          have e0 : va_up (upn wk (fun _ => 0) i) i 0 = upn wk (fun _ => 0) (i + 1) := upn_s
          have e1 : va_up (upn fx (fun _ => 0) i) i 0 = upn fx (fun _ => 0) (i + 1) := upn_s
          have e2 : va_up (upn wi (fun _ => 0) i) i 0 = upn wi (fun _ => 0) (i + 1) := upn_s
          have e3 : va_up (upn la (clL wk) i) i (ent (wk i) 6) = upn la (clL wk) (i + 1) := upn_s
          have e4 : va_up (upn da (clG wk da) i) i (rnb (wk i) (da i) 7) = upn da (clG wk da) (i + 1) := upn_s
          have e5 : va_up (upn we (clE wk we) i) i (we i + shc (wk i) 5 2) = upn we (clE wk we) (i + 1) := upn_s
          rw [e0, e1, e2, e3, e4, e5] at hP hD
          have hP : va_P D vwCl (cX cT c a6 a7 n ro cl fb rn nd V V2 PR pa ++ pool n pa (per sk mo (upn wk (fun _ => 0) (min (i + 1) n)) (upn fx (fun _ => 0) (min (i + 1) n)) (upn wi (fun _ => 0) (min (i + 1) n)) (upn la (clL wk) (min (i + 1) n)) (upn da (clG wk da) (min (i + 1) n)) (upn we (clE wk we) (min (i + 1) n)))) H := by rw [show min (i + 1) n = i + 1 by omega]; exact hP
          have hD : va_D A (cX cT c a6 a7 n ro cl fb rn nd V V2 PR pa ++ pool n pa (per sk mo (upn wk (fun _ => 0) (min (i + 1) n)) (upn fx (fun _ => 0) (min (i + 1) n)) (upn wi (fun _ => 0) (min (i + 1) n)) (upn la (clL wk) (min (i + 1) n)) (upn da (clG wk da) (min (i + 1) n)) (upn we (clE wk we) (min (i + 1) n)))) := by rw [show min (i + 1) n = i + 1 by omega]; exact hD
          refine lv_iinc (v := (nI (i + 1))) (lv' := [(3, .int (nI (i + 1))), (4, .ref (pa i)), (0, .ref (c 0)), (1, .ref (c 1)), (2, .int (nI 8))]) S.1 S.2.1 dX8_closeWeek_30 hl (k := 4) rfl (nI_1 _) (by decide) rfl (fun ls hl => ?_)
          refine lv_goto (tgt := 10) S.1 S.2.1 dX8_closeWeek_33 (by decide) ?_
          exact ih10 (i + 1) (by omega) (by omega) _ _ hP hD hS ls (lv_sub hl [2, 3, 4, 0] rfl)
        · refine n_topv (show va_rf (tm n pa i) = .null by rw [tm_out (Nat.le_of_not_lt hb)]; rfl) ?_
          refine lv_astoreN (lv' := [(4, .null), (0, .ref (c 0)), (1, .ref (c 1)), (2, .int (nI 8)), (3, .int (nI i))]) S.1 S.2.1 dX8_closeWeek_18 hl (by decide) rfl (fun ls hl => ?_)
          refine lv_aloadN S.1 S.2.1 dX8_closeWeek_20 (lv_at hl 0 rfl) ?_
          refine lv_ifnullN (tgt := 30) S.1 S.2.1 dX8_closeWeek_22 (by decide) ?_
          have hP : va_P D vwCl (cX cT c a6 a7 n ro cl fb rn nd V V2 PR pa ++ pool n pa (per sk mo (upn wk (fun _ => 0) (min (i + 1) n)) (upn fx (fun _ => 0) (min (i + 1) n)) (upn wi (fun _ => 0) (min (i + 1) n)) (upn la (clL wk) (min (i + 1) n)) (upn da (clG wk da) (min (i + 1) n)) (upn we (clE wk we) (min (i + 1) n)))) H := by rw [show min (i + 1) n = min i n by omega]; exact hP
          have hD : va_D A (cX cT c a6 a7 n ro cl fb rn nd V V2 PR pa ++ pool n pa (per sk mo (upn wk (fun _ => 0) (min (i + 1) n)) (upn fx (fun _ => 0) (min (i + 1) n)) (upn wi (fun _ => 0) (min (i + 1) n)) (upn la (clL wk) (min (i + 1) n)) (upn da (clG wk da) (min (i + 1) n)) (upn we (clE wk we) (min (i + 1) n)))) := by rw [show min (i + 1) n = min i n by omega]; exact hD
          refine lv_iinc (v := (nI (i + 1))) (lv' := [(3, .int (nI (i + 1))), (4, .null), (0, .ref (c 0)), (1, .ref (c 1)), (2, .int (nI 8))]) S.1 S.2.1 dX8_closeWeek_30 hl (k := 4) rfl (nI_1 _) (by decide) rfl (fun ls hl => ?_)
          refine lv_goto (tgt := 10) S.1 S.2.1 dX8_closeWeek_33 (by decide) ?_
          exact ih10 (i + 1) (by omega) (by omega) _ _ hP hD hS ls (lv_sub hl [2, 3, 4, 0] rfl)
  exact lp10 _ 0 (Nat.zero_le _) (Nat.lt_succ_self _) _ _ hP hD hS ls (lv_sub hl [3, 2, 1, 0] rfl)

theorem pd_X8_weeksByDays : yX8_weeksByDays.cls = RX8 ∧ yX8_weeksByDays.cls ≠ "java/lang/invoke/MethodHandle" ∧ yX8_weeksByDays.cls ≠ "java/lang/invoke/VarHandle" ∧ (parseMethodDescriptor yX8_weeksByDays.desc).map (fun d => d.parameters.length) = some 1 := by decide +kernel
theorem w_X8_weeksByDays_0 : Cond.fieldLink RX8 32 "CoverSheet" "table" "LCoverSheet$DayTable;" ∈ wsX8_weeksByDays := by decide +kernel
theorem w_X8_weeksByDays_1 : Cond.fieldLink RX8 25 "CoverSheet" "rules" "LCoverSheet$Rules;" ∈ wsX8_weeksByDays := by decide +kernel
theorem w_X8_weeksByDays_2 : Cond.fieldLink RX8 39 "CoverSheet" "counting" "LCoverSheet$Counting;" ∈ wsX8_weeksByDays := by decide +kernel
theorem in_X8_weeksByDays_X8 : ∀ w ∈ u_ws RX8 TX8 9, w ∈ wsX8_weeksByDays := by decide +kernel
set_option maxHeartbeats 4000000 in
set_option maxRecDepth 100000 in
theorem w_X8_weeksByDays (l : Launch) (D : va_G) (cT : ClassId × ClassId × ClassId) (sz : Nat) (c pa : Nat → Nat) (bd a6 a7 n ro cl fb rn : Nat) (nd sk mo wk fx wi la da we : Nat → Nat) (V V2 PR : Nat → Int64) (i : Nat) (hwf : wfC n bd fb rn nd sk mo wk fx wi la da we) (hi : i < n) : Met l yX8_weeksByDays wsX8_weeksByDays ({ frames := 4, cells := 0, slots := 0, locals := 110 } : Room) (va_Pc [.ref (c 0), .int (nI i)] (wr_R D (TY cT) (cX cT c a6 a7 n ro cl fb rn nd V V2 PR pa ++ pool n pa (per sk mo wk fx wi la da we)) sz)) (wQi (fun (r_ : Int32) (_ : Nat × Nat × (Nat → Int64) × (Nat → Int64)) => r_ = nI (cnw (fe sk mo fx la da fb rn i) 16384)) D (fun (u_ : Nat × Nat × (Nat → Int64) × (Nat → Int64)) => cX cT c u_.1 u_.2.1 n ro cl fb rn nd u_.2.2.1 u_.2.2.2 PR pa ++ pool n pa (per sk mo wk fx wi la da we)) (va_A (cX cT c a6 a7 n ro cl fb rn nd V V2 PR pa ++ pool n pa (per sk mo wk fx wi la da we)) sz)) 0 0 (va_A (cX cT c a6 a7 n ro cl fb rn nd V V2 PR pa ++ pool n pa (per sk mo wk fx wi la da we)) sz) := by
  refine wr_start (cc := cX8_weeksByDays) (maxL := 3) (ret := (some .int)) RX8 ⟨by decide +kernel, rfl⟩ rfl (Nat.le_of_ble_eq_true rfl) ?_
  intro p0 e0 s0 m0 a0 b0 t0 c0 S hr hlocks hin hP hK hA hD hS ls hl
  generalize va_A (cX cT c a6 a7 n ro cl fb rn nd V V2 PR pa ++ pool n pa (per sk mo wk fx wi la da we)) sz = A at hA hD hS ⊢
  have hl : lv_has ls 3 [(0, .ref (c 0)), (1, .int (nI i))] := hl
  obtain ⟨hn, hcl, hfb, hrn, hnd, hper⟩ := id hwf
  have hpi := hper i
  refine lv_aload_n S.1 S.2.1 dX8_weeksByDays_0 rfl (lv_at hl 0 rfl) ?_
  refine lv_iload_n S.1 S.2.1 dX8_weeksByDays_1 rfl (lv_at hl 1 rfl) ?_
  refine rd_callVr (rest := []) S (r_X8_personAt l D cT c pa bd a6 a7 n ro cl fb rn nd sk mo wk fx wi la da we V V2 PR i (hwf) (by omega)) gX8_weeksByDays_X8_personAt rfl pd_X8_personAt ⟨rfl, rfl, Nat.le_of_ble_eq_true rfl, Nat.le_of_ble_eq_true rfl⟩ hP hK (va_recv hK.1 hP (ci := 6) (q0 := 0) rfl rfl) hl rfl rfl (Nat.le_of_ble_eq_true rfl) ⟨Nat.zero_le _, Nat.zero_le _⟩ dX8_weeksByDays_2 ?_
  refine lv_astore_n (lv' := [(2, .ref (pa i)), (0, .ref (c 0)), (1, .int (nI i))]) S.1 S.2.1 dX8_weeksByDays_5 rfl hl (by decide) rfl (fun ls hl => ?_)
  refine lv_aload_n S.1 S.2.1 dX8_weeksByDays_6 rfl (lv_at hl 0 rfl) ?_
  refine lv_ifnonnull (tgt := 20) S.1 S.2.1 dX8_weeksByDays_7 (by decide) ?_
  refine lv_aload_n S.1 S.2.1 dX8_weeksByDays_20 rfl (lv_at hl 1 rfl) ?_
  refine g_get (C := RX8) (T := TX8) (N := 9) (v := .ref (c 5)) S 0 6 3 in_X8_weeksByDays_X8 hK hP rfl rfl (by decide) w_X8_weeksByDays_0 rfl dX8_weeksByDays_21 ?_
  refine lv_aload_n S.1 S.2.1 dX8_weeksByDays_24 rfl (lv_at hl 0 rfl) ?_
  refine lv_aload_n S.1 S.2.1 dX8_weeksByDays_25 rfl (lv_at hl 1 rfl) ?_
  refine g_get (C := RX8) (T := TX8) (N := 9) (v := .ref (c 4)) S 0 6 2 in_X8_weeksByDays_X8 hK hP rfl rfl (by decide) w_X8_weeksByDays_1 rfl dX8_weeksByDays_26 ?_
  refine lv_aload_n S.1 S.2.1 dX8_weeksByDays_29 rfl (lv_at hl 1 rfl) ?_
  refine g_get (C := RX8) (T := TX8) (N := 9) (v := .ref (c 8)) S 0 6 4 in_X8_weeksByDays_X8 hK hP rfl rfl (by decide) w_X8_weeksByDays_2 rfl dX8_weeksByDays_30 ?_
  refine wr_callVl (rest := []) S (w_X1_through_X0 l D cT _ c pa bd a6 a7 n ro cl fb rn nd sk mo wk fx wi la da we V V2 PR i (hwf) (by omega)) gX8_weeksByDays_X1_through rfl pd_X1_through ⟨rfl, rfl, Nat.le_of_ble_eq_true rfl, Nat.le_of_ble_eq_true rfl⟩ hP hK hD hS hA (va_recv hK.1 hP (ci := 1) (q0 := 5) rfl rfl) hl rfl rfl (Nat.le_of_ble_eq_true rfl) ⟨Nat.zero_le _, Nat.zero_le _⟩ dX8_weeksByDays_33 (fun r_ u_ H locs hr_ hP hD hS => ?_)
  rw [show r_ = thC (sk i) (mo i) (fx i) fb rn (da i) (la i) from hr_]
  have hP : va_P D vwCl (cX cT c u_.1 u_.2.1 n ro cl fb rn nd u_.2.2.1 u_.2.2.2 PR pa ++ pool n pa (per sk mo wk fx wi la da we)) H := hP
  have hD : va_D A (cX cT c u_.1 u_.2.1 n ro cl fb rn nd u_.2.2.1 u_.2.2.2 PR pa ++ pool n pa (per sk mo wk fx wi la da we)) := hD
  refine lv_l2i S.1 S.2.1 dX8_weeksByDays_36 rfl ?_
  refine n_top (show ((thC (sk i) (mo i) (fx i) fb rn (da i) (la i)).toInt32) = (nI (cnw (fe sk mo fx la da fb rn i) 16384)) from dp_count hwf hi) ?_
  exact wr_iret S (u_) hr rfl hlocks (rfl) (hP) (hD) hS dX8_weeksByDays_37

