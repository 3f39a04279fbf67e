theorem pd_X9_plan : yX9_plan.cls = RX9 ∧ yX9_plan.cls ≠ "java/lang/invoke/MethodHandle" ∧ yX9_plan.cls ≠ "java/lang/invoke/VarHandle" ∧ (parseMethodDescriptor yX9_plan.desc).map (fun d => d.parameters.length) = some 0 := by decide +kernel
theorem w_X9_plan_0 : Cond.fieldLink RX9 44 "CoverSheetModel" "thrown" "I" ∈ wsX9_plan := by decide +kernel
theorem w_X9_plan_1 : Cond.fieldLink RX9 99 "CoverSheetModel" "rounds" "I" ∈ wsX9_plan := by decide +kernel
theorem w_X9_plan_2 : Cond.fieldLink RX9 47 "CoverSheetModel" "many" "I" ∈ wsX9_plan := by decide +kernel
theorem w_X9_plan_3 : Cond.fieldLink RX9 26 "CoverSheetModel" "entries" "[I" ∈ wsX9_plan := by decide +kernel
theorem in_X9_plan_X9 : ∀ w ∈ u_ws RX9 TX9 15, w ∈ wsX9_plan := by decide +kernel
set_option maxHeartbeats 4000000 in
set_option maxRecDepth 100000 in
theorem w_X9_plan (l : Launch) (D : va_G) (cT : ClassId × ClassId × ClassId) (sz : Nat) (q : Nat → Nat) (bd th n ro cl fb rn : Nat) (nd sk mo wk fx wi la da we : Nat → Nat) (hwf : wfC n bd fb rn nd sk mo wk fx wi la da we) (hz : ∀ b, b < 4 → bit fb (4 * b) = 0) (hwz : ∀ k, n ≤ k → wk k = 0) : Met l yX9_plan wsX9_plan ({ frames := 4, cells := 0, slots := 0, locals := 99 } : Room) (va_Pc [.ref (q 0)] (wr_R D (TY cT) (mX cT q th n ro cl fb rn nd sk mo wk fx wi la da we) sz)) (wQi (fun (r_ : Int32) (r : Nat) => PRd (cho n fb rn nd sk mo fx wi la da we) n (fun _ => 0) r ∧ r_ = nI (gpd n nd ((pls (cho n fb rn nd sk mo fx wi la da we) n (fun _ => 0) r).1) 7)) D (fun (r : Nat) => mX cT q 0 n r cl fb rn nd sk mo ((pls (cho n fb rn nd sk mo fx wi la da we) n (fun _ => 0) r).1) fx wi la da we) (va_A (mX cT q th n ro cl fb rn nd sk mo wk fx wi la da we) sz)) 0 0 (va_A (mX cT q th n ro cl fb rn nd sk mo wk fx wi la da we) sz) := by
  refine wr_start (cc := cX9_plan) (maxL := 4) (ret := (some .int)) RX9 ⟨by decide +kernel, rfl⟩ rfl (Nat.le_of_ble_eq_true rfl) ?_
  intro p0 e0 s0 m0 a0 b0 t0 c0 S hr hlocks hin hP hK hA hD hS ls hl
  generalize va_A (mX cT q th n ro cl fb rn nd sk mo wk fx wi la da we) sz = A at hA hD hS ⊢
  have hl : lv_has ls 4 [(0, .ref (q 0))] := hl
  obtain ⟨hn, hcl, hfb, hrn, hnd, hper⟩ := id hwf
  refine lv_aload_n S.1 S.2.1 dX9_plan_0 rfl (lv_at hl 0 rfl) ?_
  refine lv_iconst (v := (nI 0)) S.1 S.2.1 dX9_plan_1 (by decide) ?_
  refine w_put (C := RX9) (T := TX9) (N := 15) (v := .int (nI 0)) (ty := .int) S 0 7 0 in_X9_plan_X9 tyX9 tyX9_ok nmX9 hK hP hD hS rfl rfl (by decide) w_X9_plan_0 rfl (by decide +kernel) rfl rfl (Nat.le_of_ble_eq_true rfl) dX9_plan_2 (fun H locs hP hD hS => ?_)
  have hP : va_P D vwCl (mX cT q 0 n ro cl fb rn nd sk mo wk fx wi la da we) H := hP
  have hD : va_D A (mX cT q 0 n ro cl fb rn nd sk mo wk fx wi la da we) := hD
  refine lv_iconst (v := (nI 0)) S.1 S.2.1 dX9_plan_5 (by decide) ?_
  refine lv_istore_n (lv' := [(1, .int (nI 0)), (0, .ref (q 0))]) S.1 S.2.1 dX9_plan_6 rfl hl (by decide) rfl (fun ls hl => ?_)
  have lp7 : ∀ (fu : Nat) (w1 : Nat → Nat) (k : Nat), (k ≤ 56) → (w1 = zkf wk k) → (56 - k) < fu → ∀ (H : Heap) (locs : List Loc), va_P D vwCl (mX cT q 0 n ro cl fb rn nd sk mo w1 fx wi la da we) H → va_D A (mX cT q 0 n ro cl fb rn nd sk mo w1 fx wi la da we) → va_S A s0.heap H locs → ∀ ls : Array Slot, lv_has ls 4 [(0, .ref (q 0)), (1, .int (nI k))] → W p0 l e0 ({ frames := 4, cells := 0, slots := 0, locals := 99 } : Room) s0 m0 a0 b0 t0 c0 H locs 0 0 (MQ b0 (wQi (fun (r_ : Int32) (r : Nat) => PRd (cho n fb rn nd sk mo fx wi la da we) n (fun _ => 0) r ∧ r_ = nI (gpd n nd ((pls (cho n fb rn nd sk mo fx wi la da we) n (fun _ => 0) r).1) 7)) D (fun (r : Nat) => mX cT q 0 n r cl fb rn nd sk mo ((pls (cho n fb rn nd sk mo fx wi la da we) n (fun _ => 0) r).1) fx wi la da we) A) a0 s0 0 0 A) (F0 m0 7 ls []) := by
    intro fu
    induction fu with
    | zero =>
      intro w1 k h2 hw1 hm
      exact absurd hm (Nat.not_lt_zero _)
    | succ fu ih7 =>
      intro w1 k h2 hw1 hm H locs hP hD hS ls hl
      refine lv_iload_n S.1 S.2.1 dX9_plan_7 rfl (lv_at hl 1 rfl) ?_
      refine lv_bipush (v := (nI 56)) S.1 S.2.1 dX9_plan_8 (by decide) ?_
      refine n_cge S (tgt := 26) (by omega) dX9_plan_10 (by decide) (fun c10 => ?_) (fun c10 => ?_)
      · rw [hw1, show k = 56 by omega, zkf_56 hn hwz] at hP hD
        refine lv_aload_n S.1 S.2.1 dX9_plan_26 rfl (lv_at hl 0 rfl) ?_
        refine lv_iconst (v := (nI 0)) S.1 S.2.1 dX9_plan_27 (by decide) ?_
        refine w_put (C := RX9) (T := TX9) (N := 15) (v := .int (nI 0)) (ty := .int) S 0 7 3 in_X9_plan_X9 tyX9 tyX9_ok nmX9 hK hP hD hS rfl rfl (by decide) w_X9_plan_1 rfl (by decide +kernel) rfl rfl (Nat.le_of_ble_eq_true rfl) dX9_plan_28 (fun H locs hP hD hS => ?_)
        have hP : va_P D vwCl (mX cT q 0 n 0 cl fb rn nd sk mo (fun _ => 0) fx wi la da we) H := hP
        have hD : va_D A (mX cT q 0 n 0 cl fb rn nd sk mo (fun _ => 0) fx wi la da we) := hD
        refine lv_iconst (v := (nI 1)) S.1 S.2.1 dX9_plan_31 (by decide) ?_
        refine lv_istore_n (lv' := [(1, .int (nI 1)), (0, .ref (q 0))]) S.1 S.2.1 dX9_plan_32 rfl hl (by decide) rfl (fun ls hl => ?_)
        have lp33 : ∀ (fu : Nat) (b : Bool) (r : Nat), (r ≤ 10) → (b = (pls (cho n fb rn nd sk mo fx wi la da we) n (fun _ => 0) r).2) → (∀ k, k < r → (pls (cho n fb rn nd sk mo fx wi la da we) n (fun _ => 0) k).2 = true) → (10 - r) < fu → ∀ (H : Heap) (locs : List Loc), va_P D vwCl (mX cT q 0 n r cl fb rn nd sk mo ((pls (cho n fb rn nd sk mo fx wi la da we) n (fun _ => 0) r).1) fx wi la da we) H → va_D A (mX cT q 0 n r cl fb rn nd sk mo ((pls (cho n fb rn nd sk mo fx wi la da we) n (fun _ => 0) r).1) fx wi la da we) → va_S A s0.heap H locs → ∀ ls : Array Slot, lv_has ls 4 [(0, .ref (q 0)), (1, .int (nI b.toNat))] → W p0 l e0 ({ frames := 4, cells := 0, slots := 0, locals := 99 } : Room) s0 m0 a0 b0 t0 c0 H locs 0 0 (MQ b0 (wQi (fun (r_ : Int32) (r : Nat) => PRd (cho n fb rn nd sk mo fx wi la da we) n (fun _ => 0) r ∧ r_ = nI (gpd n nd ((pls (cho n fb rn nd sk mo fx wi la da we) n (fun _ => 0) r).1) 7)) D (fun (r : Nat) => mX cT q 0 n r cl fb rn nd sk mo ((pls (cho n fb rn nd sk mo fx wi la da we) n (fun _ => 0) r).1) fx wi la da we) A) a0 s0 0 0 A) (F0 m0 33 ls []) := by
          intro fu
          induction fu with
          | zero =>
            intro b r hr10 hb hall hm
            exact absurd hm (Nat.not_lt_zero _)
          | succ fu ih33 =>
            intro b r hr10 hb hall hm H locs hP hD hS ls hl
            have hwr : ∀ k, ((pls (cho n fb rn nd sk mo fx wi la da we) n (fun _ => 0) r).1) k < 16384 := pls_lt (fun w p => cho_lt _ _ _ _ _ _ _ _ _ _ _ w p) (fun _ => by decide) r
            have hwfr : wfC n bd fb rn nd sk mo ((pls (cho n fb rn nd sk mo fx wi la da we) n (fun _ => 0) r).1) fx wi la da we := wf_fun hwf hwr
            refine lv_iload_n S.1 S.2.1 dX9_plan_33 rfl (lv_at hl 1 rfl) ?_
            refine n_beq S (tgt := 108) dX9_plan_34 (by decide) (fun c34 => ?_) (fun c34 => ?_)
            · refine lv_aload_n S.1 S.2.1 dX9_plan_108 rfl (lv_at hl 0 rfl) ?_
              refine rd_callV (rest := []) S (r_X9_allGaps l D cT q bd 0 n r cl fb rn nd sk mo ((pls (cho n fb rn nd sk mo fx wi la da we) n (fun _ => 0) r).1) fx wi la da we (hwfr) (hz)) gX9_plan_X9_allGaps rfl pd_X9_allGaps ⟨rfl, rfl, Nat.le_of_ble_eq_true rfl, Nat.le_of_ble_eq_true rfl⟩ hP hK (va_recv hK.1 hP (ci := 7) (q0 := 0) rfl rfl) hl rfl rfl (Nat.le_of_ble_eq_true rfl) ⟨Nat.zero_le _, Nat.zero_le _⟩ dX9_plan_109 ?_
              exact wr_iret S (r) hr rfl hlocks (⟨⟨hall, Or.inl (by rw [← hb, c34]), hr10⟩, rfl⟩) (hP) (hD) hS dX9_plan_112
            · refine lv_aload_n S.1 S.2.1 dX9_plan_37 rfl (lv_at hl 0 rfl) ?_
              refine g_get (C := RX9) (T := TX9) (N := 15) (v := .int (nI r)) S 0 7 3 in_X9_plan_X9 hK hP rfl rfl (by decide) w_X9_plan_1 rfl dX9_plan_38 ?_
              refine lv_bipush (v := (nI 10)) S.1 S.2.1 dX9_plan_41 (by decide) ?_
              refine n_cge S (tgt := 108) (by omega) dX9_plan_43 (by decide) (fun c43 => ?_) (fun c43 => ?_)
              · refine lv_aload_n S.1 S.2.1 dX9_plan_108 rfl (lv_at hl 0 rfl) ?_
                refine rd_callV (rest := []) S (r_X9_allGaps l D cT q bd 0 n r cl fb rn nd sk mo ((pls (cho n fb rn nd sk mo fx wi la da we) n (fun _ => 0) r).1) fx wi la da we (hwfr) (hz)) gX9_plan_X9_allGaps rfl pd_X9_allGaps ⟨rfl, rfl, Nat.le_of_ble_eq_true rfl, Nat.le_of_ble_eq_true rfl⟩ hP hK (va_recv hK.1 hP (ci := 7) (q0 := 0) rfl rfl) hl rfl rfl (Nat.le_of_ble_eq_true rfl) ⟨Nat.zero_le _, Nat.zero_le _⟩ dX9_plan_109 ?_
                exact wr_iret S (r) hr rfl hlocks (⟨⟨hall, Or.inr (by omega), hr10⟩, rfl⟩) (hP) (hD) hS dX9_plan_112
              · refine lv_iconst (v := (nI 0)) S.1 S.2.1 dX9_plan_46 (by decide) ?_
                refine lv_istore_n (lv' := [(1, .int (nI 0)), (0, .ref (q 0))]) S.1 S.2.1 dX9_plan_47 rfl hl (by decide) rfl (fun ls hl => ?_)
                refine lv_iconst (v := (nI 0)) S.1 S.2.1 dX9_plan_48 (by decide) ?_
                refine lv_istore_n (lv' := [(2, .int (nI 0)), (1, .int (nI 0)), (0, .ref (q 0))]) S.1 S.2.1 dX9_plan_49 rfl hl (by decide) rfl (fun ls hl => ?_)
                have lp50 : ∀ (fu : Nat) (b1 : Bool) (p : Nat), (p ≤ n) → (b1 = (rst (cho n fb rn nd sk mo fx wi la da we) ((pls (cho n fb rn nd sk mo fx wi la da we) n (fun _ => 0) r).1) p).2) → (n - p) < fu → ∀ (H : Heap) (locs : List Loc), va_P D vwCl (mX cT q 0 n r cl fb rn nd sk mo ((rst (cho n fb rn nd sk mo fx wi la da we) ((pls (cho n fb rn nd sk mo fx wi la da we) n (fun _ => 0) r).1) p).1) fx wi la da we) H → va_D A (mX cT q 0 n r cl fb rn nd sk mo ((rst (cho n fb rn nd sk mo fx wi la da we) ((pls (cho n fb rn nd sk mo fx wi la da we) n (fun _ => 0) r).1) p).1) fx wi la da we) → va_S A s0.heap H locs → ∀ ls : Array Slot, lv_has ls 4 [(0, .ref (q 0)), (1, .int (nI b1.toNat)), (2, .int (nI p))] → W p0 l e0 ({ frames := 4, cells := 0, slots := 0, locals := 99 } : Room) s0 m0 a0 b0 t0 c0 H locs 0 0 (MQ b0 (wQi (fun (r_ : Int32) (r : Nat) => PRd (cho n fb rn nd sk mo fx wi la da we) n (fun _ => 0) r ∧ r_ = nI (gpd n nd ((pls (cho n fb rn nd sk mo fx wi la da we) n (fun _ => 0) r).1) 7)) D (fun (r : Nat) => mX cT q 0 n r cl fb rn nd sk mo ((pls (cho n fb rn nd sk mo fx wi la da we) n (fun _ => 0) r).1) fx wi la da we) A) a0 s0 0 0 A) (F0 m0 50 ls []) := by
                  intro fu
                  induction fu with
                  | zero =>
                    intro b1 p h3 hb1 hm
                    exact absurd hm (Nat.not_lt_zero _)
                  | succ fu ih50 =>
                    intro b1 p h3 hb1 hm H locs hP hD hS ls hl
                    have hwfp : wfC n bd fb rn nd sk mo ((rst (cho n fb rn nd sk mo fx wi la da we) ((pls (cho n fb rn nd sk mo fx wi la da we) n (fun _ => 0) r).1) p).1) fx wi la da we := wf_fun hwf (rst_lt (fun w p => cho_lt _ _ _ _ _ _ _ _ _ _ _ w p) hwr p)
                    refine lv_iload_n S.1 S.2.1 dX9_plan_50 rfl (lv_at hl 2 rfl) ?_
                    refine lv_aload_n S.1 S.2.1 dX9_plan_51 rfl (lv_at hl 0 rfl) ?_
                    refine g_get (C := RX9) (T := TX9) (N := 15) (v := .int (nI n)) S 0 7 1 in_X9_plan_X9 hK hP rfl rfl (by decide) w_X9_plan_2 rfl dX9_plan_52 ?_
                    refine n_cge S (tgt := 95) (by omega) dX9_plan_55 (by decide) (fun c55 => ?_) (fun c55 => ?_)
                    · have hpn : p = n := by omega
                      rw [hpn] at hP hD hb1
                      refine lv_aload_n S.1 S.2.1 dX9_plan_95 rfl (lv_at hl 0 rfl) ?_
                      refine lv_dup S.1 S.2.1 dX9_plan_96 rfl ?_
                      refine g_get (C := RX9) (T := TX9) (N := 15) (v := .int (nI r)) S 0 7 3 in_X9_plan_X9 hK hP rfl rfl (by decide) w_X9_plan_1 rfl dX9_plan_97 ?_
                      refine lv_iconst (v := (nI 1)) S.1 S.2.1 dX9_plan_100 (by decide) ?_
                      refine n_add S dX9_plan_101 ?_
                      refine w_put (C := RX9) (T := TX9) (N := 15) (v := .int (nI (r + 1))) (ty := .int) S 0 7 3 in_X9_plan_X9 tyX9 tyX9_ok nmX9 hK hP hD hS rfl rfl (by decide) w_X9_plan_1 rfl (by decide +kernel) rfl rfl (Nat.le_of_ble_eq_true rfl) dX9_plan_102 (fun H locs hP hD hS => ?_)
                      have hP : va_P D vwCl (mX cT q 0 n (r + 1) cl fb rn nd sk mo ((rst (cho n fb rn nd sk mo fx wi la da we) ((pls (cho n fb rn nd sk mo fx wi la da we) n (fun _ => 0) r).1) n).1) fx wi la da we) H := hP
                      have hD : va_D A (mX cT q 0 n (r + 1) cl fb rn nd sk mo ((rst (cho n fb rn nd sk mo fx wi la da we) ((pls (cho n fb rn nd sk mo fx wi la da we) n (fun _ => 0) r).1) n).1) fx wi la da we) := hD
                      refine lv_goto (tgt := 33) S.1 S.2.1 dX9_plan_105 (by decide) ?_
                      exact ih33 b1 (r + 1) (by omega) (hb1) (fun k hk => by rcases Nat.lt_or_eq_of_le (Nat.le_of_lt_succ hk) with q | q; exact hall k q; rw [q, ← hb, c34]) (by omega) _ _ hP hD hS ls (lv_sub hl [0, 1] rfl)
                    · refine lv_aload_n S.1 S.2.1 dX9_plan_58 rfl (lv_at hl 0 rfl) ?_
                      refine lv_iload_n S.1 S.2.1 dX9_plan_59 rfl (lv_at hl 2 rfl) ?_
                      refine rd_callV (rest := []) S (r_X9_choice l D cT q bd 0 n r cl fb rn nd sk mo ((rst (cho n fb rn nd sk mo fx wi la da we) ((pls (cho n fb rn nd sk mo fx wi la da we) n (fun _ => 0) r).1) p).1) fx wi la da we p (hwfp) (hz) (by omega)) gX9_plan_X9_choice rfl pd_X9_choice ⟨rfl, rfl, Nat.le_of_ble_eq_true rfl, Nat.le_of_ble_eq_true rfl⟩ hP hK (va_recv hK.1 hP (ci := 7) (q0 := 0) rfl rfl) hl rfl rfl (Nat.le_of_ble_eq_true rfl) ⟨Nat.zero_le _, Nat.zero_le _⟩ dX9_plan_60 ?_
                      refine n_top (show (nI ((cst (fun w => prM (we p) (wi p) (fl n nd ((rst (cho n fb rn nd sk mo fx wi la da we) ((pls (cho n fb rn nd sk mo fx wi la da we) n (fun _ => 0) r).1) p).1) p 21) w) (fe sk mo fx la da fb rn p) 16384).1)) = (nI (cho n fb rn nd sk mo fx wi la da we ((rst (cho n fb rn nd sk mo fx wi la da we) ((pls (cho n fb rn nd sk mo fx wi la da we) n (fun _ => 0) r).1) p).1) p)) from congrArg nI (hid_eq _).symm) ?_
                      refine lv_istore_n (lv' := [(3, .int (nI (cho n fb rn nd sk mo fx wi la da we ((rst (cho n fb rn nd sk mo fx wi la da we) ((pls (cho n fb rn nd sk mo fx wi la da we) n (fun _ => 0) r).1) p).1) p))), (0, .ref (q 0)), (1, .int (nI b1.toNat)), (2, .int (nI p))]) S.1 S.2.1 dX9_plan_63 rfl hl (by decide) rfl (fun ls hl => ?_)
                      refine lv_iload_n S.1 S.2.1 dX9_plan_64 rfl (lv_at hl 2 rfl) ?_
                      refine n_bne S (tgt := 77) dX9_plan_65 (by decide) (fun c65 => ?_) (fun c65 => ?_)
                      · refine lv_iconst (v := (nI 1)) S.1 S.2.1 dX9_plan_77 (by decide) ?_
                        refine lv_goto (tgt := 82) S.1 S.2.1 dX9_plan_78 (by decide) ?_
                        refine lv_istore_n (lv' := [(1, .int (nI 1)), (3, .int (nI (cho n fb rn nd sk mo fx wi la da we ((rst (cho n fb rn nd sk mo fx wi la da we) ((pls (cho n fb rn nd sk mo fx wi la da we) n (fun _ => 0) r).1) p).1) p))), (0, .ref (q 0)), (2, .int (nI p))]) S.1 S.2.1 dX9_plan_82 rfl hl (by decide) rfl (fun ls hl => ?_)
                        refine lv_aload_n S.1 S.2.1 dX9_plan_83 rfl (lv_at hl 2 rfl) ?_
                        refine lv_iload_n S.1 S.2.1 dX9_plan_84 rfl (lv_at hl 3 rfl) ?_
                        refine lv_iload_n S.1 S.2.1 dX9_plan_85 rfl (lv_at hl 1 rfl) ?_
                        refine wr_callVv (rest := []) S (w_X9_enter l D cT _ q bd 0 n r cl fb rn nd sk mo ((rst (cho n fb rn nd sk mo fx wi la da we) ((pls (cho n fb rn nd sk mo fx wi la da we) n (fun _ => 0) r).1) p).1) fx wi la da we p (cho n fb rn nd sk mo fx wi la da we ((rst (cho n fb rn nd sk mo fx wi la da we) ((pls (cho n fb rn nd sk mo fx wi la da we) n (fun _ => 0) r).1) p).1) p) (hwfp) (hz) (by omega) (cho_lt _ _ _ _ _ _ _ _ _ _ _ _ _)) gX9_plan_X9_enter rfl pd_X9_enter ⟨rfl, rfl, Nat.le_of_ble_eq_true rfl, Nat.le_of_ble_eq_true rfl⟩ hP hK hD hS hA (va_recv hK.1 hP (ci := 7) (q0 := 0) rfl rfl) hl rfl rfl (Nat.le_of_ble_eq_true rfl) ⟨Nat.zero_le _, Nat.zero_le _⟩ dX9_plan_86 (fun u_ H locs hr_ hP hD hS => ?_)
                        have hP : va_P D vwCl (mX cT q 0 n r cl fb rn nd sk mo (va_up ((rst (cho n fb rn nd sk mo fx wi la da we) ((pls (cho n fb rn nd sk mo fx wi la da we) n (fun _ => 0) r).1) p).1) p (cho n fb rn nd sk mo fx wi la da we ((rst (cho n fb rn nd sk mo fx wi la da we) ((pls (cho n fb rn nd sk mo fx wi la da we) n (fun _ => 0) r).1) p).1) p)) fx wi la da we) H := hP
                        have hD : va_D A (mX cT q 0 n r cl fb rn nd sk mo (va_up ((rst (cho n fb rn nd sk mo fx wi la da we) ((pls (cho n fb rn nd sk mo fx wi la da we) n (fun _ => 0) r).1) p).1) p (cho n fb rn nd sk mo fx wi la da we ((rst (cho n fb rn nd sk mo fx wi la da we) ((pls (cho n fb rn nd sk mo fx wi la da we) n (fun _ => 0) r).1) p).1) p)) fx wi la da we) := hD
                        refine lv_iinc (v := (nI (p + 1))) (lv' := [(2, .int (nI (p + 1))), (1, .int (nI 1)), (3, .int (nI (cho n fb rn nd sk mo fx wi la da we ((rst (cho n fb rn nd sk mo fx wi la da we) ((pls (cho n fb rn nd sk mo fx wi la da we) n (fun _ => 0) r).1) p).1) p))), (0, .ref (q 0))]) S.1 S.2.1 dX9_plan_89 hl (k := 3) rfl (nI_1 _) (by decide) rfl (fun ls hl => ?_)
                        refine lv_goto (tgt := 50) S.1 S.2.1 dX9_plan_92 (by decide) ?_
                        exact ih50 true (p + 1) (by omega) (show true = ((rst _ _ p).2 || _) from by rw [← hb1, c65]; rfl) (by omega) _ _ hP hD hS ls (lv_sub hl [3, 1, 0] rfl)
                      · refine lv_iload_n S.1 S.2.1 dX9_plan_68 rfl (lv_at hl 0 rfl) ?_
                        refine lv_aload_n S.1 S.2.1 dX9_plan_69 rfl (lv_at hl 1 rfl) ?_
                        refine lv_iload_n S.1 S.2.1 dX9_plan_70 rfl (lv_at hl 3 rfl) ?_
                        refine rd_callV (rest := [.int (nI (cho n fb rn nd sk mo fx wi la da we ((rst (cho n fb rn nd sk mo fx wi la da we) ((pls (cho n fb rn nd sk mo fx wi la da we) n (fun _ => 0) r).1) p).1) p))]) S (r_X9_weekOf l D cT q bd 0 n r cl fb rn nd sk mo ((rst (cho n fb rn nd sk mo fx wi la da we) ((pls (cho n fb rn nd sk mo fx wi la da we) n (fun _ => 0) r).1) p).1) fx wi la da we p (hwfp) (hz) (by omega)) gX9_plan_X9_weekOf rfl pd_X9_weekOf ⟨rfl, rfl, Nat.le_of_ble_eq_true rfl, Nat.le_of_ble_eq_true rfl⟩ hP hK (va_recv hK.1 hP (ci := 7) (q0 := 0) rfl rfl) hl rfl rfl (Nat.le_of_ble_eq_true rfl) ⟨Nat.zero_le _, Nat.zero_le _⟩ dX9_plan_71 ?_
                        refine n_ceq S (tgt := 81) (⟨Nat.lt_trans (cho_lt _ _ _ _ _ _ _ _ _ _ _ _ _) (by decide), by have := hwfp.2.2.2.2.2 p; omega⟩) dX9_plan_74 (by decide) (fun c74 => ?_) (fun c74 => ?_)
                        · refine lv_iconst (v := (nI 0)) S.1 S.2.1 dX9_plan_81 (by decide) ?_
                          refine lv_istore_n (lv' := [(1, .int (nI 0)), (3, .int (nI (cho n fb rn nd sk mo fx wi la da we ((rst (cho n fb rn nd sk mo fx wi la da we) ((pls (cho n fb rn nd sk mo fx wi la da we) n (fun _ => 0) r).1) p).1) p))), (0, .ref (q 0)), (2, .int (nI p))]) S.1 S.2.1 dX9_plan_82 rfl hl (by decide) rfl (fun ls hl => ?_)
                          refine lv_aload_n S.1 S.2.1 dX9_plan_83 rfl (lv_at hl 2 rfl) ?_
                          refine lv_iload_n S.1 S.2.1 dX9_plan_84 rfl (lv_at hl 3 rfl) ?_
                          refine lv_iload_n S.1 S.2.1 dX9_plan_85 rfl (lv_at hl 1 rfl) ?_
                          refine wr_callVv (rest := []) S (w_X9_enter l D cT _ q bd 0 n r cl fb rn nd sk mo ((rst (cho n fb rn nd sk mo fx wi la da we) ((pls (cho n fb rn nd sk mo fx wi la da we) n (fun _ => 0) r).1) p).1) fx wi la da we p (cho n fb rn nd sk mo fx wi la da we ((rst (cho n fb rn nd sk mo fx wi la da we) ((pls (cho n fb rn nd sk mo fx wi la da we) n (fun _ => 0) r).1) p).1) p) (hwfp) (hz) (by omega) (cho_lt _ _ _ _ _ _ _ _ _ _ _ _ _)) gX9_plan_X9_enter rfl pd_X9_enter ⟨rfl, rfl, Nat.le_of_ble_eq_true rfl, Nat.le_of_ble_eq_true rfl⟩ hP hK hD hS hA (va_recv hK.1 hP (ci := 7) (q0 := 0) rfl rfl) hl rfl rfl (Nat.le_of_ble_eq_true rfl) ⟨Nat.zero_le _, Nat.zero_le _⟩ dX9_plan_86 (fun u_ H locs hr_ hP hD hS => ?_)
                          have hP : va_P D vwCl (mX cT q 0 n r cl fb rn nd sk mo (va_up ((rst (cho n fb rn nd sk mo fx wi la da we) ((pls (cho n fb rn nd sk mo fx wi la da we) n (fun _ => 0) r).1) p).1) p (cho n fb rn nd sk mo fx wi la da we ((rst (cho n fb rn nd sk mo fx wi la da we) ((pls (cho n fb rn nd sk mo fx wi la da we) n (fun _ => 0) r).1) p).1) p)) fx wi la da we) H := hP
                          have hD : va_D A (mX cT q 0 n r cl fb rn nd sk mo (va_up ((rst (cho n fb rn nd sk mo fx wi la da we) ((pls (cho n fb rn nd sk mo fx wi la da we) n (fun _ => 0) r).1) p).1) p (cho n fb rn nd sk mo fx wi la da we ((rst (cho n fb rn nd sk mo fx wi la da we) ((pls (cho n fb rn nd sk mo fx wi la da we) n (fun _ => 0) r).1) p).1) p)) fx wi la da we) := hD
                          refine lv_iinc (v := (nI (p + 1))) (lv' := [(2, .int (nI (p + 1))), (1, .int (nI 0)), (3, .int (nI (cho n fb rn nd sk mo fx wi la da we ((rst (cho n fb rn nd sk mo fx wi la da we) ((pls (cho n fb rn nd sk mo fx wi la da we) n (fun _ => 0) r).1) p).1) p))), (0, .ref (q 0))]) S.1 S.2.1 dX9_plan_89 hl (k := 3) rfl (nI_1 _) (by decide) rfl (fun ls hl => ?_)
                          refine lv_goto (tgt := 50) S.1 S.2.1 dX9_plan_92 (by decide) ?_
                          exact ih50 false (p + 1) (by omega) (show false = ((rst _ _ p).2 || (cho _ _ _ _ _ _ _ _ _ _ _ _ p != _)) from by rw [← hb1, c65, c74, bne_x]; rfl) (by omega) _ _ hP hD hS ls (lv_sub hl [3, 1, 0] rfl)
                        · refine lv_iconst (v := (nI 1)) S.1 S.2.1 dX9_plan_77 (by decide) ?_
                          refine lv_goto (tgt := 82) S.1 S.2.1 dX9_plan_78 (by decide) ?_
                          refine lv_istore_n (lv' := [(1, .int (nI 1)), (3, .int (nI (cho n fb rn nd sk mo fx wi la da we ((rst (cho n fb rn nd sk mo fx wi la da we) ((pls (cho n fb rn nd sk mo fx wi la da we) n (fun _ => 0) r).1) p).1) p))), (0, .ref (q 0)), (2, .int (nI p))]) S.1 S.2.1 dX9_plan_82 rfl hl (by decide) rfl (fun ls hl => ?_)
                          refine lv_aload_n S.1 S.2.1 dX9_plan_83 rfl (lv_at hl 2 rfl) ?_
                          refine lv_iload_n S.1 S.2.1 dX9_plan_84 rfl (lv_at hl 3 rfl) ?_
                          refine lv_iload_n S.1 S.2.1 dX9_plan_85 rfl (lv_at hl 1 rfl) ?_
                          refine wr_callVv (rest := []) S (w_X9_enter l D cT _ q bd 0 n r cl fb rn nd sk mo ((rst (cho n fb rn nd sk mo fx wi la da we) ((pls (cho n fb rn nd sk mo fx wi la da we) n (fun _ => 0) r).1) p).1) fx wi la da we p (cho n fb rn nd sk mo fx wi la da we ((rst (cho n fb rn nd sk mo fx wi la da we) ((pls (cho n fb rn nd sk mo fx wi la da we) n (fun _ => 0) r).1) p).1) p) (hwfp) (hz) (by omega) (cho_lt _ _ _ _ _ _ _ _ _ _ _ _ _)) gX9_plan_X9_enter rfl pd_X9_enter ⟨rfl, rfl, Nat.le_of_ble_eq_true rfl, Nat.le_of_ble_eq_true rfl⟩ hP hK hD hS hA (va_recv hK.1 hP (ci := 7) (q0 := 0) rfl rfl) hl rfl rfl (Nat.le_of_ble_eq_true rfl) ⟨Nat.zero_le _, Nat.zero_le _⟩ dX9_plan_86 (fun u_ H locs hr_ hP hD hS => ?_)
                          have hP : va_P D vwCl (mX cT q 0 n r cl fb rn nd sk mo (va_up ((rst (cho n fb rn nd sk mo fx wi la da we) ((pls (cho n fb rn nd sk mo fx wi la da we) n (fun _ => 0) r).1) p).1) p (cho n fb rn nd sk mo fx wi la da we ((rst (cho n fb rn nd sk mo fx wi la da we) ((pls (cho n fb rn nd sk mo fx wi la da we) n (fun _ => 0) r).1) p).1) p)) fx wi la da we) H := hP
                          have hD : va_D A (mX cT q 0 n r cl fb rn nd sk mo (va_up ((rst (cho n fb rn nd sk mo fx wi la da we) ((pls (cho n fb rn nd sk mo fx wi la da we) n (fun _ => 0) r).1) p).1) p (cho n fb rn nd sk mo fx wi la da we ((rst (cho n fb rn nd sk mo fx wi la da we) ((pls (cho n fb rn nd sk mo fx wi la da we) n (fun _ => 0) r).1) p).1) p)) fx wi la da we) := hD
                          refine lv_iinc (v := (nI (p + 1))) (lv' := [(2, .int (nI (p + 1))), (1, .int (nI 1)), (3, .int (nI (cho n fb rn nd sk mo fx wi la da we ((rst (cho n fb rn nd sk mo fx wi la da we) ((pls (cho n fb rn nd sk mo fx wi la da we) n (fun _ => 0) r).1) p).1) p))), (0, .ref (q 0))]) S.1 S.2.1 dX9_plan_89 hl (k := 3) rfl (nI_1 _) (by decide) rfl (fun ls hl => ?_)
                          refine lv_goto (tgt := 50) S.1 S.2.1 dX9_plan_92 (by decide) ?_
                          exact ih50 true (p + 1) (by omega) (show true = ((rst _ _ p).2 || (cho _ _ _ _ _ _ _ _ _ _ _ _ p != _)) from by rw [bne_iff_ne.mpr c74, Bool.or_true]) (by omega) _ _ hP hD hS ls (lv_sub hl [3, 1, 0] rfl)
                exact lp50 _ false 0 (Nat.zero_le _) (rfl) (Nat.lt_succ_self _) _ _ hP hD hS ls (lv_sub hl [2, 1, 0] rfl)
        exact lp33 _ true 0 (Nat.zero_le _) (rfl) (fun k h => absurd h (Nat.not_lt_zero k)) (Nat.lt_succ_self _) _ _ hP hD hS ls (lv_sub hl [1, 0] rfl)
      · refine lv_aload_n S.1 S.2.1 dX9_plan_13 rfl (lv_at hl 0 rfl) ?_
        refine g_get (C := RX9) (T := TX9) (N := 15) (v := .ref (q 5)) S 0 7 9 in_X9_plan_X9 hK hP rfl rfl (by decide) w_X9_plan_3 rfl dX9_plan_14 ?_
        refine lv_iload_n S.1 S.2.1 dX9_plan_17 rfl (lv_at hl 1 rfl) ?_
        refine lv_iconst (v := (nI 0)) S.1 S.2.1 dX9_plan_18 (by decide) ?_
        refine w_iast S 5 hK hP hD hS rfl (by omega) dX9_plan_19 (fun H locs hP hD hS => ?_)
        have hP : va_P D vwCl (mX cT q 0 n ro cl fb rn nd sk mo (va_up w1 (k / 7) (wset (w1 (k / 7)) (k % 7) 0)) fx wi la da we) H := by rw [en_upk (wk := w1) (k := k) (v := 0) (by omega)] at hP; exact hP
        have hD : va_D A (mX cT q 0 n ro cl fb rn nd sk mo (va_up w1 (k / 7) (wset (w1 (k / 7)) (k % 7) 0)) fx wi la da we) := by rw [en_upk (wk := w1) (k := k) (v := 0) (by omega)] at hD; exact hD
        refine lv_iinc (v := (nI (k + 1))) (lv' := [(1, .int (nI (k + 1))), (0, .ref (q 0))]) S.1 S.2.1 dX9_plan_20 hl (k := 1) rfl (nI_1 _) (by decide) rfl (fun ls hl => ?_)
        refine lv_goto (tgt := 7) S.1 S.2.1 dX9_plan_23 (by decide) ?_
        exact ih7 (va_up w1 (k / 7) (wset (w1 (k / 7)) (k % 7) 0)) (k + 1) (by omega) (by rw [hw1]; exact zkf_s (fun k => (hper k).2.2.1) k) (by omega) _ _ hP hD hS ls (lv_sub hl [1, 0] rfl)
  exact lp7 _ wk 0 (Nat.zero_le _) (zkf_0.symm) (Nat.lt_succ_self _) _ _ hP hD hS ls (lv_sub hl [1, 0] rfl)

theorem pd_X9_closeWeek : yX9_closeWeek.cls = RX9 ∧ yX9_closeWeek.cls ≠ "java/lang/invoke/MethodHandle" ∧ yX9_closeWeek.cls ≠ "java/lang/invoke/VarHandle" ∧ (parseMethodDescriptor yX9_closeWeek.desc).map (fun d => d.parameters.length) = some 0 := by decide +kernel
theorem w_X9_closeWeek_0 : Cond.fieldLink RX9 44 "CoverSheetModel" "thrown" "I" ∈ wsX9_closeWeek := by decide +kernel
theorem w_X9_closeWeek_1 : Cond.fieldLink RX9 47 "CoverSheetModel" "many" "I" ∈ wsX9_closeWeek := by decide +kernel
theorem w_X9_closeWeek_2 : Cond.fieldLink RX9 122 "CoverSheetModel" "closed" "I" ∈ wsX9_closeWeek := by decide +kernel
theorem w_X9_closeWeek_3 : Cond.fieldLink RX9 35 "CoverSheetModel" "last" "[I" ∈ wsX9_closeWeek := by decide +kernel
theorem w_X9_closeWeek_4 : Cond.fieldLink RX9 41 "CoverSheetModel" "ends" "[I" ∈ wsX9_closeWeek := by decide +kernel
theorem w_X9_closeWeek_5 : Cond.fieldLink RX9 32 "CoverSheetModel" "wished" "[I" ∈ wsX9_closeWeek := by decide +kernel
theorem w_X9_closeWeek_6 : Cond.fieldLink RX9 38 "CoverSheetModel" "before" "[I" ∈ wsX9_closeWeek := by decide +kernel
theorem w_X9_closeWeek_7 : Cond.fieldLink RX9 29 "CoverSheetModel" "fixed" "[I" ∈ wsX9_closeWeek := by decide +kernel
theorem in_X9_closeWeek_X9 : ∀ w ∈ u_ws RX9 TX9 15, w ∈ wsX9_closeWeek := by decide +kernel
set_option maxHeartbeats 4000000 in
set_option maxRecDepth 100000 in
theorem w_X9_closeWeek (l : Launch) (D : va_G) (cT : ClassId × ClassId × ClassId) (sz : Nat) (q : Nat → Nat) (bd th n ro cl fb rn : Nat) (nd sk mo wk fx wi la da we : Nat → Nat) (hwf : wfC n bd fb rn nd sk mo wk fx wi la da we) (hz : ∀ b, b < 4 → bit fb (4 * b) = 0) (hbd : bd + 1 < 4096) : Met l yX9_closeWeek wsX9_closeWeek ({ frames := 2, cells := 0, slots := 0, locals := 44 } : Room) (va_Pc [.ref (q 0)] (wr_R D (TY cT) (mX cT q th n ro cl fb rn nd sk mo wk fx wi la da we) sz)) (wQi (fun (r_ : Int32) (_ : Unit) => r_ = (nI (cl + 1))) D (fun (_ : Unit) => mX cT q 0 n ro (cl + 1) fb rn nd sk mo (upn wk (fun _ => 0) n) (upn fx (fun _ => 0) n) (upn wi (fun _ => 0) n) (upn la (clL wk) n) (upn da (clG wk da) n) (upn we (clE wk we) n)) (va_A (mX cT q th n ro cl fb rn nd sk mo wk fx wi la da we) sz)) 0 0 (va_A (mX cT q th n ro cl fb rn nd sk mo wk fx wi la da we) sz) := by
  refine wr_start (cc := cX9_closeWeek) (maxL := 4) (ret := (some .int)) RX9 ⟨by decide +kernel, rfl⟩ rfl (Nat.le_of_ble_eq_true rfl) ?_
  intro p0 e0 s0 m0 a0 b0 t0 c0 S hr hlocks hin hP hK hA hD hS ls hl
  generalize va_A (mX cT q th n ro cl fb rn nd sk mo wk fx wi la da we) sz = A at hA hD hS ⊢
  have hl : lv_has ls 4 [(0, .ref (q 0))] := hl
  obtain ⟨hn, hcl, hfb, hrn, hnd, hper⟩ := id hwf
  have hwf0 := hwf
  refine lv_aload_n S.1 S.2.1 dX9_closeWeek_0 rfl (lv_at hl 0 rfl) ?_
  refine lv_iconst (v := (nI 0)) S.1 S.2.1 dX9_closeWeek_1 (by decide) ?_
  refine w_put (C := RX9) (T := TX9) (N := 15) (v := .int (nI 0)) (ty := .int) S 0 7 0 in_X9_closeWeek_X9 tyX9 tyX9_ok nmX9 hK hP hD hS rfl rfl (by decide) w_X9_closeWeek_0 rfl (by decide +kernel) rfl rfl (Nat.le_of_ble_eq_true rfl) dX9_closeWeek_2 (fun H locs hP hD hS => ?_)
  have hP : va_P D vwCl (mX cT q 0 n ro cl fb rn nd sk mo wk fx wi la da we) H := hP
  have hD : va_D A (mX cT q 0 n ro cl fb rn nd sk mo wk fx wi la da we) := hD
  refine lv_iconst (v := (nI 0)) S.1 S.2.1 dX9_closeWeek_5 (by decide) ?_
  refine lv_istore_n (lv' := [(1, .int (nI 0)), (0, .ref (q 0))]) S.1 S.2.1 dX9_closeWeek_6 rfl hl (by decide) rfl (fun ls hl => ?_)
  have lp7 : ∀ (fu : Nat) (p : Nat), (p ≤ n) → (n - p) < fu → ∀ (H : Heap) (locs : List Loc), va_P D vwCl (mX cT q 0 n ro cl fb rn nd sk mo (upn wk (fun _ => 0) p) (upn fx (fun _ => 0) p) (upn wi (fun _ => 0) p) (upn la (clL wk) p) (upn da (clG wk da) p) (upn we (clE wk we) p)) H → va_D A (mX cT q 0 n ro cl fb rn nd sk mo (upn wk (fun _ => 0) p) (upn fx (fun _ => 0) p) (upn wi (fun _ => 0) p) (upn la (clL wk) p) (upn da (clG wk da) p) (upn we (clE wk we) p)) → va_S A s0.heap H locs → ∀ ls : Array Slot, lv_has ls 4 [(0, .ref (q 0)), (1, .int (nI p))] → W p0 l e0 ({ frames := 2, cells := 0, slots := 0, locals := 44 } : Room) s0 m0 a0 b0 t0 c0 H locs 0 0 (MQ b0 (wQi (fun (r_ : Int32) (_ : Unit) => r_ = (nI (cl + 1))) D (fun (_ : Unit) => mX cT q 0 n ro (cl + 1) fb rn nd sk mo (upn wk (fun _ => 0) n) (upn fx (fun _ => 0) n) (upn wi (fun _ => 0) n) (upn la (clL wk) n) (upn da (clG wk da) n) (upn we (clE wk we) n)) A) a0 s0 0 0 A) (F0 m0 7 ls []) := by
    intro fu
    induction fu with
    | zero =>
      intro p h2 hm
      exact absurd hm (Nat.not_lt_zero _)
    | succ fu ih7 =>
      intro p h2 hm H locs hP hD hS ls hl
      have hwfp := wf_close hwf hbd p p
      have hpp := hper p
      refine lv_iload_n S.1 S.2.1 dX9_closeWeek_7 rfl (lv_at hl 1 rfl) ?_
      refine lv_aload_n S.1 S.2.1 dX9_closeWeek_8 rfl (lv_at hl 0 rfl) ?_
      refine g_get (C := RX9) (T := TX9) (N := 15) (v := .int (nI n)) S 0 7 1 in_X9_closeWeek_X9 hK hP rfl rfl (by decide) w_X9_closeWeek_1 rfl dX9_closeWeek_9 ?_
      refine n_cge S (tgt := 117) (by omega) dX9_closeWeek_12 (by decide) (fun c12 => ?_) (fun c12 => ?_)
      · have hpn : p = n := by omega
        rw [hpn] at hP hD
        refine lv_aload_n S.1 S.2.1 dX9_closeWeek_117 rfl (lv_at hl 0 rfl) ?_
        refine lv_dup S.1 S.2.1 dX9_closeWeek_118 rfl ?_
        refine g_get (C := RX9) (T := TX9) (N := 15) (v := .int (nI cl)) S 0 7 2 in_X9_closeWeek_X9 hK hP rfl rfl (by decide) w_X9_closeWeek_2 rfl dX9_closeWeek_119 ?_
        refine lv_iconst (v := (nI 1)) S.1 S.2.1 dX9_closeWeek_122 (by decide) ?_
        refine n_add S dX9_closeWeek_123 ?_
        refine w_put (C := RX9) (T := TX9) (N := 15) (v := .int (nI (cl + 1))) (ty := .int) S 0 7 2 in_X9_closeWeek_X9 tyX9 tyX9_ok nmX9 hK hP hD hS rfl rfl (by decide) w_X9_closeWeek_2 rfl (by decide +kernel) rfl rfl (Nat.le_of_ble_eq_true rfl) dX9_closeWeek_124 (fun H locs hP hD hS => ?_)
        have hP : va_P D vwCl (mX cT q 0 n ro (cl + 1) fb rn nd sk mo (upn wk (fun _ => 0) n) (upn fx (fun _ => 0) n) (upn wi (fun _ => 0) n) (upn la (clL wk) n) (upn da (clG wk da) n) (upn we (clE wk we) n)) H := hP
        have hD : va_D A (mX cT q 0 n ro (cl + 1) fb rn nd sk mo (upn wk (fun _ => 0) n) (upn fx (fun _ => 0) n) (upn wi (fun _ => 0) n) (upn la (clL wk) n) (upn da (clG wk da) n) (upn we (clE wk we) n)) := hD
        refine lv_aload_n S.1 S.2.1 dX9_closeWeek_127 rfl (lv_at hl 0 rfl) ?_
        refine g_get (C := RX9) (T := TX9) (N := 15) (v := .int (nI (cl + 1))) S 0 7 2 in_X9_closeWeek_X9 hK hP rfl rfl (by decide) w_X9_closeWeek_2 rfl dX9_closeWeek_128 ?_
        exact wr_iret S (()) hr rfl hlocks (rfl) (hP) (hD) hS dX9_closeWeek_131
      · refine lv_aload_n S.1 S.2.1 dX9_closeWeek_15 rfl (lv_at hl 0 rfl) ?_
        refine lv_iload_n S.1 S.2.1 dX9_closeWeek_16 rfl (lv_at hl 1 rfl) ?_
        refine rd_callV (rest := []) S (r_X9_weekOf l D cT q (bd + 1) 0 n ro cl fb rn nd sk mo (upn wk (fun _ => 0) p) (upn fx (fun _ => 0) p) (upn wi (fun _ => 0) p) (upn la (clL wk) p) (upn da (clG wk da) p) (upn we (clE wk we) p) p (hwfp) (hz) (by omega)) gX9_closeWeek_X9_weekOf rfl pd_X9_weekOf ⟨rfl, rfl, Nat.le_of_ble_eq_true rfl, Nat.le_of_ble_eq_true rfl⟩ hP hK (va_recv hK.1 hP (ci := 7) (q0 := 0) rfl rfl) hl rfl rfl (Nat.le_of_ble_eq_true rfl) ⟨Nat.zero_le _, Nat.zero_le _⟩ dX9_closeWeek_17 ?_
        refine n_top (show (nI ((upn wk (fun _ => 0) p) p)) = (nI (wk p)) from congrArg nI upn_at) ?_
        refine lv_istore_n (lv' := [(2, .int (nI (wk p))), (0, .ref (q 0)), (1, .int (nI p))]) S.1 S.2.1 dX9_closeWeek_20 rfl hl (by decide) rfl (fun ls hl => ?_)
        refine lv_iconst (v := (nI 0)) S.1 S.2.1 dX9_closeWeek_21 (by decide) ?_
        refine lv_istore_n (lv' := [(3, .int (nI 0)), (2, .int (nI (wk p))), (0, .ref (q 0)), (1, .int (nI p))]) S.1 S.2.1 dX9_closeWeek_22 rfl hl (by decide) rfl (fun ls hl => ?_)
        have lp23 : ∀ (fu : Nat) (f1 : Nat → Nat) (d1 : Nat → Nat) (d : Nat), (d ≤ 7) → (f1 = va_up (upn fx (fun _ => 0) p) p (ncl (fx p) d)) → (d1 = va_up (upn da (clG wk da) p) p (rnb (wk p) (da p) d)) → (7 - d) < fu → ∀ (H : Heap) (locs : List Loc), va_P D vwCl (mX cT q 0 n ro cl fb rn nd sk mo (upn wk (fun _ => 0) p) f1 (upn wi (fun _ => 0) p) (upn la (clL wk) p) d1 (upn we (clE wk we) p)) H → va_D A (mX cT q 0 n ro cl fb rn nd sk mo (upn wk (fun _ => 0) p) f1 (upn wi (fun _ => 0) p) (upn la (clL wk) p) d1 (upn we (clE wk we) p)) → va_S A s0.heap H locs → ∀ ls : Array Slot, lv_has ls 4 [(0, .ref (q 0)), (1, .int (nI p)), (2, .int (nI (wk p))), (3, .int (nI d))] → W p0 l e0 ({ frames := 2, cells := 0, slots := 0, locals := 44 } : Room) s0 m0 a0 b0 t0 c0 H locs 0 0 (MQ b0 (wQi (fun (r_ : Int32) (_ : Unit) => r_ = (nI (cl + 1))) D (fun (_ : Unit) => mX cT q 0 n ro (cl + 1) fb rn nd sk mo (upn wk (fun _ => 0) n) (upn fx (fun _ => 0) n) (upn wi (fun _ => 0) n) (upn la (clL wk) n) (upn da (clG wk da) n) (upn we (clE wk we) n)) A) a0 s0 0 0 A) (F0 m0 23 ls []) := by
          intro fu
          induction fu with
          | zero =>
            intro f1 d1 d h3 hf1 hd1 hm
            exact absurd hm (Nat.not_lt_zero _)
          | succ fu ih23 =>
            intro f1 d1 d h3 hf1 hd1 hm H locs hP hD hS ls hl
            refine lv_iload_n S.1 S.2.1 dX9_closeWeek_23 rfl (lv_at hl 3 rfl) ?_
            refine lv_bipush (v := (nI 7)) S.1 S.2.1 dX9_closeWeek_24 (by decide) ?_
            refine n_cge S (tgt := 73) (by omega) dX9_closeWeek_26 (by decide) (fun c26 => ?_) (fun c26 => ?_)
            · refine lv_aload_n S.1 S.2.1 dX9_closeWeek_73 rfl (lv_at hl 0 rfl) ?_
              refine g_get (C := RX9) (T := TX9) (N := 15) (v := .ref (q 8)) S 0 7 12 in_X9_closeWeek_X9 hK hP rfl rfl (by decide) w_X9_closeWeek_3 rfl dX9_closeWeek_74 ?_
              refine lv_iload_n S.1 S.2.1 dX9_closeWeek_77 rfl (lv_at hl 1 rfl) ?_
              refine lv_iload_n S.1 S.2.1 dX9_closeWeek_78 rfl (lv_at hl 2 rfl) ?_
              refine lv_bipush (v := (nI 6)) S.1 S.2.1 dX9_closeWeek_79 (by decide) ?_
              refine rd_callS (rest := [.int (nI p), .ref (q 8)]) S (r_X9_entryOf l D cT (wk p) 6 (by omega) (by omega)) gX9_closeWeek_X9_entryOf rfl pd_X9_entryOf ⟨rfl, rfl, Nat.le_of_ble_eq_true rfl, Nat.le_of_ble_eq_true rfl⟩ (sx_P0 D _) hK hl rfl rfl (Nat.le_of_ble_eq_true rfl) ⟨Nat.zero_le _, Nat.zero_le _⟩ dX9_closeWeek_81 ?_
              refine w_iast S 8 hK hP hD hS rfl (by omega) dX9_closeWeek_84 (fun H locs hP hD hS => ?_)
              have hP : va_P D vwCl (mX cT q 0 n ro cl fb rn nd sk mo (upn wk (fun _ => 0) p) f1 (upn wi (fun _ => 0) p) (va_up (upn la (clL wk) p) p (ent (wk p) 6)) d1 (upn we (clE wk we) p)) H := hP
              have hD : va_D A (mX cT q 0 n ro cl fb rn nd sk mo (upn wk (fun _ => 0) p) f1 (upn wi (fun _ => 0) p) (va_up (upn la (clL wk) p) p (ent (wk p) 6)) d1 (upn we (clE wk we) p)) := hD
              refine lv_aload_n S.1 S.2.1 dX9_closeWeek_85 rfl (lv_at hl 0 rfl) ?_
              refine g_get (C := RX9) (T := TX9) (N := 15) (v := .ref (q 10)) S 0 7 14 in_X9_closeWeek_X9 hK hP rfl rfl (by decide) w_X9_closeWeek_4 rfl dX9_closeWeek_86 ?_
              refine lv_iload_n S.1 S.2.1 dX9_closeWeek_89 rfl (lv_at hl 1 rfl) ?_
              refine lv_dup2_11 S.1 S.2.1 dX9_closeWeek_90 rfl rfl ?_
              refine g_iald S 10 hK hP rfl (by omega) dX9_closeWeek_91 ?_
              refine lv_iload_n S.1 S.2.1 dX9_closeWeek_92 rfl (lv_at hl 2 rfl) ?_
              refine rd_callS (rest := [.int (nI ((upn we (clE wk we) p) p)), .int (nI p), .ref (q 10)]) S (r_X9_weekendOf l D cT (wk p) (by omega)) gX9_closeWeek_X9_weekendOf rfl pd_X9_weekendOf ⟨rfl, rfl, Nat.le_of_ble_eq_true rfl, Nat.le_of_ble_eq_true rfl⟩ (sx_P0 D _) hK hl rfl rfl (Nat.le_of_ble_eq_true rfl) ⟨Nat.zero_le _, Nat.zero_le _⟩ dX9_closeWeek_93 ?_
              refine n_add S dX9_closeWeek_96 ?_
              refine w_iast S 10 hK hP hD hS rfl (by omega) dX9_closeWeek_97 (fun H locs hP hD hS => ?_)
              have hP : va_P D vwCl (mX cT q 0 n ro cl fb rn nd sk mo (upn wk (fun _ => 0) p) f1 (upn wi (fun _ => 0) p) (va_up (upn la (clL wk) p) p (ent (wk p) 6)) d1 (va_up (upn we (clE wk we) p) p (((upn we (clE wk we) p) p) + (shc (wk p) 5 2)))) H := hP
              have hD : va_D A (mX cT q 0 n ro cl fb rn nd sk mo (upn wk (fun _ => 0) p) f1 (upn wi (fun _ => 0) p) (va_up (upn la (clL wk) p) p (ent (wk p) 6)) d1 (va_up (upn we (clE wk we) p) p (((upn we (clE wk we) p) p) + (shc (wk p) 5 2)))) := hD
              refine lv_aload_n S.1 S.2.1 dX9_closeWeek_98 rfl (lv_at hl 0 rfl) ?_
              refine g_get (C := RX9) (T := TX9) (N := 15) (v := .ref (q 7)) S 0 7 11 in_X9_closeWeek_X9 hK hP rfl rfl (by decide) w_X9_closeWeek_5 rfl dX9_closeWeek_99 ?_
              refine lv_iload_n S.1 S.2.1 dX9_closeWeek_102 rfl (lv_at hl 1 rfl) ?_
              refine lv_iconst (v := (nI 0)) S.1 S.2.1 dX9_closeWeek_103 (by decide) ?_
              refine w_iast S 7 hK hP hD hS rfl (by omega) dX9_closeWeek_104 (fun H locs hP hD hS => ?_)
              have hP : va_P D vwCl (mX cT q 0 n ro cl fb rn nd sk mo (upn wk (fun _ => 0) p) f1 (va_up (upn wi (fun _ => 0) p) p 0) (va_up (upn la (clL wk) p) p (ent (wk p) 6)) d1 (va_up (upn we (clE wk we) p) p (((upn we (clE wk we) p) p) + (shc (wk p) 5 2)))) H := hP
              have hD : va_D A (mX cT q 0 n ro cl fb rn nd sk mo (upn wk (fun _ => 0) p) f1 (va_up (upn wi (fun _ => 0) p) p 0) (va_up (upn la (clL wk) p) p (ent (wk p) 6)) d1 (va_up (upn we (clE wk we) p) p (((upn we (clE wk we) p) p) + (shc (wk p) 5 2)))) := hD
              have ed : d = 7 := by omega
              have e1 : d1 = upn da (clG wk da) (p + 1) := by rw [hd1, ed]; exact upn_s
              have e2 : f1 = upn fx (fun _ => 0) (p + 1) := by rw [hf1, ed, ncl_7 (hper p).2.2.2.1]; exact upn_s
              have e3 : va_up (upn la (clL wk) p) p (ent (wk p) 6) = upn la (clL wk) (p + 1) := upn_s
              have e4 : va_up (upn we (clE wk we) p) p (upn we (clE wk we) p p + shc (wk p) 5 2) = upn we (clE wk we) (p + 1) := by rw [show upn we (clE wk we) p p = we p from upn_at]; exact upn_s
              have e5 : va_up (upn wi (fun _ => 0) p) p 0 = upn wi (fun _ => 0) (p + 1) := upn_s
              rw [e1, e2, e3, e4, e5] at hP hD
              have hwfc := wf_close hwf hbd p (p + 1)
              refine lv_aload_n S.1 S.2.1 dX9_closeWeek_105 rfl (lv_at hl 0 rfl) ?_
              refine lv_iload_n S.1 S.2.1 dX9_closeWeek_106 rfl (lv_at hl 1 rfl) ?_
              refine lv_iconst (v := (nI 0)) S.1 S.2.1 dX9_closeWeek_107 (by decide) ?_
              refine wr_callVv (rest := []) S (w_X9_enter l D cT _ q (bd + 1) 0 n ro cl fb rn nd sk mo (upn wk (fun _ => 0) p) (upn fx (fun _ => 0) (p + 1)) (upn wi (fun _ => 0) (p + 1)) (upn la (clL wk) (p + 1)) (upn da (clG wk da) (p + 1)) (upn we (clE wk we) (p + 1)) p 0 (hwfc) (hz) (by omega) (by decide)) gX9_closeWeek_X9_enter rfl pd_X9_enter ⟨rfl, rfl, Nat.le_of_ble_eq_true rfl, Nat.le_of_ble_eq_true rfl⟩ hP hK hD hS hA (va_recv hK.1 hP (ci := 7) (q0 := 0) rfl rfl) hl rfl rfl (Nat.le_of_ble_eq_true rfl) ⟨Nat.zero_le _, Nat.zero_le _⟩ dX9_closeWeek_108 (fun u_ H locs hr_ hP hD hS => ?_)
              have hP : va_P D vwCl (mX cT q 0 n ro cl fb rn nd sk mo (va_up (upn wk (fun _ => 0) p) p 0) (upn fx (fun _ => 0) (p + 1)) (upn wi (fun _ => 0) (p + 1)) (upn la (clL wk) (p + 1)) (upn da (clG wk da) (p + 1)) (upn we (clE wk we) (p + 1))) H := hP
              have hD : va_D A (mX cT q 0 n ro cl fb rn nd sk mo (va_up (upn wk (fun _ => 0) p) p 0) (upn fx (fun _ => 0) (p + 1)) (upn wi (fun _ => 0) (p + 1)) (upn la (clL wk) (p + 1)) (upn da (clG wk da) (p + 1)) (upn we (clE wk we) (p + 1))) := hD
              have e6 : va_up (upn wk (fun _ => 0) p) p 0 = upn wk (fun _ => 0) (p + 1) := upn_s
              rw [e6] at hP hD
              refine lv_iinc (v := (nI (p + 1))) (lv' := [(1, .int (nI (p + 1))), (0, .ref (q 0)), (2, .int (nI (wk p))), (3, .int (nI d))]) S.1 S.2.1 dX9_closeWeek_111 hl (k := 1) rfl (nI_1 _) (by decide) rfl (fun ls hl => ?_)
              refine lv_goto (tgt := 7) S.1 S.2.1 dX9_closeWeek_114 (by decide) ?_
              exact ih7 (p + 1) (by omega) (by omega) _ _ hP hD hS ls (lv_sub hl [1, 0] rfl)
            · refine lv_aload_n S.1 S.2.1 dX9_closeWeek_29 rfl (lv_at hl 0 rfl) ?_
              refine g_get (C := RX9) (T := TX9) (N := 15) (v := .ref (q 9)) S 0 7 13 in_X9_closeWeek_X9 hK hP rfl rfl (by decide) w_X9_closeWeek_6 rfl dX9_closeWeek_30 ?_
              refine lv_iload_n S.1 S.2.1 dX9_closeWeek_33 rfl (lv_at hl 1 rfl) ?_
              refine lv_iload_n S.1 S.2.1 dX9_closeWeek_34 rfl (lv_at hl 2 rfl) ?_
              refine lv_iload_n S.1 S.2.1 dX9_closeWeek_35 rfl (lv_at hl 3 rfl) ?_
              refine rd_callS (rest := [.int (nI p), .ref (q 9)]) S (r_X9_entryOf l D cT (wk p) d (by omega) (by omega)) gX9_closeWeek_X9_entryOf rfl pd_X9_entryOf ⟨rfl, rfl, Nat.le_of_ble_eq_true rfl, Nat.le_of_ble_eq_true rfl⟩ (sx_P0 D _) hK hl rfl rfl (Nat.le_of_ble_eq_true rfl) ⟨Nat.zero_le _, Nat.zero_le _⟩ dX9_closeWeek_36 ?_
              refine n_zle S (tgt := 53) (Nat.lt_trans (ent_lt _ _) (by decide)) dX9_closeWeek_39 (by decide) (fun c39 => ?_) (fun c39 => ?_)
              · refine lv_iconst (v := (nI 0)) S.1 S.2.1 dX9_closeWeek_53 (by decide) ?_
                refine w_iast S 9 hK hP hD hS rfl (by omega) dX9_closeWeek_54 (fun H locs hP hD hS => ?_)
                have hP : va_P D vwCl (mX cT q 0 n ro cl fb rn nd sk mo (upn wk (fun _ => 0) p) f1 (upn wi (fun _ => 0) p) (upn la (clL wk) p) (va_up d1 p 0) (upn we (clE wk we) p)) H := hP
                have hD : va_D A (mX cT q 0 n ro cl fb rn nd sk mo (upn wk (fun _ => 0) p) f1 (upn wi (fun _ => 0) p) (upn la (clL wk) p) (va_up d1 p 0) (upn we (clE wk we) p)) := hD
                refine lv_aload_n S.1 S.2.1 dX9_closeWeek_55 rfl (lv_at hl 0 rfl) ?_
                refine g_get (C := RX9) (T := TX9) (N := 15) (v := .ref (q 6)) S 0 7 10 in_X9_closeWeek_X9 hK hP rfl rfl (by decide) w_X9_closeWeek_7 rfl dX9_closeWeek_56 ?_
                refine lv_bipush (v := (nI 7)) S.1 S.2.1 dX9_closeWeek_59 (by decide) ?_
                refine lv_iload_n S.1 S.2.1 dX9_closeWeek_61 rfl (lv_at hl 1 rfl) ?_
                refine n_mul S dX9_closeWeek_62 ?_
                refine lv_iload_n S.1 S.2.1 dX9_closeWeek_63 rfl (lv_at hl 3 rfl) ?_
                refine n_add S dX9_closeWeek_64 ?_
                refine lv_iconst (v := (-1)) S.1 S.2.1 dX9_closeWeek_65 (by decide) ?_
                refine n_top (show (-1 : Int32) = nI 0 - nI 1 from by decide) ?_
                refine w_iastR S 6 hK hP hD hS rfl (by omega) dX9_closeWeek_66 (fun H locs hP hD hS => ?_)
                have hP : va_P D vwCl (mX cT q 0 n ro cl fb rn nd sk mo (upn wk (fun _ => 0) p) (va_up f1 p (nset (f1 p) d 0)) (upn wi (fun _ => 0) p) (upn la (clL wk) p) (va_up d1 p 0) (upn we (clE wk we) p)) H := by rw [fx_up (fx := f1) (i := p) (d := d) (v := 0) (by omega) (by omega)] at hP; exact hP
                have hD : va_D A (mX cT q 0 n ro cl fb rn nd sk mo (upn wk (fun _ => 0) p) (va_up f1 p (nset (f1 p) d 0)) (upn wi (fun _ => 0) p) (upn la (clL wk) p) (va_up d1 p 0) (upn we (clE wk we) p)) := by rw [fx_up (fx := f1) (i := p) (d := d) (v := 0) (by omega) (by omega)] at hD; exact hD
                refine lv_iinc (v := (nI (d + 1))) (lv' := [(3, .int (nI (d + 1))), (0, .ref (q 0)), (1, .int (nI p)), (2, .int (nI (wk p)))]) S.1 S.2.1 dX9_closeWeek_67 hl (k := 3) rfl (nI_1 _) (by decide) rfl (fun ls hl => ?_)
                refine lv_goto (tgt := 23) S.1 S.2.1 dX9_closeWeek_70 (by decide) ?_
                exact ih23 (va_up f1 p (nset (f1 p) d 0)) (va_up d1 p 0) (d + 1) (by omega) (by rw [hf1, vu_s, vu_vu]; rfl) (by first | (rw [hd1, vu_s, vu_vu, rnb_y c39]) | (rw [hd1, vu_vu, rnb_z c39])) (by omega) _ _ hP hD hS ls (lv_sub hl [1, 2, 3, 0] rfl)
              · refine lv_aload_n S.1 S.2.1 dX9_closeWeek_42 rfl (lv_at hl 0 rfl) ?_
                refine g_get (C := RX9) (T := TX9) (N := 15) (v := .ref (q 9)) S 0 7 13 in_X9_closeWeek_X9 hK hP rfl rfl (by decide) w_X9_closeWeek_6 rfl dX9_closeWeek_43 ?_
                refine lv_iload_n S.1 S.2.1 dX9_closeWeek_46 rfl (lv_at hl 1 rfl) ?_
                refine g_iald S 9 hK hP rfl (by omega) dX9_closeWeek_47 ?_
                refine lv_iconst (v := (nI 1)) S.1 S.2.1 dX9_closeWeek_48 (by decide) ?_
                refine n_add S dX9_closeWeek_49 ?_
                refine lv_goto (tgt := 54) S.1 S.2.1 dX9_closeWeek_50 (by decide) ?_
                refine w_iast S 9 hK hP hD hS rfl (by omega) dX9_closeWeek_54 (fun H locs hP hD hS => ?_)
                have hP : va_P D vwCl (mX cT q 0 n ro cl fb rn nd sk mo (upn wk (fun _ => 0) p) f1 (upn wi (fun _ => 0) p) (upn la (clL wk) p) (va_up d1 p ((d1 p) + 1)) (upn we (clE wk we) p)) H := hP
                have hD : va_D A (mX cT q 0 n ro cl fb rn nd sk mo (upn wk (fun _ => 0) p) f1 (upn wi (fun _ => 0) p) (upn la (clL wk) p) (va_up d1 p ((d1 p) + 1)) (upn we (clE wk we) p)) := hD
                refine lv_aload_n S.1 S.2.1 dX9_closeWeek_55 rfl (lv_at hl 0 rfl) ?_
                refine g_get (C := RX9) (T := TX9) (N := 15) (v := .ref (q 6)) S 0 7 10 in_X9_closeWeek_X9 hK hP rfl rfl (by decide) w_X9_closeWeek_7 rfl dX9_closeWeek_56 ?_
                refine lv_bipush (v := (nI 7)) S.1 S.2.1 dX9_closeWeek_59 (by decide) ?_
                refine lv_iload_n S.1 S.2.1 dX9_closeWeek_61 rfl (lv_at hl 1 rfl) ?_
                refine n_mul S dX9_closeWeek_62 ?_
                refine lv_iload_n S.1 S.2.1 dX9_closeWeek_63 rfl (lv_at hl 3 rfl) ?_
                refine n_add S dX9_closeWeek_64 ?_
                refine lv_iconst (v := (-1)) S.1 S.2.1 dX9_closeWeek_65 (by decide) ?_
                refine n_top (show (-1 : Int32) = nI 0 - nI 1 from by decide) ?_
                refine w_iastR S 6 hK hP hD hS rfl (by omega) dX9_closeWeek_66 (fun H locs hP hD hS => ?_)
                have hP : va_P D vwCl (mX cT q 0 n ro cl fb rn nd sk mo (upn wk (fun _ => 0) p) (va_up f1 p (nset (f1 p) d 0)) (upn wi (fun _ => 0) p) (upn la (clL wk) p) (va_up d1 p ((d1 p) + 1)) (upn we (clE wk we) p)) H := by rw [fx_up (fx := f1) (i := p) (d := d) (v := 0) (by omega) (by omega)] at hP; exact hP
                have hD : va_D A (mX cT q 0 n ro cl fb rn nd sk mo (upn wk (fun _ => 0) p) (va_up f1 p (nset (f1 p) d 0)) (upn wi (fun _ => 0) p) (upn la (clL wk) p) (va_up d1 p ((d1 p) + 1)) (upn we (clE wk we) p)) := by rw [fx_up (fx := f1) (i := p) (d := d) (v := 0) (by omega) (by omega)] at hD; exact hD
                refine lv_iinc (v := (nI (d + 1))) (lv' := [(3, .int (nI (d + 1))), (0, .ref (q 0)), (1, .int (nI p)), (2, .int (nI (wk p)))]) S.1 S.2.1 dX9_closeWeek_67 hl (k := 3) rfl (nI_1 _) (by decide) rfl (fun ls hl => ?_)
                refine lv_goto (tgt := 23) S.1 S.2.1 dX9_closeWeek_70 (by decide) ?_
                exact ih23 (va_up f1 p (nset (f1 p) d 0)) (va_up d1 p ((d1 p) + 1)) (d + 1) (by omega) (by rw [hf1, vu_s, vu_vu]; rfl) (by first | (rw [hd1, vu_s, vu_vu, rnb_y c39]) | (rw [hd1, vu_vu, rnb_z c39])) (by omega) _ _ hP hD hS ls (lv_sub hl [1, 2, 3, 0] rfl)
        exact lp23 _ (upn fx (fun _ => 0) p) (upn da (clG wk da) p) 0 (Nat.zero_le _) (by rw [show ncl (fx p) 0 = upn fx (fun _ => 0) p p from (upn_at (f := fx) (g := fun _ => 0) (m := p)).symm, vu_id]) (by rw [show rnb (wk p) (da p) 0 = upn da (clG wk da) p p from (upn_at (f := da) (g := clG wk da) (m := p)).symm, vu_id]) (Nat.lt_succ_self _) _ _ hP hD hS ls (lv_sub hl [2, 3, 1, 0] rfl)
  exact lp7 _ 0 (Nat.zero_le _) (Nat.lt_succ_self _) _ _ hP hD hS ls (lv_sub hl [1, 0] rfl)

theorem pd_X9_addPerson : yX9_addPerson.cls = RX9 ∧ yX9_addPerson.cls ≠ "java/lang/invoke/MethodHandle" ∧ yX9_addPerson.cls ≠ "java/lang/invoke/VarHandle" ∧ (parseMethodDescriptor yX9_addPerson.desc).map (fun d => d.parameters.length) = some 2 := by decide +kernel
theorem w_X9_addPerson_0 : Cond.fieldLink RX9 44 "CoverSheetModel" "thrown" "I" ∈ wsX9_addPerson := by decide +kernel
theorem in_X9_addPerson_X9 : ∀ w ∈ u_ws RX9 TX9 15, w ∈ wsX9_addPerson := by decide +kernel
set_option maxHeartbeats 4000000 in
set_option maxRecDepth 100000 in
theorem w_X9_addPerson_x0 (l : Launch) (D : va_G) (cT : ClassId × ClassId × ClassId) (sz : Nat) (q : Nat → Nat) (bd th n ro cl fb rn : Nat) (nd sk mo wk fx wi la da we : Nat → Nat) (x zm : Int32) (hwf : wfC n bd fb rn nd sk mo wk fx wi la da we) (hz : ∀ b, b < 4 → bit fb (4 * b) = 0) (hx : x < nI 2 ∨ nI 14 < x) : Met l yX9_addPerson wsX9_addPerson ({ frames := 1, cells := 0, slots := 0, locals := 22 } : Room) (va_Pc [.ref (q 0), .int x, .int zm] (wr_R D (TY cT) (mX cT q th n ro cl fb rn nd sk mo wk fx wi la da we) sz)) (wQi (fun (r_ : Int32) (_ : Unit) => r_ = (nI 0)) D (fun (_ : Unit) => mX cT q 1 n ro cl fb rn nd sk mo wk fx wi la da we) (va_A (mX cT q th n ro cl fb rn nd sk mo wk fx wi la da we) sz)) 0 0 (va_A (mX cT q th n ro cl fb rn nd sk mo wk fx wi la da we) sz) := by
  refine wr_start (cc := cX9_addPerson) (maxL := 4) (ret := (some .int)) RX9 ⟨by decide +kernel, rfl⟩ rfl (Nat.le_of_ble_eq_true rfl) ?_
  intro p0 e0 s0 m0 a0 b0 t0 c0 S hr hlocks hin hP hK hA hD hS ls hl
  generalize va_A (mX cT q th n ro cl fb rn nd sk mo wk fx wi la da we) sz = A at hA hD hS ⊢
  have hl : lv_has ls 4 [(0, .ref (q 0)), (1, .int x), (2, .int zm)] := hl
  obtain ⟨hn, hcl, hfb, hrn, hnd, hper⟩ := id hwf
  refine lv_aload_n S.1 S.2.1 dX9_addPerson_0 rfl (lv_at hl 0 rfl) ?_
  refine lv_iconst (v := (nI 0)) S.1 S.2.1 dX9_addPerson_1 (by decide) ?_
  refine w_put (C := RX9) (T := TX9) (N := 15) (v := .int (nI 0)) (ty := .int) S 0 7 0 in_X9_addPerson_X9 tyX9 tyX9_ok nmX9 hK hP hD hS rfl rfl (by decide) w_X9_addPerson_0 rfl (by decide +kernel) rfl rfl (Nat.le_of_ble_eq_true rfl) dX9_addPerson_2 (fun H locs hP hD hS => ?_)
  have hP : va_P D vwCl (mX cT q 0 n ro cl fb rn nd sk mo wk fx wi la da we) H := hP
  have hD : va_D A (mX cT q 0 n ro cl fb rn nd sk mo wk fx wi la da we) := hD
  refine lv_iload_n S.1 S.2.1 dX9_addPerson_5 rfl (lv_at hl 1 rfl) ?_
  refine lv_iconst (v := (nI 2)) S.1 S.2.1 dX9_addPerson_6 (by decide) ?_
  refine lv_bipush (v := (nI 14)) S.1 S.2.1 dX9_addPerson_7 (by decide) ?_
  refine rd_callS (rest := []) S (r_X9_in l D cT x (nI 2) (nI 14) ) gX9_addPerson_X9_in rfl pd_X9_in ⟨rfl, rfl, Nat.le_of_ble_eq_true rfl, Nat.le_of_ble_eq_true rfl⟩ (sx_P0 D _) hK hl rfl rfl (Nat.le_of_ble_eq_true rfl) ⟨Nat.zero_le _, Nat.zero_le _⟩ dX9_addPerson_9 ?_
  refine n_top (show (nI (inb x (nI 2) (nI 14)).toNat) = (nI false.toNat) from by rw [inb_f hx]) ?_
  refine n_beq S (tgt := 32) dX9_addPerson_12 (by decide) (fun _ => ?_) (fun q => absurd q (by decide))
  refine lv_aload_n S.1 S.2.1 dX9_addPerson_32 rfl (lv_at hl 0 rfl) ?_
  refine lv_iconst (v := (nI 1)) S.1 S.2.1 dX9_addPerson_33 (by decide) ?_
  refine wr_callVi (rest := []) S (w_X9_fails l D cT _ q bd 0 n ro cl fb rn nd sk mo wk fx wi la da we 1 (hwf) (hz)) gX9_addPerson_X9_fails rfl pd_X9_fails ⟨rfl, rfl, Nat.le_of_ble_eq_true rfl, Nat.le_of_ble_eq_true rfl⟩ hP hK hD hS hA (va_recv hK.1 hP (ci := 7) (q0 := 0) rfl rfl) hl rfl rfl (Nat.le_of_ble_eq_true rfl) ⟨Nat.zero_le _, Nat.zero_le _⟩ dX9_addPerson_34 (fun r_ u_ H locs hr_ hP hD hS => ?_)
  subst hr_
  have hP : va_P D vwCl (mX cT q 1 n ro cl fb rn nd sk mo wk fx wi la da we) H := hP
  have hD : va_D A (mX cT q 1 n ro cl fb rn nd sk mo wk fx wi la da we) := hD
  exact wr_iret S (()) hr rfl hlocks (rfl) (hP) (hD) hS dX9_addPerson_37

set_option maxHeartbeats 4000000 in
set_option maxRecDepth 100000 in
theorem w_X9_addPerson_x1 (l : Launch) (D : va_G) (cT : ClassId × ClassId × ClassId) (sz : Nat) (q : Nat → Nat) (bd th n ro cl fb rn : Nat) (nd sk mo wk fx wi la da we : Nat → Nat) (v : Nat) (zm : Int32) (hwf : wfC n bd fb rn nd sk mo wk fx wi la da we) (hz : ∀ b, b < 4 → bit fb (4 * b) = 0) (hv : 2 ≤ v ∧ v ≤ 14 ∧ v % 2 = 1) : Met l yX9_addPerson wsX9_addPerson ({ frames := 1, cells := 0, slots := 0, locals := 22 } : Room) (va_Pc [.ref (q 0), .int (nI v), .int zm] (wr_R D (TY cT) (mX cT q th n ro cl fb rn nd sk mo wk fx wi la da we) sz)) (wQi (fun (r_ : Int32) (_ : Unit) => r_ = (nI 0)) D (fun (_ : Unit) => mX cT q 1 n ro cl fb rn nd sk mo wk fx wi la da we) (va_A (mX cT q th n ro cl fb rn nd sk mo wk fx wi la da we) sz)) 0 0 (va_A (mX cT q th n ro cl fb rn nd sk mo wk fx wi la da we) sz) := by
  refine wr_start (cc := cX9_addPerson) (maxL := 4) (ret := (some .int)) RX9 ⟨by decide +kernel, rfl⟩ rfl (Nat.le_of_ble_eq_true rfl) ?_
  intro p0 e0 s0 m0 a0 b0 t0 c0 S hr hlocks hin hP hK hA hD hS ls hl
  generalize va_A (mX cT q th n ro cl fb rn nd sk mo wk fx wi la da we) sz = A at hA hD hS ⊢
  have hl : lv_has ls 4 [(0, .ref (q 0)), (1, .int (nI v)), (2, .int zm)] := hl
  obtain ⟨hn, hcl, hfb, hrn, hnd, hper⟩ := id hwf
  refine lv_aload_n S.1 S.2.1 dX9_addPerson_0 rfl (lv_at hl 0 rfl) ?_
  refine lv_iconst (v := (nI 0)) S.1 S.2.1 dX9_addPerson_1 (by decide) ?_
  refine w_put (C := RX9) (T := TX9) (N := 15) (v := .int (nI 0)) (ty := .int) S 0 7 0 in_X9_addPerson_X9 tyX9 tyX9_ok nmX9 hK hP hD hS rfl rfl (by decide) w_X9_addPerson_0 rfl (by decide +kernel) rfl rfl (Nat.le_of_ble_eq_true rfl) dX9_addPerson_2 (fun H locs hP hD hS => ?_)
  have hP : va_P D vwCl (mX cT q 0 n ro cl fb rn nd sk mo wk fx wi la da we) H := hP
  have hD : va_D A (mX cT q 0 n ro cl fb rn nd sk mo wk fx wi la da we) := hD
  refine lv_iload_n S.1 S.2.1 dX9_addPerson_5 rfl (lv_at hl 1 rfl) ?_
  refine lv_iconst (v := (nI 2)) S.1 S.2.1 dX9_addPerson_6 (by decide) ?_
  refine lv_bipush (v := (nI 14)) S.1 S.2.1 dX9_addPerson_7 (by decide) ?_
  refine rd_callS (rest := []) S (r_X9_in l D cT (nI v) (nI 2) (nI 14) ) gX9_addPerson_X9_in rfl pd_X9_in ⟨rfl, rfl, Nat.le_of_ble_eq_true rfl, Nat.le_of_ble_eq_true rfl⟩ (sx_P0 D _) hK hl rfl rfl (Nat.le_of_ble_eq_true rfl) ⟨Nat.zero_le _, Nat.zero_le _⟩ dX9_addPerson_9 ?_
  refine n_top (show (nI (inb (nI v) (nI 2) (nI 14)).toNat) = (nI true.toNat) from by rw [inb_t ⟨by omega, by omega, by decide⟩]) ?_
  refine n_beq S (tgt := 32) dX9_addPerson_12 (by decide) (fun q => absurd q (by decide)) (fun _ => ?_)
  refine lv_iload_n S.1 S.2.1 dX9_addPerson_15 rfl (lv_at hl 1 rfl) ?_
  refine lv_iconst (v := (nI 2)) S.1 S.2.1 dX9_addPerson_16 (by decide) ?_
  refine n_rem S (by omega) dX9_addPerson_17 ?_
  refine lv_iconst (v := (nI 1)) S.1 S.2.1 dX9_addPerson_18 (by decide) ?_
  refine n_ceq S (tgt := 32) (by omega) dX9_addPerson_19 (by decide) (fun c19 => ?_) (fun c19 => ?_)
  rotate_left
  · exact absurd hv.2.2 c19
  refine lv_aload_n S.1 S.2.1 dX9_addPerson_32 rfl (lv_at hl 0 rfl) ?_
  refine lv_iconst (v := (nI 1)) S.1 S.2.1 dX9_addPerson_33 (by decide) ?_
  refine wr_callVi (rest := []) S (w_X9_fails l D cT _ q bd 0 n ro cl fb rn nd sk mo wk fx wi la da we 1 (hwf) (hz)) gX9_addPerson_X9_fails rfl pd_X9_fails ⟨rfl, rfl, Nat.le_of_ble_eq_true rfl, Nat.le_of_ble_eq_true rfl⟩ hP hK hD hS hA (va_recv hK.1 hP (ci := 7) (q0 := 0) rfl rfl) hl rfl rfl (Nat.le_of_ble_eq_true rfl) ⟨Nat.zero_le _, Nat.zero_le _⟩ dX9_addPerson_34 (fun r_ u_ H locs hr_ hP hD hS => ?_)
  subst hr_
  have hP : va_P D vwCl (mX cT q 1 n ro cl fb rn nd sk mo wk fx wi la da we) H := hP
  have hD : va_D A (mX cT q 1 n ro cl fb rn nd sk mo wk fx wi la da we) := hD
  exact wr_iret S (()) hr rfl hlocks (rfl) (hP) (hD) hS dX9_addPerson_37

set_option maxHeartbeats 4000000 in
set_option maxRecDepth 100000 in
theorem w_X9_addPerson_x2 (l : Launch) (D : va_G) (cT : ClassId × ClassId × ClassId) (sz : Nat) (q : Nat → Nat) (bd th n ro cl fb rn : Nat) (nd sk mo wk fx wi la da we : Nat → Nat) (v : Nat) (x : Int32) (hwf : wfC n bd fb rn nd sk mo wk fx wi la da we) (hz : ∀ b, b < 4 → bit fb (4 * b) = 0) (hv : 2 ≤ v ∧ v ≤ 14 ∧ v % 2 = 0) (hx : x < nI 0 ∨ nI 7 < x) : Met l yX9_addPerson wsX9_addPerson ({ frames := 1, cells := 0, slots := 0, locals := 22 } : Room) (va_Pc [.ref (q 0), .int (nI v), .int x] (wr_R D (TY cT) (mX cT q th n ro cl fb rn nd sk mo wk fx wi la da we) sz)) (wQi (fun (r_ : Int32) (_ : Unit) => r_ = (nI 0)) D (fun (_ : Unit) => mX cT q 1 n ro cl fb rn nd sk mo wk fx wi la da we) (va_A (mX cT q th n ro cl fb rn nd sk mo wk fx wi la da we) sz)) 0 0 (va_A (mX cT q th n ro cl fb rn nd sk mo wk fx wi la da we) sz) := by
  refine wr_start (cc := cX9_addPerson) (maxL := 4) (ret := (some .int)) RX9 ⟨by decide +kernel, rfl⟩ rfl (Nat.le_of_ble_eq_true rfl) ?_
  intro p0 e0 s0 m0 a0 b0 t0 c0 S hr hlocks hin hP hK hA hD hS ls hl
  generalize va_A (mX cT q th n ro cl fb rn nd sk mo wk fx wi la da we) sz = A at hA hD hS ⊢
  have hl : lv_has ls 4 [(0, .ref (q 0)), (1, .int (nI v)), (2, .int x)] := hl
  obtain ⟨hn, hcl, hfb, hrn, hnd, hper⟩ := id hwf
  refine lv_aload_n S.1 S.2.1 dX9_addPerson_0 rfl (lv_at hl 0 rfl) ?_
  refine lv_iconst (v := (nI 0)) S.1 S.2.1 dX9_addPerson_1 (by decide) ?_
  refine w_put (C := RX9) (T := TX9) (N := 15) (v := .int (nI 0)) (ty := .int) S 0 7 0 in_X9_addPerson_X9 tyX9 tyX9_ok nmX9 hK hP hD hS rfl rfl (by decide) w_X9_addPerson_0 rfl (by decide +kernel) rfl rfl (Nat.le_of_ble_eq_true rfl) dX9_addPerson_2 (fun H locs hP hD hS => ?_)
  have hP : va_P D vwCl (mX cT q 0 n ro cl fb rn nd sk mo wk fx wi la da we) H := hP
  have hD : va_D A (mX cT q 0 n ro cl fb rn nd sk mo wk fx wi la da we) := hD
  refine lv_iload_n S.1 S.2.1 dX9_addPerson_5 rfl (lv_at hl 1 rfl) ?_
  refine lv_iconst (v := (nI 2)) S.1 S.2.1 dX9_addPerson_6 (by decide) ?_
  refine lv_bipush (v := (nI 14)) S.1 S.2.1 dX9_addPerson_7 (by decide) ?_
  refine rd_callS (rest := []) S (r_X9_in l D cT (nI v) (nI 2) (nI 14) ) gX9_addPerson_X9_in rfl pd_X9_in ⟨rfl, rfl, Nat.le_of_ble_eq_true rfl, Nat.le_of_ble_eq_true rfl⟩ (sx_P0 D _) hK hl rfl rfl (Nat.le_of_ble_eq_true rfl) ⟨Nat.zero_le _, Nat.zero_le _⟩ dX9_addPerson_9 ?_
  refine n_top (show (nI (inb (nI v) (nI 2) (nI 14)).toNat) = (nI true.toNat) from by rw [inb_t ⟨by omega, by omega, by decide⟩]) ?_
  refine n_beq S (tgt := 32) dX9_addPerson_12 (by decide) (fun q => absurd q (by decide)) (fun _ => ?_)
  refine lv_iload_n S.1 S.2.1 dX9_addPerson_15 rfl (lv_at hl 1 rfl) ?_
  refine lv_iconst (v := (nI 2)) S.1 S.2.1 dX9_addPerson_16 (by decide) ?_
  refine n_rem S (by omega) dX9_addPerson_17 ?_
  refine lv_iconst (v := (nI 1)) S.1 S.2.1 dX9_addPerson_18 (by decide) ?_
  refine n_ceq S (tgt := 32) (by omega) dX9_addPerson_19 (by decide) (fun c19 => ?_) (fun c19 => ?_)
  · exact absurd c19 (by omega)
  refine lv_iload_n S.1 S.2.1 dX9_addPerson_22 rfl (lv_at hl 2 rfl) ?_
  refine lv_iconst (v := (nI 0)) S.1 S.2.1 dX9_addPerson_23 (by decide) ?_
  refine lv_bipush (v := (nI 7)) S.1 S.2.1 dX9_addPerson_24 (by decide) ?_
  refine rd_callS (rest := []) S (r_X9_in l D cT x (nI 0) (nI 7) ) gX9_addPerson_X9_in rfl pd_X9_in ⟨rfl, rfl, Nat.le_of_ble_eq_true rfl, Nat.le_of_ble_eq_true rfl⟩ (sx_P0 D _) hK hl rfl rfl (Nat.le_of_ble_eq_true rfl) ⟨Nat.zero_le _, Nat.zero_le _⟩ dX9_addPerson_26 ?_
  refine n_top (show (nI (inb x (nI 0) (nI 7)).toNat) = (nI false.toNat) from by rw [inb_f hx]) ?_
  refine n_bne S (tgt := 38) dX9_addPerson_29 (by decide) (fun q => absurd q (by decide)) (fun _ => ?_)
  refine lv_aload_n S.1 S.2.1 dX9_addPerson_32 rfl (lv_at hl 0 rfl) ?_
  refine lv_iconst (v := (nI 1)) S.1 S.2.1 dX9_addPerson_33 (by decide) ?_
  refine wr_callVi (rest := []) S (w_X9_fails l D cT _ q bd 0 n ro cl fb rn nd sk mo wk fx wi la da we 1 (hwf) (hz)) gX9_addPerson_X9_fails rfl pd_X9_fails ⟨rfl, rfl, Nat.le_of_ble_eq_true rfl, Nat.le_of_ble_eq_true rfl⟩ hP hK hD hS hA (va_recv hK.1 hP (ci := 7) (q0 := 0) rfl rfl) hl rfl rfl (Nat.le_of_ble_eq_true rfl) ⟨Nat.zero_le _, Nat.zero_le _⟩ dX9_addPerson_34 (fun r_ u_ H locs hr_ hP hD hS => ?_)
  subst hr_
  have hP : va_P D vwCl (mX cT q 1 n ro cl fb rn nd sk mo wk fx wi la da we) H := hP
  have hD : va_D A (mX cT q 1 n ro cl fb rn nd sk mo wk fx wi la da we) := hD
  exact wr_iret S (()) hr rfl hlocks (rfl) (hP) (hD) hS dX9_addPerson_37

theorem w_X9_addPerson_1 : Cond.fieldLink RX9 47 "CoverSheetModel" "many" "I" ∈ wsX9_addPerson := by decide +kernel
set_option maxHeartbeats 4000000 in
set_option maxRecDepth 100000 in
theorem w_X9_addPerson_x3 (l : Launch) (D : va_G) (cT : ClassId × ClassId × ClassId) (sz : Nat) (q : Nat → Nat) (bd th n ro cl fb rn : Nat) (nd sk mo wk fx wi la da we : Nat → Nat) (v m : Nat) (hwf : wfC n bd fb rn nd sk mo wk fx wi la da we) (hz : ∀ b, b < 4 → bit fb (4 * b) = 0) (hv : 2 ≤ v ∧ v ≤ 14 ∧ v % 2 = 0) (hm : m ≤ 7) (hn8 : n = 8) : Met l yX9_addPerson wsX9_addPerson ({ frames := 1, cells := 0, slots := 0, locals := 22 } : Room) (va_Pc [.ref (q 0), .int (nI v), .int (nI m)] (wr_R D (TY cT) (mX cT q th n ro cl fb rn nd sk mo wk fx wi la da we) sz)) (wQi (fun (r_ : Int32) (_ : Unit) => r_ = (nI 0)) D (fun (_ : Unit) => mX cT q 2 n ro cl fb rn nd sk mo wk fx wi la da we) (va_A (mX cT q th n ro cl fb rn nd sk mo wk fx wi la da we) sz)) 0 0 (va_A (mX cT q th n ro cl fb rn nd sk mo wk fx wi la da we) sz) := by
  refine wr_start (cc := cX9_addPerson) (maxL := 4) (ret := (some .int)) RX9 ⟨by decide +kernel, rfl⟩ rfl (Nat.le_of_ble_eq_true rfl) ?_
  intro p0 e0 s0 m0 a0 b0 t0 c0 S hr hlocks hin hP hK hA hD hS ls hl
  generalize va_A (mX cT q th n ro cl fb rn nd sk mo wk fx wi la da we) sz = A at hA hD hS ⊢
  have hl : lv_has ls 4 [(0, .ref (q 0)), (1, .int (nI v)), (2, .int (nI m))] := hl
  obtain ⟨hn, hcl, hfb, hrn, hnd, hper⟩ := id hwf
  refine lv_aload_n S.1 S.2.1 dX9_addPerson_0 rfl (lv_at hl 0 rfl) ?_
  refine lv_iconst (v := (nI 0)) S.1 S.2.1 dX9_addPerson_1 (by decide) ?_
  refine w_put (C := RX9) (T := TX9) (N := 15) (v := .int (nI 0)) (ty := .int) S 0 7 0 in_X9_addPerson_X9 tyX9 tyX9_ok nmX9 hK hP hD hS rfl rfl (by decide) w_X9_addPerson_0 rfl (by decide +kernel) rfl rfl (Nat.le_of_ble_eq_true rfl) dX9_addPerson_2 (fun H locs hP hD hS => ?_)
  have hP : va_P D vwCl (mX cT q 0 n ro cl fb rn nd sk mo wk fx wi la da we) H := hP
  have hD : va_D A (mX cT q 0 n ro cl fb rn nd sk mo wk fx wi la da we) := hD
  refine lv_iload_n S.1 S.2.1 dX9_addPerson_5 rfl (lv_at hl 1 rfl) ?_
  refine lv_iconst (v := (nI 2)) S.1 S.2.1 dX9_addPerson_6 (by decide) ?_
  refine lv_bipush (v := (nI 14)) S.1 S.2.1 dX9_addPerson_7 (by decide) ?_
  refine rd_callS (rest := []) S (r_X9_in l D cT (nI v) (nI 2) (nI 14) ) gX9_addPerson_X9_in rfl pd_X9_in ⟨rfl, rfl, Nat.le_of_ble_eq_true rfl, Nat.le_of_ble_eq_true rfl⟩ (sx_P0 D _) hK hl rfl rfl (Nat.le_of_ble_eq_true rfl) ⟨Nat.zero_le _, Nat.zero_le _⟩ dX9_addPerson_9 ?_
  refine n_top (show (nI (inb (nI v) (nI 2) (nI 14)).toNat) = (nI true.toNat) from by rw [inb_t ⟨by omega, by omega, by decide⟩]) ?_
  refine n_beq S (tgt := 32) dX9_addPerson_12 (by decide) (fun q => absurd q (by decide)) (fun _ => ?_)
  refine lv_iload_n S.1 S.2.1 dX9_addPerson_15 rfl (lv_at hl 1 rfl) ?_
  refine lv_iconst (v := (nI 2)) S.1 S.2.1 dX9_addPerson_16 (by decide) ?_
  refine n_rem S (by omega) dX9_addPerson_17 ?_
  refine lv_iconst (v := (nI 1)) S.1 S.2.1 dX9_addPerson_18 (by decide) ?_
  refine n_ceq S (tgt := 32) (by omega) dX9_addPerson_19 (by decide) (fun c19 => ?_) (fun c19 => ?_)
  · exact absurd c19 (by omega)
  refine lv_iload_n S.1 S.2.1 dX9_addPerson_22 rfl (lv_at hl 2 rfl) ?_
  refine lv_iconst (v := (nI 0)) S.1 S.2.1 dX9_addPerson_23 (by decide) ?_
  refine lv_bipush (v := (nI 7)) S.1 S.2.1 dX9_addPerson_24 (by decide) ?_
  refine rd_callS (rest := []) S (r_X9_in l D cT (nI m) (nI 0) (nI 7) ) gX9_addPerson_X9_in rfl pd_X9_in ⟨rfl, rfl, Nat.le_of_ble_eq_true rfl, Nat.le_of_ble_eq_true rfl⟩ (sx_P0 D _) hK hl rfl rfl (Nat.le_of_ble_eq_true rfl) ⟨Nat.zero_le _, Nat.zero_le _⟩ dX9_addPerson_26 ?_
  refine n_top (show (nI (inb (nI m) (nI 0) (nI 7)).toNat) = (nI true.toNat) from by rw [inb_t ⟨by omega, by omega, by decide⟩]) ?_
  refine n_bne S (tgt := 38) dX9_addPerson_29 (by decide) (fun _ => ?_) (fun q => absurd q (by decide))
  refine lv_aload_n S.1 S.2.1 dX9_addPerson_38 rfl (lv_at hl 0 rfl) ?_
  refine g_get (C := RX9) (T := TX9) (N := 15) (v := .int (nI n)) S 0 7 1 in_X9_addPerson_X9 hK hP rfl rfl (by decide) w_X9_addPerson_1 rfl dX9_addPerson_39 ?_
  refine lv_bipush (v := (nI 8)) S.1 S.2.1 dX9_addPerson_42 (by decide) ?_
  refine n_cne S (tgt := 53) (by omega) dX9_addPerson_44 (by decide) (fun c44 => ?_) (fun c44 => ?_)
  · exact absurd c44 (by omega)
  refine lv_aload_n S.1 S.2.1 dX9_addPerson_47 rfl (lv_at hl 0 rfl) ?_
  refine lv_iconst (v := (nI 2)) S.1 S.2.1 dX9_addPerson_48 (by decide) ?_
  refine wr_callVi (rest := []) S (w_X9_fails l D cT _ q bd 0 n ro cl fb rn nd sk mo wk fx wi la da we 2 (hwf) (hz)) gX9_addPerson_X9_fails rfl pd_X9_fails ⟨rfl, rfl, Nat.le_of_ble_eq_true rfl, Nat.le_of_ble_eq_true rfl⟩ hP hK hD hS hA (va_recv hK.1 hP (ci := 7) (q0 := 0) rfl rfl) hl rfl rfl (Nat.le_of_ble_eq_true rfl) ⟨Nat.zero_le _, Nat.zero_le _⟩ dX9_addPerson_49 (fun r_ u_ H locs hr_ hP hD hS => ?_)
  subst hr_
  have hP : va_P D vwCl (mX cT q 2 n ro cl fb rn nd sk mo wk fx wi la da we) H := hP
  have hD : va_D A (mX cT q 2 n ro cl fb rn nd sk mo wk fx wi la da we) := hD
  exact wr_iret S (()) hr rfl hlocks (rfl) (hP) (hD) hS dX9_addPerson_52

theorem w_X9_addPerson_2 : Cond.fieldLink RX9 13 "CoverSheetModel" "skills" "[I" ∈ wsX9_addPerson := by decide +kernel
theorem w_X9_addPerson_3 : Cond.fieldLink RX9 17 "CoverSheetModel" "most" "[I" ∈ wsX9_addPerson := by decide +kernel
theorem w_X9_addPerson_4 : Cond.fieldLink RX9 29 "CoverSheetModel" "fixed" "[I" ∈ wsX9_addPerson := by decide +kernel
set_option maxHeartbeats 4000000 in
set_option maxRecDepth 100000 in
theorem w_X9_addPerson (l : Launch) (D : va_G) (cT : ClassId × ClassId × ClassId) (sz : Nat) (q : Nat → Nat) (bd th n ro cl fb rn : Nat) (nd sk mo wk fx wi la da we : Nat → Nat) (v m : Nat) (hwf : wfC n bd fb rn nd sk mo wk fx wi la da we) (hz : ∀ b, b < 4 → bit fb (4 * b) = 0) (hv : 2 ≤ v ∧ v ≤ 14 ∧ v % 2 = 0) (hm : m ≤ 7) (hn8 : n < 8) : Met l yX9_addPerson wsX9_addPerson ({ frames := 1, cells := 0, slots := 0, locals := 22 } : Room) (va_Pc [.ref (q 0), .int (nI v), .int (nI m)] (wr_R D (TY cT) (mX cT q th n ro cl fb rn nd sk mo wk fx wi la da we) sz)) (wQi (fun (r_ : Int32) (_ : Unit) => r_ = (nI n)) D (fun (_ : Unit) => mX cT q 0 (n + 1) ro cl fb rn nd (va_up sk n v) (va_up mo n m) wk (va_up fx n 0) wi la da we) (va_A (mX cT q th n ro cl fb rn nd sk mo wk fx wi la da we) sz)) 0 0 (va_A (mX cT q th n ro cl fb rn nd sk mo wk fx wi la da we) sz) := by
  refine wr_start (cc := cX9_addPerson) (maxL := 4) (ret := (some .int)) RX9 ⟨by decide +kernel, rfl⟩ rfl (Nat.le_of_ble_eq_true rfl) ?_
  intro p0 e0 s0 m0 a0 b0 t0 c0 S hr hlocks hin hP hK hA hD hS ls hl
  generalize va_A (mX cT q th n ro cl fb rn nd sk mo wk fx wi la da we) sz = A at hA hD hS ⊢
  have hl : lv_has ls 4 [(0, .ref (q 0)), (1, .int (nI v)), (2, .int (nI m))] := hl
  obtain ⟨hn, hcl, hfb, hrn, hnd, hper⟩ := id hwf
  refine lv_aload_n S.1 S.2.1 dX9_addPerson_0 rfl (lv_at hl 0 rfl) ?_
  refine lv_iconst (v := (nI 0)) S.1 S.2.1 dX9_addPerson_1 (by decide) ?_
  refine w_put (C := RX9) (T := TX9) (N := 15) (v := .int (nI 0)) (ty := .int) S 0 7 0 in_X9_addPerson_X9 tyX9 tyX9_ok nmX9 hK hP hD hS rfl rfl (by decide) w_X9_addPerson_0 rfl (by decide +kernel) rfl rfl (Nat.le_of_ble_eq_true rfl) dX9_addPerson_2 (fun H locs hP hD hS => ?_)
  have hP : va_P D vwCl (mX cT q 0 n ro cl fb rn nd sk mo wk fx wi la da we) H := hP
  have hD : va_D A (mX cT q 0 n ro cl fb rn nd sk mo wk fx wi la da we) := hD
  refine lv_iload_n S.1 S.2.1 dX9_addPerson_5 rfl (lv_at hl 1 rfl) ?_
  refine lv_iconst (v := (nI 2)) S.1 S.2.1 dX9_addPerson_6 (by decide) ?_
  refine lv_bipush (v := (nI 14)) S.1 S.2.1 dX9_addPerson_7 (by decide) ?_
  refine rd_callS (rest := []) S (r_X9_in l D cT (nI v) (nI 2) (nI 14) ) gX9_addPerson_X9_in rfl pd_X9_in ⟨rfl, rfl, Nat.le_of_ble_eq_true rfl, Nat.le_of_ble_eq_true rfl⟩ (sx_P0 D _) hK hl rfl rfl (Nat.le_of_ble_eq_true rfl) ⟨Nat.zero_le _, Nat.zero_le _⟩ dX9_addPerson_9 ?_
  refine n_top (show (nI (inb (nI v) (nI 2) (nI 14)).toNat) = (nI true.toNat) from by rw [inb_t ⟨by omega, by omega, by decide⟩]) ?_
  refine n_beq S (tgt := 32) dX9_addPerson_12 (by decide) (fun q => absurd q (by decide)) (fun _ => ?_)
  refine lv_iload_n S.1 S.2.1 dX9_addPerson_15 rfl (lv_at hl 1 rfl) ?_
  refine lv_iconst (v := (nI 2)) S.1 S.2.1 dX9_addPerson_16 (by decide) ?_
  refine n_rem S (by omega) dX9_addPerson_17 ?_
  refine lv_iconst (v := (nI 1)) S.1 S.2.1 dX9_addPerson_18 (by decide) ?_
  refine n_ceq S (tgt := 32) (by omega) dX9_addPerson_19 (by decide) (fun c19 => ?_) (fun c19 => ?_)
  · exact absurd c19 (by omega)
  refine lv_iload_n S.1 S.2.1 dX9_addPerson_22 rfl (lv_at hl 2 rfl) ?_
  refine lv_iconst (v := (nI 0)) S.1 S.2.1 dX9_addPerson_23 (by decide) ?_
  refine lv_bipush (v := (nI 7)) S.1 S.2.1 dX9_addPerson_24 (by decide) ?_
  refine rd_callS (rest := []) S (r_X9_in l D cT (nI m) (nI 0) (nI 7) ) gX9_addPerson_X9_in rfl pd_X9_in ⟨rfl, rfl, Nat.le_of_ble_eq_true rfl, Nat.le_of_ble_eq_true rfl⟩ (sx_P0 D _) hK hl rfl rfl (Nat.le_of_ble_eq_true rfl) ⟨Nat.zero_le _, Nat.zero_le _⟩ dX9_addPerson_26 ?_
  refine n_top (show (nI (inb (nI m) (nI 0) (nI 7)).toNat) = (nI true.toNat) from by rw [inb_t ⟨by omega, by omega, by decide⟩]) ?_
  refine n_bne S (tgt := 38) dX9_addPerson_29 (by decide) (fun _ => ?_) (fun q => absurd q (by decide))
  refine lv_aload_n S.1 S.2.1 dX9_addPerson_38 rfl (lv_at hl 0 rfl) ?_
  refine g_get (C := RX9) (T := TX9) (N := 15) (v := .int (nI n)) S 0 7 1 in_X9_addPerson_X9 hK hP rfl rfl (by decide) w_X9_addPerson_1 rfl dX9_addPerson_39 ?_
  refine lv_bipush (v := (nI 8)) S.1 S.2.1 dX9_addPerson_42 (by decide) ?_
  refine n_cne S (tgt := 53) (by omega) dX9_addPerson_44 (by decide) (fun c44 => ?_) (fun c44 => ?_)
  rotate_left
  · exact absurd c44 (by omega)
  refine lv_aload_n S.1 S.2.1 dX9_addPerson_53 rfl (lv_at hl 0 rfl) ?_
  refine g_get (C := RX9) (T := TX9) (N := 15) (v := .ref (q 1)) S 0 7 5 in_X9_addPerson_X9 hK hP rfl rfl (by decide) w_X9_addPerson_2 rfl dX9_addPerson_54 ?_
  refine lv_aload_n S.1 S.2.1 dX9_addPerson_57 rfl (lv_at hl 0 rfl) ?_
  refine g_get (C := RX9) (T := TX9) (N := 15) (v := .int (nI n)) S 0 7 1 in_X9_addPerson_X9 hK hP rfl rfl (by decide) w_X9_addPerson_1 rfl dX9_addPerson_58 ?_
  refine lv_iload_n S.1 S.2.1 dX9_addPerson_61 rfl (lv_at hl 1 rfl) ?_
  refine w_iast S 1 hK hP hD hS rfl (by omega) dX9_addPerson_62 (fun H locs hP hD hS => ?_)
  have hP : va_P D vwCl (mX cT q 0 n ro cl fb rn nd (va_up sk n v) mo wk fx wi la da we) H := hP
  have hD : va_D A (mX cT q 0 n ro cl fb rn nd (va_up sk n v) mo wk fx wi la da we) := hD
  refine lv_aload_n S.1 S.2.1 dX9_addPerson_63 rfl (lv_at hl 0 rfl) ?_
  refine g_get (C := RX9) (T := TX9) (N := 15) (v := .ref (q 2)) S 0 7 6 in_X9_addPerson_X9 hK hP rfl rfl (by decide) w_X9_addPerson_3 rfl dX9_addPerson_64 ?_
  refine lv_aload_n S.1 S.2.1 dX9_addPerson_67 rfl (lv_at hl 0 rfl) ?_
  refine g_get (C := RX9) (T := TX9) (N := 15) (v := .int (nI n)) S 0 7 1 in_X9_addPerson_X9 hK hP rfl rfl (by decide) w_X9_addPerson_1 rfl dX9_addPerson_68 ?_
  refine lv_iload_n S.1 S.2.1 dX9_addPerson_71 rfl (lv_at hl 2 rfl) ?_
  refine w_iast S 2 hK hP hD hS rfl (by omega) dX9_addPerson_72 (fun H locs hP hD hS => ?_)
  have hP : va_P D vwCl (mX cT q 0 n ro cl fb rn nd (va_up sk n v) (va_up mo n m) wk fx wi la da we) H := hP
  have hD : va_D A (mX cT q 0 n ro cl fb rn nd (va_up sk n v) (va_up mo n m) wk fx wi la da we) := hD
  refine lv_iconst (v := (nI 0)) S.1 S.2.1 dX9_addPerson_73 (by decide) ?_
  refine lv_istore_n (lv' := [(3, .int (nI 0)), (0, .ref (q 0)), (1, .int (nI v)), (2, .int (nI m))]) S.1 S.2.1 dX9_addPerson_74 rfl hl (by decide) rfl (fun ls hl => ?_)
  have lp75 : ∀ (fu : Nat) (f1 : Nat → Nat) (d : Nat), (d ≤ 7) → (f1 = va_up fx n (ncl (fx n) d)) → (7 - d) < fu → ∀ (H : Heap) (locs : List Loc), va_P D vwCl (mX cT q 0 n ro cl fb rn nd (va_up sk n v) (va_up mo n m) wk f1 wi la da we) H → va_D A (mX cT q 0 n ro cl fb rn nd (va_up sk n v) (va_up mo n m) wk f1 wi la da we) → va_S A s0.heap H locs → ∀ ls : Array Slot, lv_has ls 4 [(0, .ref (q 0)), (1, .int (nI v)), (2, .int (nI m)), (3, .int (nI d))] → W p0 l e0 ({ frames := 1, cells := 0, slots := 0, locals := 22 } : Room) s0 m0 a0 b0 t0 c0 H locs 0 0 (MQ b0 (wQi (fun (r_ : Int32) (_ : Unit) => r_ = (nI n)) D (fun (_ : Unit) => mX cT q 0 (n + 1) ro cl fb rn nd (va_up sk n v) (va_up mo n m) wk (va_up fx n 0) wi la da we) A) a0 s0 0 0 A) (F0 m0 75 ls []) := by
    intro fu
    induction fu with
    | zero =>
      intro f1 d h3 hf1 hm
      exact absurd hm (Nat.not_lt_zero _)
    | succ fu ih75 =>
      intro f1 d h3 hf1 hm H locs hP hD hS ls hl
      refine lv_iload_n S.1 S.2.1 dX9_addPerson_75 rfl (lv_at hl 3 rfl) ?_
      refine lv_bipush (v := (nI 7)) S.1 S.2.1 dX9_addPerson_76 (by decide) ?_
      refine n_cge S (tgt := 102) (by omega) dX9_addPerson_78 (by decide) (fun c78 => ?_) (fun c78 => ?_)
      · refine lv_aload_n S.1 S.2.1 dX9_addPerson_102 rfl (lv_at hl 0 rfl) ?_
        refine lv_dup S.1 S.2.1 dX9_addPerson_103 rfl ?_
        refine g_get (C := RX9) (T := TX9) (N := 15) (v := .int (nI n)) S 0 7 1 in_X9_addPerson_X9 hK hP rfl rfl (by decide) w_X9_addPerson_1 rfl dX9_addPerson_104 ?_
        refine lv_iconst (v := (nI 1)) S.1 S.2.1 dX9_addPerson_107 (by decide) ?_
        refine n_add S dX9_addPerson_108 ?_
        refine w_put (C := RX9) (T := TX9) (N := 15) (v := .int (nI (n + 1))) (ty := .int) S 0 7 1 in_X9_addPerson_X9 tyX9 tyX9_ok nmX9 hK hP hD hS rfl rfl (by decide) w_X9_addPerson_1 rfl (by decide +kernel) rfl rfl (Nat.le_of_ble_eq_true rfl) dX9_addPerson_109 (fun H locs hP hD hS => ?_)
        have hP : va_P D vwCl (mX cT q 0 (n + 1) ro cl fb rn nd (va_up sk n v) (va_up mo n m) wk f1 wi la da we) H := hP
        have hD : va_D A (mX cT q 0 (n + 1) ro cl fb rn nd (va_up sk n v) (va_up mo n m) wk f1 wi la da we) := hD
        refine lv_aload_n S.1 S.2.1 dX9_addPerson_112 rfl (lv_at hl 0 rfl) ?_
        refine g_get (C := RX9) (T := TX9) (N := 15) (v := .int (nI (n + 1))) S 0 7 1 in_X9_addPerson_X9 hK hP rfl rfl (by decide) w_X9_addPerson_1 rfl dX9_addPerson_113 ?_
        refine lv_iconst (v := (nI 1)) S.1 S.2.1 dX9_addPerson_116 (by decide) ?_
        refine n_sub S (by omega) dX9_addPerson_117 ?_
        exact wr_iret S (()) hr rfl hlocks (by rw [Nat.add_sub_cancel]) (by rw [hf1, show d = 7 by omega, ncl_7 (hper n).2.2.2.1] at hP; exact hP) (by rw [hf1, show d = 7 by omega, ncl_7 (hper n).2.2.2.1] at hD; exact hD) hS dX9_addPerson_118
      · refine lv_aload_n S.1 S.2.1 dX9_addPerson_81 rfl (lv_at hl 0 rfl) ?_
        refine g_get (C := RX9) (T := TX9) (N := 15) (v := .ref (q 6)) S 0 7 10 in_X9_addPerson_X9 hK hP rfl rfl (by decide) w_X9_addPerson_4 rfl dX9_addPerson_82 ?_
        refine lv_bipush (v := (nI 7)) S.1 S.2.1 dX9_addPerson_85 (by decide) ?_
        refine lv_aload_n S.1 S.2.1 dX9_addPerson_87 rfl (lv_at hl 0 rfl) ?_
        refine g_get (C := RX9) (T := TX9) (N := 15) (v := .int (nI n)) S 0 7 1 in_X9_addPerson_X9 hK hP rfl rfl (by decide) w_X9_addPerson_1 rfl dX9_addPerson_88 ?_
        refine n_mul S dX9_addPerson_91 ?_
        refine lv_iload_n S.1 S.2.1 dX9_addPerson_92 rfl (lv_at hl 3 rfl) ?_
        refine n_add S dX9_addPerson_93 ?_
        refine lv_iconst (v := (-1)) S.1 S.2.1 dX9_addPerson_94 (by decide) ?_
        refine n_top (show (-1 : Int32) = nI 0 - nI 1 from by decide) ?_
        refine w_iastR S 6 hK hP hD hS rfl (by omega) dX9_addPerson_95 (fun H locs hP hD hS => ?_)
        have hP : va_P D vwCl (mX cT q 0 n ro cl fb rn nd (va_up sk n v) (va_up mo n m) wk (va_up f1 n (nset (f1 n) d 0)) wi la da we) H := by rw [fx_up (fx := f1) (i := n) (d := d) (v := 0) (by omega) (by omega)] at hP; exact hP
        have hD : va_D A (mX cT q 0 n ro cl fb rn nd (va_up sk n v) (va_up mo n m) wk (va_up f1 n (nset (f1 n) d 0)) wi la da we) := by rw [fx_up (fx := f1) (i := n) (d := d) (v := 0) (by omega) (by omega)] at hD; exact hD
        refine lv_iinc (v := (nI (d + 1))) (lv' := [(3, .int (nI (d + 1))), (0, .ref (q 0)), (1, .int (nI v)), (2, .int (nI m))]) S.1 S.2.1 dX9_addPerson_96 hl (k := 3) rfl (nI_1 _) (by decide) rfl (fun ls hl => ?_)
        refine lv_goto (tgt := 75) S.1 S.2.1 dX9_addPerson_99 (by decide) ?_
        exact ih75 (va_up f1 n (nset (f1 n) d 0)) (d + 1) (by omega) (by rw [hf1, vu_s, vu_vu]; rfl) (by omega) _ _ hP hD hS ls (lv_sub hl [1, 2, 3, 0] rfl)
  exact lp75 _ fx 0 (Nat.zero_le _) (vu_id.symm) (Nat.lt_succ_self _) _ _ hP hD hS ls (lv_sub hl [1, 2, 3, 0] rfl)

