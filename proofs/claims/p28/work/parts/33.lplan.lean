theorem pd_L_plans : yL_plans.cls ≠ "java/lang/invoke/MethodHandle" ∧ yL_plans.cls ≠ "java/lang/invoke/VarHandle" ∧ (parseMethodDescriptor yL_plans.desc).map (fun d => d.parameters.length) = some 7 := by decide +kernel
set_option maxHeartbeats 4000000 in
set_option maxRecDepth 100000 in
theorem w_L_plans (l : Launch) (D : va_G) (cT : ClassId × ClassId × ClassId) (sz : Nat) (z : Nat → Nat) (bd n ro cl fb rn : Nat) (nd sk mo wk fx wi la da we : Nat → Nat) (Wv Bv : Nat → Int32) (hwf : wfC n bd fb rn nd sk mo wk fx wi la da we) (hz : ∀ k, k < 4 → bit fb k = 0) (hwz : ∀ k, n ≤ k → wk k = 0) : Met l yL_plans wsL_plans ({ frames := 2, cells := 0, slots := 0, locals := 64 } : Room) (va_Pc [.ref (z 4), .ref (z 5), .ref (z 0), .ref (z 1), .ref (z 2), .ref (z 3), .ref (z 6)] (wr_R D (TY cT) (lX cT z n ro cl fb rn nd sk mo wk fx wi la da we Wv Bv) sz)) (wQv (fun (u_ : Nat × (Nat → Int32) × (Nat → Int32)) => PRd (cho n fb rn nd sk mo fx wi la da we) n (fun _ => 0) u_.1) D (fun (u_ : Nat × (Nat → Int32) × (Nat → Int32)) => lX cT z n u_.1 cl fb rn nd sk mo ((pls (cho n fb rn nd sk mo fx wi la da we) n (fun _ => 0) u_.1).1) fx wi la da we u_.2.1 u_.2.2) (va_A (lX cT z n ro cl fb rn nd sk mo wk fx wi la da we Wv Bv) sz)) 0 0 (va_A (lX cT z n ro cl fb rn nd sk mo wk fx wi la da we Wv Bv) sz) := by
  refine wr_start (cc := cL_plans) (maxL := 12) (ret := none) RL ⟨by decide +kernel, rfl⟩ rfl (Nat.le_of_ble_eq_true rfl) ?_
  intro p0 e0 s0 m0 a0 b0 t0 c0 S hr hlocks hin hP hK hA hD hS ls hl
  generalize va_A (lX cT z n ro cl fb rn nd sk mo wk fx wi la da we Wv Bv) sz = A at hA hD hS ⊢
  have hl : lv_has ls 12 [(0, .ref (z 4)), (1, .ref (z 5)), (2, .ref (z 0)), (3, .ref (z 1)), (4, .ref (z 2)), (5, .ref (z 3)), (6, .ref (z 6))] := hl
  obtain ⟨hn, hcl, hfb, hrn, hnd, hper⟩ := id hwf
  refine lv_iconst (v := (nI 0)) S.1 S.2.1 dL_plans_0 (by decide) ?_
  refine lv_istore (lv' := [(7, .int (nI 0)), (0, .ref (z 4)), (1, .ref (z 5)), (2, .ref (z 0)), (3, .ref (z 1)), (4, .ref (z 2)), (5, .ref (z 3)), (6, .ref (z 6))]) S.1 S.2.1 dL_plans_1 hl (by decide) rfl (fun ls hl => ?_)
  have lp3 : ∀ (fu : Nat) (w1 : Nat → Nat) (k : Nat), (k ≤ 56) → (w1 = zkf wk k) → (56 - k) < fu → ∀ (H : Heap) (locs : List Loc), va_P D vwCl (lX cT z n ro cl fb rn nd sk mo w1 fx wi la da we Wv Bv) H → va_D A (lX cT z n ro cl fb rn nd sk mo w1 fx wi la da we Wv Bv) → va_S A s0.heap H locs → ∀ ls : Array Slot, lv_has ls 12 [(0, .ref (z 4)), (1, .ref (z 5)), (2, .ref (z 0)), (3, .ref (z 1)), (4, .ref (z 2)), (5, .ref (z 3)), (6, .ref (z 6)), (7, .int (nI k))] → W p0 l e0 ({ frames := 2, cells := 0, slots := 0, locals := 64 } : Room) s0 m0 a0 b0 t0 c0 H locs 0 0 (MQ b0 (wQv (fun (u_ : Nat × (Nat → Int32) × (Nat → Int32)) => PRd (cho n fb rn nd sk mo fx wi la da we) n (fun _ => 0) u_.1) D (fun (u_ : Nat × (Nat → Int32) × (Nat → Int32)) => lX cT z n u_.1 cl fb rn nd sk mo ((pls (cho n fb rn nd sk mo fx wi la da we) n (fun _ => 0) u_.1).1) fx wi la da we u_.2.1 u_.2.2) A) a0 s0 0 0 A) (F0 m0 3 ls []) := by
    intro fu
    induction fu with
    | zero =>
      intro w1 k h2 hw1 hm
      exact absurd hm (Nat.not_lt_zero _)
    | succ fu ih3 =>
      intro w1 k h2 hw1 hm H locs hP hD hS ls hl
      refine lv_iload S.1 S.2.1 dL_plans_3 (lv_at hl 7 rfl) ?_
      refine lv_bipush (v := (nI 56)) S.1 S.2.1 dL_plans_5 (by decide) ?_
      refine n_cge S (tgt := 21) (by omega) dL_plans_7 (by decide) (fun c7 => ?_) (fun c7 => ?_)
      · rw [hw1, show k = 56 by omega, zkf_56 hn hwz] at hP hD
        refine lv_iconst (v := (nI 1)) S.1 S.2.1 dL_plans_21 (by decide) ?_
        refine lv_istore (lv' := [(7, .int (nI 1)), (0, .ref (z 4)), (1, .ref (z 5)), (2, .ref (z 0)), (3, .ref (z 1)), (4, .ref (z 2)), (5, .ref (z 3)), (6, .ref (z 6))]) S.1 S.2.1 dL_plans_22 hl (by decide) rfl (fun ls hl => ?_)
        refine lv_aload S.1 S.2.1 dL_plans_24 (lv_at hl 7 rfl) ?_
        refine lv_iconst (v := (nI 2)) S.1 S.2.1 dL_plans_26 (by decide) ?_
        refine lv_iconst (v := (nI 0)) S.1 S.2.1 dL_plans_27 (by decide) ?_
        refine w_iast S 6 hK hP hD hS rfl (by omega) dL_plans_28 (fun H locs hP hD hS => ?_)
        have hP : va_P D vwCl (lX cT z n 0 cl fb rn nd sk mo (fun _ => 0) fx wi la da we Wv Bv) H := by rw [qf_u2] at hP; exact hP
        have hD : va_D A (lX cT z n 0 cl fb rn nd sk mo (fun _ => 0) fx wi la da we Wv Bv) := by rw [qf_u2] at hD; exact hD
        have lp29 : ∀ (fu : Nat) (b : Bool) (r : Nat) (W1 : Nat → Int32) (B1 : Nat → Int32), (r ≤ 10) → (b = (pls (cho n fb rn nd sk mo fx wi la da we) n (fun _ => 0) r).2) → (∀ k, k < r → (pls (cho n fb rn nd sk mo fx wi la da we) n (fun _ => 0) k).2 = true) → (10 - r) < fu → ∀ (H : Heap) (locs : List Loc), va_P D vwCl (lX cT z n r cl fb rn nd sk mo ((pls (cho n fb rn nd sk mo fx wi la da we) n (fun _ => 0) r).1) fx wi la da we W1 B1) H → va_D A (lX cT z n r cl fb rn nd sk mo ((pls (cho n fb rn nd sk mo fx wi la da we) n (fun _ => 0) r).1) fx wi la da we W1 B1) → va_S A s0.heap H locs → ∀ ls : Array Slot, lv_has ls 12 [(0, .ref (z 4)), (1, .ref (z 5)), (2, .ref (z 0)), (3, .ref (z 1)), (4, .ref (z 2)), (5, .ref (z 3)), (6, .ref (z 6)), (7, .int (nI b.toNat))] → W p0 l e0 ({ frames := 2, cells := 0, slots := 0, locals := 64 } : Room) s0 m0 a0 b0 t0 c0 H locs 0 0 (MQ b0 (wQv (fun (u_ : Nat × (Nat → Int32) × (Nat → Int32)) => PRd (cho n fb rn nd sk mo fx wi la da we) n (fun _ => 0) u_.1) D (fun (u_ : Nat × (Nat → Int32) × (Nat → Int32)) => lX cT z n u_.1 cl fb rn nd sk mo ((pls (cho n fb rn nd sk mo fx wi la da we) n (fun _ => 0) u_.1).1) fx wi la da we u_.2.1 u_.2.2) A) a0 s0 0 0 A) (F0 m0 29 ls []) := by
          intro fu
          induction fu with
          | zero =>
            intro b r W1 B1 hr10 hb hall hm
            exact absurd hm (Nat.not_lt_zero _)
          | succ fu ih29 =>
            intro b r W1 B1 hr10 hb hall hm H locs hP hD hS ls hl
            have hwr : ∀ k, ((pls (cho n fb rn nd sk mo fx wi la da we) n (fun _ => 0) r).1) k < 16384 := pls_lt (fun w p => cho_lt _ _ _ _ _ _ _ _ _ _ _ w p) (fun _ => by decide) r
            have hwfr : wfC n bd fb rn nd sk mo ((pls (cho n fb rn nd sk mo fx wi la da we) n (fun _ => 0) r).1) fx wi la da we := wf_fun hwf hwr
            refine lv_iload S.1 S.2.1 dL_plans_29 (lv_at hl 7 rfl) ?_
            refine n_beq S (tgt := 213) dL_plans_31 (by decide) (fun c31 => ?_) (fun c31 => ?_)
            · exact wr_vret S ((r, W1, B1)) hr hlocks (⟨hall, Or.inl (by rw [← hb, c31]), hr10⟩) (hP) (hD) hS dL_plans_213
            · refine lv_aload S.1 S.2.1 dL_plans_34 (lv_at hl 6 rfl) ?_
              refine lv_iconst (v := (nI 2)) S.1 S.2.1 dL_plans_36 (by decide) ?_
              refine g_iald S 6 hK hP rfl (by omega) dL_plans_37 ?_
              refine n_top (show (nI ((qfn n cl r) 2)) = (nI r) from rfl) ?_
              refine lv_bipush (v := (nI 10)) S.1 S.2.1 dL_plans_38 (by decide) ?_
              refine n_cge S (tgt := 213) (by omega) dL_plans_40 (by decide) (fun c40 => ?_) (fun c40 => ?_)
              · exact wr_vret S ((r, W1, B1)) hr hlocks (⟨hall, Or.inr (by omega), hr10⟩) (hP) (hD) hS dL_plans_213
              · refine lv_iconst (v := (nI 0)) S.1 S.2.1 dL_plans_43 (by decide) ?_
                refine lv_istore (lv' := [(7, .int (nI 0)), (0, .ref (z 4)), (1, .ref (z 5)), (2, .ref (z 0)), (3, .ref (z 1)), (4, .ref (z 2)), (5, .ref (z 3)), (6, .ref (z 6))]) S.1 S.2.1 dL_plans_44 hl (by decide) rfl (fun ls hl => ?_)
                refine lv_iconst (v := (nI 0)) S.1 S.2.1 dL_plans_46 (by decide) ?_
                refine lv_istore (lv' := [(8, .int (nI 0)), (7, .int (nI 0)), (0, .ref (z 4)), (1, .ref (z 5)), (2, .ref (z 0)), (3, .ref (z 1)), (4, .ref (z 2)), (5, .ref (z 3)), (6, .ref (z 6))]) S.1 S.2.1 dL_plans_47 hl (by decide) rfl (fun ls hl => ?_)
                have lp49 : ∀ (fu : Nat) (b1 : Bool) (p : Nat) (W2 : Nat → Int32) (B2 : Nat → Int32), (p ≤ n) → (b1 = (rst (cho n fb rn nd sk mo fx wi la da we) ((pls (cho n fb rn nd sk mo fx wi la da we) n (fun _ => 0) r).1) p).2) → (n - p) < fu → ∀ (H : Heap) (locs : List Loc), va_P D vwCl (lX cT z n r cl fb rn nd sk mo ((rst (cho n fb rn nd sk mo fx wi la da we) ((pls (cho n fb rn nd sk mo fx wi la da we) n (fun _ => 0) r).1) p).1) fx wi la da we W2 B2) H → va_D A (lX cT z n r cl fb rn nd sk mo ((rst (cho n fb rn nd sk mo fx wi la da we) ((pls (cho n fb rn nd sk mo fx wi la da we) n (fun _ => 0) r).1) p).1) fx wi la da we W2 B2) → va_S A s0.heap H locs → ∀ ls : Array Slot, lv_has ls 12 [(0, .ref (z 4)), (1, .ref (z 5)), (2, .ref (z 0)), (3, .ref (z 1)), (4, .ref (z 2)), (5, .ref (z 3)), (6, .ref (z 6)), (7, .int (nI b1.toNat)), (8, .int (nI p))] → W p0 l e0 ({ frames := 2, cells := 0, slots := 0, locals := 64 } : Room) s0 m0 a0 b0 t0 c0 H locs 0 0 (MQ b0 (wQv (fun (u_ : Nat × (Nat → Int32) × (Nat → Int32)) => PRd (cho n fb rn nd sk mo fx wi la da we) n (fun _ => 0) u_.1) D (fun (u_ : Nat × (Nat → Int32) × (Nat → Int32)) => lX cT z n u_.1 cl fb rn nd sk mo ((pls (cho n fb rn nd sk mo fx wi la da we) n (fun _ => 0) u_.1).1) fx wi la da we u_.2.1 u_.2.2) A) a0 s0 0 0 A) (F0 m0 49 ls []) := by
                  intro fu
                  induction fu with
                  | zero =>
                    intro b1 p W2 B2 h3 hb1 hm
                    exact absurd hm (Nat.not_lt_zero _)
                  | succ fu ih49 =>
                    intro b1 p W2 B2 h3 hb1 hm H locs hP hD hS ls hl
                    have hwfp : wfC n bd fb rn nd sk mo ((rst (cho n fb rn nd sk mo fx wi la da we) ((pls (cho n fb rn nd sk mo fx wi la da we) n (fun _ => 0) r).1) p).1) fx wi la da we := wf_fun hwf (rst_lt (fun w p => cho_lt _ _ _ _ _ _ _ _ _ _ _ w p) hwr p)
                    refine lv_iload S.1 S.2.1 dL_plans_49 (lv_at hl 8 rfl) ?_
                    refine lv_aload S.1 S.2.1 dL_plans_51 (lv_at hl 6 rfl) ?_
                    refine lv_iconst (v := (nI 0)) S.1 S.2.1 dL_plans_53 (by decide) ?_
                    refine g_iald S 6 hK hP rfl (by omega) dL_plans_54 ?_
                    refine n_top (show (nI ((qfn n cl r) 0)) = (nI n) from rfl) ?_
                    refine n_cge S (tgt := 202) (by omega) dL_plans_55 (by decide) (fun c55 => ?_) (fun c55 => ?_)
                    · have hpn : p = n := by omega
                      rw [hpn] at hP hD hb1
                      refine lv_aload S.1 S.2.1 dL_plans_202 (lv_at hl 6 rfl) ?_
                      refine lv_iconst (v := (nI 2)) S.1 S.2.1 dL_plans_204 (by decide) ?_
                      refine lv_dup2_11 S.1 S.2.1 dL_plans_205 rfl rfl ?_
                      refine g_iald S 6 hK hP rfl (by omega) dL_plans_206 ?_
                      refine n_top (show (nI ((qfn n cl r) 2)) = (nI r) from rfl) ?_
                      refine lv_iconst (v := (nI 1)) S.1 S.2.1 dL_plans_207 (by decide) ?_
                      refine n_add S dL_plans_208 ?_
                      refine w_iast S 6 hK hP hD hS rfl (by omega) dL_plans_209 (fun H locs hP hD hS => ?_)
                      have hP : va_P D vwCl (lX cT z n (r + 1) cl fb rn nd sk mo ((rst (cho n fb rn nd sk mo fx wi la da we) ((pls (cho n fb rn nd sk mo fx wi la da we) n (fun _ => 0) r).1) n).1) fx wi la da we W2 B2) H := by rw [qf_u2] at hP; exact hP
                      have hD : va_D A (lX cT z n (r + 1) cl fb rn nd sk mo ((rst (cho n fb rn nd sk mo fx wi la da we) ((pls (cho n fb rn nd sk mo fx wi la da we) n (fun _ => 0) r).1) n).1) fx wi la da we W2 B2) := by rw [qf_u2] at hD; exact hD
                      refine lv_goto (tgt := 29) S.1 S.2.1 dL_plans_210 (by decide) ?_
                      exact ih29 b1 (r + 1) W2 B2 (by omega) (hb1) (fun k hk => by rcases Nat.lt_or_eq_of_le (Nat.le_of_lt_succ hk) with q | q; exact hall k q; rw [q, ← hb, c31]) (by omega) _ _ hP hD hS ls (lv_sub hl [0, 1, 2, 3, 4, 5, 6, 7] rfl)
                    · refine lv_iconst (v := (nI 0)) S.1 S.2.1 dL_plans_58 (by decide) ?_
                      refine lv_istore (lv' := [(9, .int (nI 0)), (0, .ref (z 4)), (1, .ref (z 5)), (2, .ref (z 0)), (3, .ref (z 1)), (4, .ref (z 2)), (5, .ref (z 3)), (6, .ref (z 6)), (7, .int (nI b1.toNat)), (8, .int (nI p))]) S.1 S.2.1 dL_plans_59 hl (by decide) rfl (fun ls hl => ?_)
                      refine lv_iconst (v := (nI 0)) S.1 S.2.1 dL_plans_61 (by decide) ?_
                      refine lv_istore (lv' := [(10, .int (nI 0)), (9, .int (nI 0)), (0, .ref (z 4)), (1, .ref (z 5)), (2, .ref (z 0)), (3, .ref (z 1)), (4, .ref (z 2)), (5, .ref (z 3)), (6, .ref (z 6)), (7, .int (nI b1.toNat)), (8, .int (nI p))]) S.1 S.2.1 dL_plans_62 hl (by decide) rfl (fun ls hl => ?_)
                      have lp64 : ∀ (fu : Nat) (lk : Nat) (k : Nat), (k ≤ 28) → (lk = lkf n nd ((rst (cho n fb rn nd sk mo fx wi la da we) ((pls (cho n fb rn nd sk mo fx wi la da we) n (fun _ => 0) r).1) p).1) p k) → (28 - k) < fu → ∀ (H : Heap) (locs : List Loc), va_P D vwCl (lX cT z n r cl fb rn nd sk mo ((rst (cho n fb rn nd sk mo fx wi la da we) ((pls (cho n fb rn nd sk mo fx wi la da we) n (fun _ => 0) r).1) p).1) fx wi la da we W2 B2) H → va_D A (lX cT z n r cl fb rn nd sk mo ((rst (cho n fb rn nd sk mo fx wi la da we) ((pls (cho n fb rn nd sk mo fx wi la da we) n (fun _ => 0) r).1) p).1) fx wi la da we W2 B2) → va_S A s0.heap H locs → ∀ ls : Array Slot, lv_has ls 12 [(0, .ref (z 4)), (1, .ref (z 5)), (2, .ref (z 0)), (3, .ref (z 1)), (4, .ref (z 2)), (5, .ref (z 3)), (6, .ref (z 6)), (7, .int (nI b1.toNat)), (8, .int (nI p)), (9, .int (nI lk)), (10, .int (nI k))] → W p0 l e0 ({ frames := 2, cells := 0, slots := 0, locals := 64 } : Room) s0 m0 a0 b0 t0 c0 H locs 0 0 (MQ b0 (wQv (fun (u_ : Nat × (Nat → Int32) × (Nat → Int32)) => PRd (cho n fb rn nd sk mo fx wi la da we) n (fun _ => 0) u_.1) D (fun (u_ : Nat × (Nat → Int32) × (Nat → Int32)) => lX cT z n u_.1 cl fb rn nd sk mo ((pls (cho n fb rn nd sk mo fx wi la da we) n (fun _ => 0) u_.1).1) fx wi la da we u_.2.1 u_.2.2) A) a0 s0 0 0 A) (F0 m0 64 ls []) := by
                        intro fu
                        induction fu with
                        | zero =>
                          intro lk k h4 hlk hm
                          exact absurd hm (Nat.not_lt_zero _)
                        | succ fu ih64 =>
                          intro lk k h4 hlk hm H locs hP hD hS ls hl
                          have hcg := cg_le n ((rst (cho n fb rn nd sk mo fx wi la da we) ((pls (cho n fb rn nd sk mo fx wi la da we) n (fun _ => 0) r).1) p).1) p (k / 4) (k % 4) 8
                          have hq := hnd k
                          refine lv_iload S.1 S.2.1 dL_plans_64 (lv_at hl 10 rfl) ?_
                          refine lv_bipush (v := (nI 28)) S.1 S.2.1 dL_plans_66 (by decide) ?_
                          refine n_cge S (tgt := 121) (by omega) dL_plans_68 (by decide) (fun c68 => ?_) (fun c68 => ?_)
                          · have hlk8 : lk = fl n nd ((rst (cho n fb rn nd sk mo fx wi la da we) ((pls (cho n fb rn nd sk mo fx wi la da we) n (fun _ => 0) r).1) p).1) p 21 := by rw [hlk, show k = 28 by omega]; exact lk_28
                            have hcho := cho_L hwfp p
                            have hlkl : lk < 2 ^ 28 := by rw [hlk8]; exact fl_lt _ _ _ _ _ (by decide)
                            refine lv_iload S.1 S.2.1 dL_plans_121 (lv_at hl 8 rfl) ?_
                            refine lv_iload S.1 S.2.1 dL_plans_123 (lv_at hl 9 rfl) ?_
                            refine lv_aload_n S.1 S.2.1 dL_plans_125 rfl (lv_at hl 0 rfl) ?_
                            refine lv_aload_n S.1 S.2.1 dL_plans_126 rfl (lv_at hl 1 rfl) ?_
                            refine lv_aload_n S.1 S.2.1 dL_plans_127 rfl (lv_at hl 2 rfl) ?_
                            refine lv_aload S.1 S.2.1 dL_plans_128 (lv_at hl 4 rfl) ?_
                            refine lv_aload S.1 S.2.1 dL_plans_130 (lv_at hl 5 rfl) ?_
                            refine wr_callSi (rest := []) S (w_L_weeks l D cT _ z bd n r cl fb rn nd sk mo ((rst (cho n fb rn nd sk mo fx wi la da we) ((pls (cho n fb rn nd sk mo fx wi la da we) n (fun _ => 0) r).1) p).1) fx wi la da we W2 B2 p lk (hwfp) (hz) (by omega) (hlkl)) gL_plans_L_weeks rfl pd_L_weeks ⟨rfl, rfl, Nat.le_of_ble_eq_true rfl, Nat.le_of_ble_eq_true rfl⟩ hP hK hD hS hA hl rfl rfl (Nat.le_of_ble_eq_true rfl) ⟨Nat.zero_le _, Nat.zero_le _⟩ dL_plans_132 (fun r_ u_ H locs hr_ hP hD hS => ?_)
                            obtain ⟨hr1_, hb_⟩ := hr_
                            rw [hlk8, hcho] at hb_
                            have hP : va_P D vwCl (lX cT z n r cl fb rn nd sk mo ((rst (cho n fb rn nd sk mo fx wi la da we) ((pls (cho n fb rn nd sk mo fx wi la da we) n (fun _ => 0) r).1) p).1) fx wi la da we u_.1 u_.2) H := hP
                            have hD : va_D A (lX cT z n r cl fb rn nd sk mo ((rst (cho n fb rn nd sk mo fx wi la da we) ((pls (cho n fb rn nd sk mo fx wi la da we) n (fun _ => 0) r).1) p).1) fx wi la da we u_.1 u_.2) := hD
                            refine lv_istore (lv' := [(10, .int r_), (0, .ref (z 4)), (1, .ref (z 5)), (2, .ref (z 0)), (3, .ref (z 1)), (4, .ref (z 2)), (5, .ref (z 3)), (6, .ref (z 6)), (7, .int (nI b1.toNat)), (8, .int (nI p)), (9, .int (nI lk))]) S.1 S.2.1 dL_plans_135 hl (by decide) rfl (fun ls hl => ?_)
                            refine lv_iconst (v := (nI 0)) S.1 S.2.1 dL_plans_137 (by decide) ?_
                            refine lv_istore (lv' := [(11, .int (nI 0)), (10, .int r_), (0, .ref (z 4)), (1, .ref (z 5)), (2, .ref (z 0)), (3, .ref (z 1)), (4, .ref (z 2)), (5, .ref (z 3)), (6, .ref (z 6)), (7, .int (nI b1.toNat)), (8, .int (nI p)), (9, .int (nI lk))]) S.1 S.2.1 dL_plans_138 hl (by decide) rfl (fun ls hl => ?_)
                            have lp140 : ∀ (fu : Nat) (b2 : Bool) (w2 : Nat → Nat) (d : Nat), (d ≤ 7) → (w2 = va_up ((rst (cho n fb rn nd sk mo fx wi la da we) ((pls (cho n fb rn nd sk mo fx wi la da we) n (fun _ => 0) r).1) p).1) p (mxw (((rst (cho n fb rn nd sk mo fx wi la da we) ((pls (cho n fb rn nd sk mo fx wi la da we) n (fun _ => 0) r).1) p).1) p) (cho n fb rn nd sk mo fx wi la da we ((rst (cho n fb rn nd sk mo fx wi la da we) ((pls (cho n fb rn nd sk mo fx wi la da we) n (fun _ => 0) r).1) p).1) p) d)) → (b2 = (b1 || mvd (((rst (cho n fb rn nd sk mo fx wi la da we) ((pls (cho n fb rn nd sk mo fx wi la da we) n (fun _ => 0) r).1) p).1) p) (cho n fb rn nd sk mo fx wi la da we ((rst (cho n fb rn nd sk mo fx wi la da we) ((pls (cho n fb rn nd sk mo fx wi la da we) n (fun _ => 0) r).1) p).1) p) d)) → (7 - d) < fu → ∀ (H : Heap) (locs : List Loc), va_P D vwCl (lX cT z n r cl fb rn nd sk mo w2 fx wi la da we u_.1 u_.2) H → va_D A (lX cT z n r cl fb rn nd sk mo w2 fx wi la da we u_.1 u_.2) → va_S A s0.heap H locs → ∀ ls : Array Slot, lv_has ls 12 [(0, .ref (z 4)), (1, .ref (z 5)), (2, .ref (z 0)), (3, .ref (z 1)), (4, .ref (z 2)), (5, .ref (z 3)), (6, .ref (z 6)), (7, .int (nI b2.toNat)), (8, .int (nI p)), (9, .int (nI lk)), (10, .int r_), (11, .int (nI d))] → W p0 l e0 ({ frames := 2, cells := 0, slots := 0, locals := 64 } : Room) s0 m0 a0 b0 t0 c0 H locs 0 0 (MQ b0 (wQv (fun (u_ : Nat × (Nat → Int32) × (Nat → Int32)) => PRd (cho n fb rn nd sk mo fx wi la da we) n (fun _ => 0) u_.1) D (fun (u_ : Nat × (Nat → Int32) × (Nat → Int32)) => lX cT z n u_.1 cl fb rn nd sk mo ((pls (cho n fb rn nd sk mo fx wi la da we) n (fun _ => 0) u_.1).1) fx wi la da we u_.2.1 u_.2.2) A) a0 s0 0 0 A) (F0 m0 140 ls []) := by
                              intro fu
                              induction fu with
                              | zero =>
                                intro b2 w2 d h7 hw2 hb2 hm
                                exact absurd hm (Nat.not_lt_zero _)
                              | succ fu ih140 =>
                                intro b2 w2 d h7 hw2 hb2 hm H locs hP hD hS ls hl
                                refine lv_iload S.1 S.2.1 dL_plans_140 (lv_at hl 11 rfl) ?_
                                refine lv_bipush (v := (nI 7)) S.1 S.2.1 dL_plans_142 (by decide) ?_
                                refine n_cge S (tgt := 196) (by omega) dL_plans_144 (by decide) (fun c144 => ?_) (fun c144 => ?_)
                                · have ed : d = 7 := by omega
                                  have ew : w2 = (rst (cho n fb rn nd sk mo fx wi la da we) ((pls (cho n fb rn nd sk mo fx wi la da we) n (fun _ => 0) r).1) (p + 1)).1 := by rw [hw2, ed, mxw_7 (hwfp.2.2.2.2.2 p).2.2.1 (cho_lt _ _ _ _ _ _ _ _ _ _ _ _ _)]; rfl
                                  rw [ew] at hP hD
                                  refine lv_iinc (v := (nI (p + 1))) (lv' := [(8, .int (nI (p + 1))), (0, .ref (z 4)), (1, .ref (z 5)), (2, .ref (z 0)), (3, .ref (z 1)), (4, .ref (z 2)), (5, .ref (z 3)), (6, .ref (z 6)), (7, .int (nI b2.toNat)), (9, .int (nI lk)), (10, .int r_), (11, .int (nI d))]) S.1 S.2.1 dL_plans_196 hl (k := 8) rfl (nI_1 _) (by decide) rfl (fun ls hl => ?_)
                                  refine lv_goto (tgt := 49) S.1 S.2.1 dL_plans_199 (by decide) ?_
                                  exact ih49 b2 (p + 1) u_.1 u_.2 (by omega) (by rw [hb2, ed, mvd_7 (hwfp.2.2.2.2.2 p).2.2.1 (cho_lt _ _ _ _ _ _ _ _ _ _ _ _ _), hb1]; rfl) (by omega) _ _ hP hD hS ls (lv_sub hl [1, 2, 3, 4, 5, 6, 7, 8, 0] rfl)
                                · refine lv_iload S.1 S.2.1 dL_plans_147 (lv_at hl 7 rfl) ?_
                                  refine n_bne S (tgt := 169) dL_plans_149 (by decide) (fun c149 => ?_) (fun c149 => ?_)
                                  · refine lv_iconst (v := (nI 1)) S.1 S.2.1 dL_plans_169 (by decide) ?_
                                    refine lv_goto (tgt := 174) S.1 S.2.1 dL_plans_170 (by decide) ?_
                                    refine lv_istore (lv' := [(7, .int (nI 1)), (0, .ref (z 4)), (1, .ref (z 5)), (2, .ref (z 0)), (3, .ref (z 1)), (4, .ref (z 2)), (5, .ref (z 3)), (6, .ref (z 6)), (8, .int (nI p)), (9, .int (nI lk)), (10, .int r_), (11, .int (nI d))]) S.1 S.2.1 dL_plans_174 hl (by decide) rfl (fun ls hl => ?_)
                                    refine lv_aload_n S.1 S.2.1 dL_plans_176 rfl (lv_at hl 4 rfl) ?_
                                    refine lv_bipush (v := (nI 7)) S.1 S.2.1 dL_plans_177 (by decide) ?_
                                    refine lv_iload S.1 S.2.1 dL_plans_179 (lv_at hl 8 rfl) ?_
                                    refine n_mul S dL_plans_181 ?_
                                    refine lv_iload S.1 S.2.1 dL_plans_182 (lv_at hl 11 rfl) ?_
                                    refine n_add S dL_plans_184 ?_
                                    refine lv_aload_n S.1 S.2.1 dL_plans_185 rfl (lv_at hl 2 rfl) ?_
                                    refine lv_iload S.1 S.2.1 dL_plans_186 (lv_at hl 11 rfl) ?_
                                    refine g_ialdR S 5 hK hP rfl (by omega) dL_plans_188 ?_
                                    refine n_top (show (u_.2 d) = (nI (ent (cho n fb rn nd sk mo fx wi la da we ((rst (cho n fb rn nd sk mo fx wi la da we) ((pls (cho n fb rn nd sk mo fx wi la da we) n (fun _ => 0) r).1) p).1) p) d)) from hb_ d (by omega)) ?_
                                    refine w_iast S 1 hK hP hD hS rfl (by omega) dL_plans_189 (fun H locs hP hD hS => ?_)
                                    have hP : va_P D vwCl (lX cT z n r cl fb rn nd sk mo (va_up w2 p (wset (w2 p) d (ent (cho n fb rn nd sk mo fx wi la da we ((rst (cho n fb rn nd sk mo fx wi la da we) ((pls (cho n fb rn nd sk mo fx wi la da we) n (fun _ => 0) r).1) p).1) p) d))) fx wi la da we u_.1 u_.2) H := by rw [en_up (wk := w2) (i := p) (d := d) (v := ent (cho n fb rn nd sk mo fx wi la da we ((rst (cho n fb rn nd sk mo fx wi la da we) ((pls (cho n fb rn nd sk mo fx wi la da we) n (fun _ => 0) r).1) p).1) p) d) (by omega) (by first | omega | exact ent_lt _ _)] at hP; exact hP
                                    have hD : va_D A (lX cT z n r cl fb rn nd sk mo (va_up w2 p (wset (w2 p) d (ent (cho n fb rn nd sk mo fx wi la da we ((rst (cho n fb rn nd sk mo fx wi la da we) ((pls (cho n fb rn nd sk mo fx wi la da we) n (fun _ => 0) r).1) p).1) p) d))) fx wi la da we u_.1 u_.2) := by rw [en_up (wk := w2) (i := p) (d := d) (v := ent (cho n fb rn nd sk mo fx wi la da we ((rst (cho n fb rn nd sk mo fx wi la da we) ((pls (cho n fb rn nd sk mo fx wi la da we) n (fun _ => 0) r).1) p).1) p) d) (by omega) (by first | omega | exact ent_lt _ _)] at hD; exact hD
                                    refine lv_iinc (v := (nI (d + 1))) (lv' := [(11, .int (nI (d + 1))), (7, .int (nI 1)), (0, .ref (z 4)), (1, .ref (z 5)), (2, .ref (z 0)), (3, .ref (z 1)), (4, .ref (z 2)), (5, .ref (z 3)), (6, .ref (z 6)), (8, .int (nI p)), (9, .int (nI lk)), (10, .int r_)]) S.1 S.2.1 dL_plans_190 hl (k := 11) rfl (nI_1 _) (by decide) rfl (fun ls hl => ?_)
                                    refine lv_goto (tgt := 140) S.1 S.2.1 dL_plans_193 (by decide) ?_
                                    exact ih140 true (va_up w2 p (wset (w2 p) d (ent (cho n fb rn nd sk mo fx wi la da we ((rst (cho n fb rn nd sk mo fx wi la da we) ((pls (cho n fb rn nd sk mo fx wi la da we) n (fun _ => 0) r).1) p).1) p) d))) (d + 1) (by omega) (by rw [hw2, vu_s, vu_vu]; rfl) (mvd_y (Or.inl (by rw [← hb2]; exact c149))) (by omega) _ _ hP hD hS ls (lv_sub hl [2, 3, 4, 5, 6, 7, 8, 1, 9, 10, 11, 0] rfl)
                                  · refine lv_aload_n S.1 S.2.1 dL_plans_152 rfl (lv_at hl 3 rfl) ?_
                                    refine lv_bipush (v := (nI 7)) S.1 S.2.1 dL_plans_153 (by decide) ?_
                                    refine lv_iload S.1 S.2.1 dL_plans_155 (lv_at hl 8 rfl) ?_
                                    refine n_mul S dL_plans_157 ?_
                                    refine lv_iload S.1 S.2.1 dL_plans_158 (lv_at hl 11 rfl) ?_
                                    refine n_add S dL_plans_160 ?_
                                    refine g_iald S 1 hK hP rfl (by omega) dL_plans_161 ?_
                                    refine n_top (show (nI ((enf w2) ((7 * p) + d))) = (nI (ent (((rst (cho n fb rn nd sk mo fx wi la da we) ((pls (cho n fb rn nd sk mo fx wi la da we) n (fun _ => 0) r).1) p).1) p) d)) from congrArg nI (by rw [en_at (by omega), hw2, vu_s]; exact mxw_at (by omega))) ?_
                                    refine lv_aload_n S.1 S.2.1 dL_plans_162 rfl (lv_at hl 1 rfl) ?_
                                    refine lv_iload S.1 S.2.1 dL_plans_163 (lv_at hl 11 rfl) ?_
                                    refine g_ialdR S 5 hK hP rfl (by omega) dL_plans_165 ?_
                                    refine n_top (show (u_.2 d) = (nI (ent (cho n fb rn nd sk mo fx wi la da we ((rst (cho n fb rn nd sk mo fx wi la da we) ((pls (cho n fb rn nd sk mo fx wi la da we) n (fun _ => 0) r).1) p).1) p) d)) from hb_ d (by omega)) ?_
                                    refine n_ceq S (tgt := 173) (⟨Nat.lt_trans (ent_lt _ _) (by decide), Nat.lt_trans (ent_lt _ _) (by decide)⟩) dL_plans_166 (by decide) (fun c166 => ?_) (fun c166 => ?_)
                                    · refine lv_iconst (v := (nI 0)) S.1 S.2.1 dL_plans_173 (by decide) ?_
                                      refine lv_istore (lv' := [(7, .int (nI 0)), (0, .ref (z 4)), (1, .ref (z 5)), (2, .ref (z 0)), (3, .ref (z 1)), (4, .ref (z 2)), (5, .ref (z 3)), (6, .ref (z 6)), (8, .int (nI p)), (9, .int (nI lk)), (10, .int r_), (11, .int (nI d))]) S.1 S.2.1 dL_plans_174 hl (by decide) rfl (fun ls hl => ?_)
                                      refine lv_aload_n S.1 S.2.1 dL_plans_176 rfl (lv_at hl 4 rfl) ?_
                                      refine lv_bipush (v := (nI 7)) S.1 S.2.1 dL_plans_177 (by decide) ?_
                                      refine lv_iload S.1 S.2.1 dL_plans_179 (lv_at hl 8 rfl) ?_
                                      refine n_mul S dL_plans_181 ?_
                                      refine lv_iload S.1 S.2.1 dL_plans_182 (lv_at hl 11 rfl) ?_
                                      refine n_add S dL_plans_184 ?_
                                      refine lv_aload_n S.1 S.2.1 dL_plans_185 rfl (lv_at hl 2 rfl) ?_
                                      refine lv_iload S.1 S.2.1 dL_plans_186 (lv_at hl 11 rfl) ?_
                                      refine g_ialdR S 5 hK hP rfl (by omega) dL_plans_188 ?_
                                      refine n_top (show (u_.2 d) = (nI (ent (cho n fb rn nd sk mo fx wi la da we ((rst (cho n fb rn nd sk mo fx wi la da we) ((pls (cho n fb rn nd sk mo fx wi la da we) n (fun _ => 0) r).1) p).1) p) d)) from hb_ d (by omega)) ?_
                                      refine w_iast S 1 hK hP hD hS rfl (by omega) dL_plans_189 (fun H locs hP hD hS => ?_)
                                      have hP : va_P D vwCl (lX cT z n r cl fb rn nd sk mo (va_up w2 p (wset (w2 p) d (ent (cho n fb rn nd sk mo fx wi la da we ((rst (cho n fb rn nd sk mo fx wi la da we) ((pls (cho n fb rn nd sk mo fx wi la da we) n (fun _ => 0) r).1) p).1) p) d))) fx wi la da we u_.1 u_.2) H := by rw [en_up (wk := w2) (i := p) (d := d) (v := ent (cho n fb rn nd sk mo fx wi la da we ((rst (cho n fb rn nd sk mo fx wi la da we) ((pls (cho n fb rn nd sk mo fx wi la da we) n (fun _ => 0) r).1) p).1) p) d) (by omega) (by first | omega | exact ent_lt _ _)] at hP; exact hP
                                      have hD : va_D A (lX cT z n r cl fb rn nd sk mo (va_up w2 p (wset (w2 p) d (ent (cho n fb rn nd sk mo fx wi la da we ((rst (cho n fb rn nd sk mo fx wi la da we) ((pls (cho n fb rn nd sk mo fx wi la da we) n (fun _ => 0) r).1) p).1) p) d))) fx wi la da we u_.1 u_.2) := by rw [en_up (wk := w2) (i := p) (d := d) (v := ent (cho n fb rn nd sk mo fx wi la da we ((rst (cho n fb rn nd sk mo fx wi la da we) ((pls (cho n fb rn nd sk mo fx wi la da we) n (fun _ => 0) r).1) p).1) p) d) (by omega) (by first | omega | exact ent_lt _ _)] at hD; exact hD
                                      refine lv_iinc (v := (nI (d + 1))) (lv' := [(11, .int (nI (d + 1))), (7, .int (nI 0)), (0, .ref (z 4)), (1, .ref (z 5)), (2, .ref (z 0)), (3, .ref (z 1)), (4, .ref (z 2)), (5, .ref (z 3)), (6, .ref (z 6)), (8, .int (nI p)), (9, .int (nI lk)), (10, .int r_)]) S.1 S.2.1 dL_plans_190 hl (k := 11) rfl (nI_1 _) (by decide) rfl (fun ls hl => ?_)
                                      refine lv_goto (tgt := 140) S.1 S.2.1 dL_plans_193 (by decide) ?_
                                      exact ih140 false (va_up w2 p (wset (w2 p) d (ent (cho n fb rn nd sk mo fx wi la da we ((rst (cho n fb rn nd sk mo fx wi la da we) ((pls (cho n fb rn nd sk mo fx wi la da we) n (fun _ => 0) r).1) p).1) p) d))) (d + 1) (by omega) (by rw [hw2, vu_s, vu_vu]; rfl) (mvd_n (by rw [← hb2]; exact c149) c166) (by omega) _ _ hP hD hS ls (lv_sub hl [2, 3, 4, 5, 6, 7, 8, 1, 9, 10, 11, 0] rfl)
                                    · refine lv_iconst (v := (nI 1)) S.1 S.2.1 dL_plans_169 (by decide) ?_
                                      refine lv_goto (tgt := 174) S.1 S.2.1 dL_plans_170 (by decide) ?_
                                      refine lv_istore (lv' := [(7, .int (nI 1)), (0, .ref (z 4)), (1, .ref (z 5)), (2, .ref (z 0)), (3, .ref (z 1)), (4, .ref (z 2)), (5, .ref (z 3)), (6, .ref (z 6)), (8, .int (nI p)), (9, .int (nI lk)), (10, .int r_), (11, .int (nI d))]) S.1 S.2.1 dL_plans_174 hl (by decide) rfl (fun ls hl => ?_)
                                      refine lv_aload_n S.1 S.2.1 dL_plans_176 rfl (lv_at hl 4 rfl) ?_
                                      refine lv_bipush (v := (nI 7)) S.1 S.2.1 dL_plans_177 (by decide) ?_
                                      refine lv_iload S.1 S.2.1 dL_plans_179 (lv_at hl 8 rfl) ?_
                                      refine n_mul S dL_plans_181 ?_
                                      refine lv_iload S.1 S.2.1 dL_plans_182 (lv_at hl 11 rfl) ?_
                                      refine n_add S dL_plans_184 ?_
                                      refine lv_aload_n S.1 S.2.1 dL_plans_185 rfl (lv_at hl 2 rfl) ?_
                                      refine lv_iload S.1 S.2.1 dL_plans_186 (lv_at hl 11 rfl) ?_
                                      refine g_ialdR S 5 hK hP rfl (by omega) dL_plans_188 ?_
                                      refine n_top (show (u_.2 d) = (nI (ent (cho n fb rn nd sk mo fx wi la da we ((rst (cho n fb rn nd sk mo fx wi la da we) ((pls (cho n fb rn nd sk mo fx wi la da we) n (fun _ => 0) r).1) p).1) p) d)) from hb_ d (by omega)) ?_
                                      refine w_iast S 1 hK hP hD hS rfl (by omega) dL_plans_189 (fun H locs hP hD hS => ?_)
                                      have hP : va_P D vwCl (lX cT z n r cl fb rn nd sk mo (va_up w2 p (wset (w2 p) d (ent (cho n fb rn nd sk mo fx wi la da we ((rst (cho n fb rn nd sk mo fx wi la da we) ((pls (cho n fb rn nd sk mo fx wi la da we) n (fun _ => 0) r).1) p).1) p) d))) fx wi la da we u_.1 u_.2) H := by rw [en_up (wk := w2) (i := p) (d := d) (v := ent (cho n fb rn nd sk mo fx wi la da we ((rst (cho n fb rn nd sk mo fx wi la da we) ((pls (cho n fb rn nd sk mo fx wi la da we) n (fun _ => 0) r).1) p).1) p) d) (by omega) (by first | omega | exact ent_lt _ _)] at hP; exact hP
                                      have hD : va_D A (lX cT z n r cl fb rn nd sk mo (va_up w2 p (wset (w2 p) d (ent (cho n fb rn nd sk mo fx wi la da we ((rst (cho n fb rn nd sk mo fx wi la da we) ((pls (cho n fb rn nd sk mo fx wi la da we) n (fun _ => 0) r).1) p).1) p) d))) fx wi la da we u_.1 u_.2) := by rw [en_up (wk := w2) (i := p) (d := d) (v := ent (cho n fb rn nd sk mo fx wi la da we ((rst (cho n fb rn nd sk mo fx wi la da we) ((pls (cho n fb rn nd sk mo fx wi la da we) n (fun _ => 0) r).1) p).1) p) d) (by omega) (by first | omega | exact ent_lt _ _)] at hD; exact hD
                                      refine lv_iinc (v := (nI (d + 1))) (lv' := [(11, .int (nI (d + 1))), (7, .int (nI 1)), (0, .ref (z 4)), (1, .ref (z 5)), (2, .ref (z 0)), (3, .ref (z 1)), (4, .ref (z 2)), (5, .ref (z 3)), (6, .ref (z 6)), (8, .int (nI p)), (9, .int (nI lk)), (10, .int r_)]) S.1 S.2.1 dL_plans_190 hl (k := 11) rfl (nI_1 _) (by decide) rfl (fun ls hl => ?_)
                                      refine lv_goto (tgt := 140) S.1 S.2.1 dL_plans_193 (by decide) ?_
                                      exact ih140 true (va_up w2 p (wset (w2 p) d (ent (cho n fb rn nd sk mo fx wi la da we ((rst (cho n fb rn nd sk mo fx wi la da we) ((pls (cho n fb rn nd sk mo fx wi la da we) n (fun _ => 0) r).1) p).1) p) d))) (d + 1) (by omega) (by rw [hw2, vu_s, vu_vu]; rfl) (mvd_y (Or.inr c166)) (by omega) _ _ hP hD hS ls (lv_sub hl [2, 3, 4, 5, 6, 7, 8, 1, 9, 10, 11, 0] rfl)
                            exact lp140 _ b1 ((rst (cho n fb rn nd sk mo fx wi la da we) ((pls (cho n fb rn nd sk mo fx wi la da we) n (fun _ => 0) r).1) p).1) 0 (Nat.zero_le _) (vu_id.symm) ((Bool.or_false _).symm) (Nat.lt_succ_self _) _ _ hP hD hS ls (lv_sub hl [2, 3, 4, 5, 6, 7, 8, 9, 10, 11, 1, 0] rfl)
                          · refine lv_iload S.1 S.2.1 dL_plans_71 (lv_at hl 9 rfl) ?_
                            refine lv_iload S.1 S.2.1 dL_plans_73 (lv_at hl 10 rfl) ?_
                            refine lv_iconst (v := (nI 4)) S.1 S.2.1 dL_plans_75 (by decide) ?_
                            refine n_rem S (by omega) dL_plans_76 ?_
                            refine n_zle S (tgt := 111) (by omega) dL_plans_77 (by decide) (fun c77 => ?_) (fun c77 => ?_)
                            · refine lv_iconst (v := (nI 0)) S.1 S.2.1 dL_plans_111 (by decide) ?_
                              refine n_or S dL_plans_112 ?_
                              refine lv_istore (lv' := [(9, .int (nI (lk ||| 0))), (0, .ref (z 4)), (1, .ref (z 5)), (2, .ref (z 0)), (3, .ref (z 1)), (4, .ref (z 2)), (5, .ref (z 3)), (6, .ref (z 6)), (7, .int (nI b1.toNat)), (8, .int (nI p)), (10, .int (nI k))]) S.1 S.2.1 dL_plans_113 hl (by decide) rfl (fun ls hl => ?_)
                              refine lv_iinc (v := (nI (k + 1))) (lv' := [(10, .int (nI (k + 1))), (9, .int (nI (lk ||| 0))), (0, .ref (z 4)), (1, .ref (z 5)), (2, .ref (z 0)), (3, .ref (z 1)), (4, .ref (z 2)), (5, .ref (z 3)), (6, .ref (z 6)), (7, .int (nI b1.toNat)), (8, .int (nI p))]) S.1 S.2.1 dL_plans_115 hl (k := 10) rfl (nI_1 _) (by decide) rfl (fun ls hl => ?_)
                              refine lv_goto (tgt := 64) S.1 S.2.1 dL_plans_118 (by decide) ?_
                              exact ih64 (lk ||| 0) (k + 1) (by omega) (by rw [hlk]; exact lk_0 (Or.inl c77)) (by omega) _ _ hP hD hS ls (lv_sub hl [2, 3, 4, 5, 6, 7, 8, 9, 10, 1, 0] rfl)
                            · refine lv_aload S.1 S.2.1 dL_plans_80 (lv_at hl 5 rfl) ?_
                              refine lv_iload S.1 S.2.1 dL_plans_82 (lv_at hl 10 rfl) ?_
                              refine g_iald S 3 hK hP rfl (by omega) dL_plans_84 ?_
                              refine n_top (show (nI ((nfn fb rn nd) k)) = (nI (nd k)) from congrArg nI (nf_n (by omega))) ?_
                              refine lv_iload S.1 S.2.1 dL_plans_85 (lv_at hl 10 rfl) ?_
                              refine lv_iconst (v := (nI 4)) S.1 S.2.1 dL_plans_87 (by decide) ?_
                              refine n_div S (by omega) dL_plans_88 ?_
                              refine lv_iload S.1 S.2.1 dL_plans_89 (lv_at hl 10 rfl) ?_
                              refine lv_iconst (v := (nI 4)) S.1 S.2.1 dL_plans_91 (by decide) ?_
                              refine n_rem S (by omega) dL_plans_92 ?_
                              refine lv_iload S.1 S.2.1 dL_plans_93 (lv_at hl 8 rfl) ?_
                              refine lv_aload_n S.1 S.2.1 dL_plans_95 rfl (lv_at hl 3 rfl) ?_
                              refine lv_aload S.1 S.2.1 dL_plans_96 (lv_at hl 6 rfl) ?_
                              refine rd_callS (rest := [.int (nI (nd k)), .int (nI lk)]) S (r_L_count_w l D cT z bd n r cl fb rn nd sk mo ((rst (cho n fb rn nd sk mo fx wi la da we) ((pls (cho n fb rn nd sk mo fx wi la da we) n (fun _ => 0) r).1) p).1) fx wi la da we W2 B2 p (k / 4) (k % 4) (hwfp) (by omega) (by omega) (by omega)) gL_plans_L_count rfl pd_L_count ⟨rfl, rfl, Nat.le_of_ble_eq_true rfl, Nat.le_of_ble_eq_true rfl⟩ hP hK hl rfl rfl (Nat.le_of_ble_eq_true rfl) ⟨Nat.zero_le _, Nat.zero_le _⟩ dL_plans_98 ?_
                              refine n_cle S (tgt := 111) (by omega) dL_plans_101 (by decide) (fun c101 => ?_) (fun c101 => ?_)
                              · refine lv_iconst (v := (nI 0)) S.1 S.2.1 dL_plans_111 (by decide) ?_
                                refine n_or S dL_plans_112 ?_
                                refine lv_istore (lv' := [(9, .int (nI (lk ||| 0))), (0, .ref (z 4)), (1, .ref (z 5)), (2, .ref (z 0)), (3, .ref (z 1)), (4, .ref (z 2)), (5, .ref (z 3)), (6, .ref (z 6)), (7, .int (nI b1.toNat)), (8, .int (nI p)), (10, .int (nI k))]) S.1 S.2.1 dL_plans_113 hl (by decide) rfl (fun ls hl => ?_)
                                refine lv_iinc (v := (nI (k + 1))) (lv' := [(10, .int (nI (k + 1))), (9, .int (nI (lk ||| 0))), (0, .ref (z 4)), (1, .ref (z 5)), (2, .ref (z 0)), (3, .ref (z 1)), (4, .ref (z 2)), (5, .ref (z 3)), (6, .ref (z 6)), (7, .int (nI b1.toNat)), (8, .int (nI p))]) S.1 S.2.1 dL_plans_115 hl (k := 10) rfl (nI_1 _) (by decide) rfl (fun ls hl => ?_)
                                refine lv_goto (tgt := 64) S.1 S.2.1 dL_plans_118 (by decide) ?_
                                exact ih64 (lk ||| 0) (k + 1) (by omega) (by rw [hlk]; exact lk_0 (Or.inr c101)) (by omega) _ _ hP hD hS ls (lv_sub hl [2, 3, 4, 5, 6, 7, 8, 9, 10, 1, 0] rfl)
                              · refine lv_iconst (v := (nI 1)) S.1 S.2.1 dL_plans_104 (by decide) ?_
                                refine lv_iload S.1 S.2.1 dL_plans_105 (lv_at hl 10 rfl) ?_
                                refine n_shl S (by omega) dL_plans_107 ?_
                                refine lv_goto (tgt := 112) S.1 S.2.1 dL_plans_108 (by decide) ?_
                                refine n_or S dL_plans_112 ?_
                                refine lv_istore (lv' := [(9, .int (nI (lk ||| (1 * 2 ^ k)))), (0, .ref (z 4)), (1, .ref (z 5)), (2, .ref (z 0)), (3, .ref (z 1)), (4, .ref (z 2)), (5, .ref (z 3)), (6, .ref (z 6)), (7, .int (nI b1.toNat)), (8, .int (nI p)), (10, .int (nI k))]) S.1 S.2.1 dL_plans_113 hl (by decide) rfl (fun ls hl => ?_)
                                refine lv_iinc (v := (nI (k + 1))) (lv' := [(10, .int (nI (k + 1))), (9, .int (nI (lk ||| (1 * 2 ^ k)))), (0, .ref (z 4)), (1, .ref (z 5)), (2, .ref (z 0)), (3, .ref (z 1)), (4, .ref (z 2)), (5, .ref (z 3)), (6, .ref (z 6)), (7, .int (nI b1.toNat)), (8, .int (nI p))]) S.1 S.2.1 dL_plans_115 hl (k := 10) rfl (nI_1 _) (by decide) rfl (fun ls hl => ?_)
                                refine lv_goto (tgt := 64) S.1 S.2.1 dL_plans_118 (by decide) ?_
                                exact ih64 (lk ||| (1 * 2 ^ k)) (k + 1) (by omega) (by rw [hlk]; exact lk_1 c77 c101) (by omega) _ _ hP hD hS ls (lv_sub hl [2, 3, 4, 5, 6, 7, 8, 9, 10, 1, 0] rfl)
                      exact lp64 _ 0 0 (Nat.zero_le _) (rfl) (Nat.lt_succ_self _) _ _ hP hD hS ls (lv_sub hl [2, 3, 4, 5, 6, 7, 8, 9, 10, 1, 0] rfl)
                exact lp49 _ false 0 W1 B1 (Nat.zero_le _) (rfl) (Nat.lt_succ_self _) _ _ hP hD hS ls (lv_sub hl [2, 3, 4, 5, 6, 7, 8, 1, 0] rfl)
        exact lp29 _ true 0 Wv Bv (Nat.zero_le _) (rfl) (fun k h => absurd h (Nat.not_lt_zero k)) (Nat.lt_succ_self _) _ _ hP hD hS ls (lv_sub hl [1, 2, 3, 4, 5, 6, 7, 0] rfl)
      · refine lv_aload_n S.1 S.2.1 dL_plans_10 rfl (lv_at hl 3 rfl) ?_
        refine lv_iload S.1 S.2.1 dL_plans_11 (lv_at hl 7 rfl) ?_
        refine lv_iconst (v := (nI 0)) S.1 S.2.1 dL_plans_13 (by decide) ?_
        refine w_iast S 1 hK hP hD hS rfl (by omega) dL_plans_14 (fun H locs hP hD hS => ?_)
        have hP : va_P D vwCl (lX cT z n ro cl fb rn nd sk mo (va_up w1 (k / 7) (wset (w1 (k / 7)) (k % 7) 0)) fx wi la da we Wv Bv) H := by rw [en_upk (wk := w1) (k := k) (v := 0) (by omega)] at hP; exact hP
        have hD : va_D A (lX cT z n ro cl fb rn nd sk mo (va_up w1 (k / 7) (wset (w1 (k / 7)) (k % 7) 0)) fx wi la da we Wv Bv) := by rw [en_upk (wk := w1) (k := k) (v := 0) (by omega)] at hD; exact hD
        refine lv_iinc (v := (nI (k + 1))) (lv' := [(7, .int (nI (k + 1))), (0, .ref (z 4)), (1, .ref (z 5)), (2, .ref (z 0)), (3, .ref (z 1)), (4, .ref (z 2)), (5, .ref (z 3)), (6, .ref (z 6))]) S.1 S.2.1 dL_plans_15 hl (k := 7) rfl (nI_1 _) (by decide) rfl (fun ls hl => ?_)
        refine lv_goto (tgt := 3) S.1 S.2.1 dL_plans_18 (by decide) ?_
        exact ih3 (va_up w1 (k / 7) (wset (w1 (k / 7)) (k % 7) 0)) (k + 1) (by omega) (by rw [hw1]; exact zkf_s (fun k => (hper k).2.2.1) k) (by omega) _ _ hP hD hS ls (lv_sub hl [1, 2, 3, 4, 5, 6, 7, 0] rfl)
  exact lp3 _ wk 0 (Nat.zero_le _) (zkf_0.symm) (Nat.lt_succ_self _) _ _ hP hD hS ls (lv_sub hl [1, 2, 3, 4, 5, 6, 7, 0] rfl)

theorem pd_L_closes : yL_closes.cls ≠ "java/lang/invoke/MethodHandle" ∧ yL_closes.cls ≠ "java/lang/invoke/VarHandle" ∧ (parseMethodDescriptor yL_closes.desc).map (fun d => d.parameters.length) = some 4 := by decide +kernel
set_option maxHeartbeats 4000000 in
set_option maxRecDepth 100000 in
theorem w_L_closes (l : Launch) (D : va_G) (cT : ClassId × ClassId × ClassId) (sz : Nat) (z : Nat → Nat) (bd n ro cl fb rn : Nat) (nd sk mo wk fx wi la da we : Nat → Nat) (Wv Bv : Nat → Int32) (hwf : wfC n bd fb rn nd sk mo wk fx wi la da we) : Met l yL_closes wsL_closes ({ frames := 0, cells := 0, slots := 0, locals := 0 } : Room) (va_Pc [.ref (z 0), .ref (z 1), .ref (z 2), .ref (z 6)] (wr_R D (TY cT) (lX cT z n ro cl fb rn nd sk mo wk fx wi la da we Wv Bv) sz)) (wQv (fun (_ : Unit) => True) D (fun (_ : Unit) => lX cT z n ro (cl + 1) fb rn nd sk mo (upn wk (fun _ => 0) n) (upn fx (fun _ => 0) n) (upn wi (fun _ => 0) n) (upn la (clL wk) n) (upn da (clG wk da) n) (upn we (clE wk we) n) Wv Bv) (va_A (lX cT z n ro cl fb rn nd sk mo wk fx wi la da we Wv Bv) sz)) 0 0 (va_A (lX cT z n ro cl fb rn nd sk mo wk fx wi la da we Wv Bv) sz) := by
  refine wr_start (cc := cL_closes) (maxL := 7) (ret := none) RL ⟨by decide +kernel, rfl⟩ rfl (Nat.le_of_ble_eq_true rfl) ?_
  intro p0 e0 s0 m0 a0 b0 t0 c0 S hr hlocks hin hP hK hA hD hS ls hl
  generalize va_A (lX cT z n ro cl fb rn nd sk mo wk fx wi la da we Wv Bv) sz = A at hA hD hS ⊢
  have hl : lv_has ls 7 [(0, .ref (z 0)), (1, .ref (z 1)), (2, .ref (z 2)), (3, .ref (z 6))] := hl
  obtain ⟨hn, hcl, hfb, hrn, hnd, hper⟩ := id hwf
  refine lv_iconst (v := (nI 0)) S.1 S.2.1 dL_closes_0 (by decide) ?_
  refine lv_istore (lv' := [(4, .int (nI 0)), (0, .ref (z 0)), (1, .ref (z 1)), (2, .ref (z 2)), (3, .ref (z 6))]) S.1 S.2.1 dL_closes_1 hl (by decide) rfl (fun ls hl => ?_)
  have lp3 : ∀ (fu : Nat) (p : Nat), (p ≤ n) → (n - p) < fu → ∀ (H : Heap) (locs : List Loc), va_P D vwCl (lX cT z n ro cl fb rn nd sk mo (upn wk (fun _ => 0) p) (upn fx (fun _ => 0) p) (upn wi (fun _ => 0) p) (upn la (clL wk) p) (upn da (clG wk da) p) (upn we (clE wk we) p) Wv Bv) H → va_D A (lX cT z n ro cl fb rn nd sk mo (upn wk (fun _ => 0) p) (upn fx (fun _ => 0) p) (upn wi (fun _ => 0) p) (upn la (clL wk) p) (upn da (clG wk da) p) (upn we (clE wk we) p) Wv Bv) → va_S A s0.heap H locs → ∀ ls : Array Slot, lv_has ls 7 [(0, .ref (z 0)), (1, .ref (z 1)), (2, .ref (z 2)), (3, .ref (z 6)), (4, .int (nI p))] → W p0 l e0 ({ frames := 0, cells := 0, slots := 0, locals := 0 } : Room) s0 m0 a0 b0 t0 c0 H locs 0 0 (MQ b0 (wQv (fun (_ : Unit) => True) D (fun (_ : Unit) => lX cT z n ro (cl + 1) fb rn nd sk mo (upn wk (fun _ => 0) n) (upn fx (fun _ => 0) n) (upn wi (fun _ => 0) n) (upn la (clL wk) n) (upn da (clG wk da) n) (upn we (clE wk we) n) Wv Bv) A) a0 s0 0 0 A) (F0 m0 3 ls []) := by
    intro fu
    induction fu with
    | zero =>
      intro p h2 hm
      exact absurd hm (Nat.not_lt_zero _)
    | succ fu ih3 =>
      intro p h2 hm H locs hP hD hS ls hl
      have hpp := hper p
      refine lv_iload S.1 S.2.1 dL_closes_3 (lv_at hl 4 rfl) ?_
      refine lv_aload_n S.1 S.2.1 dL_closes_5 rfl (lv_at hl 3 rfl) ?_
      refine lv_iconst (v := (nI 0)) S.1 S.2.1 dL_closes_6 (by decide) ?_
      refine g_iald S 6 hK hP rfl (by omega) dL_closes_7 ?_
      refine n_top (show (nI ((qfn n cl ro) 0)) = (nI n) from rfl) ?_
      refine n_cge S (tgt := 199) (by omega) dL_closes_8 (by decide) (fun c8 => ?_) (fun c8 => ?_)
      · have hpn : p = n := by omega
        rw [hpn] at hP hD
        refine lv_aload_n S.1 S.2.1 dL_closes_199 rfl (lv_at hl 3 rfl) ?_
        refine lv_iconst (v := (nI 1)) S.1 S.2.1 dL_closes_200 (by decide) ?_
        refine lv_dup2_11 S.1 S.2.1 dL_closes_201 rfl rfl ?_
        refine g_iald S 6 hK hP rfl (by omega) dL_closes_202 ?_
        refine n_top (show (nI ((qfn n cl ro) 1)) = (nI cl) from rfl) ?_
        refine lv_iconst (v := (nI 1)) S.1 S.2.1 dL_closes_203 (by decide) ?_
        refine n_add S dL_closes_204 ?_
        refine w_iast S 6 hK hP hD hS rfl (by omega) dL_closes_205 (fun H locs hP hD hS => ?_)
        have hP : va_P D vwCl (lX cT z n ro (cl + 1) fb rn nd sk mo (upn wk (fun _ => 0) n) (upn fx (fun _ => 0) n) (upn wi (fun _ => 0) n) (upn la (clL wk) n) (upn da (clG wk da) n) (upn we (clE wk we) n) Wv Bv) H := by rw [qf_u1] at hP; exact hP
        have hD : va_D A (lX cT z n ro (cl + 1) fb rn nd sk mo (upn wk (fun _ => 0) n) (upn fx (fun _ => 0) n) (upn wi (fun _ => 0) n) (upn la (clL wk) n) (upn da (clG wk da) n) (upn we (clE wk we) n) Wv Bv) := by rw [qf_u1] at hD; exact hD
        exact wr_vret S (()) hr hlocks (trivial) (hP) (hD) hS dL_closes_206
      · have jn45 : ∀ (r : Nat) , ((r = 6 + 1 ∧ ∀ j, j ≤ 6 → ent (wk p) j ≠ 0) ∨ (r ≤ 6 ∧ rnb (wk p) (da p) (6 + 1) = r)) → ∀ (H : Heap) (locs : List Loc), va_P D vwCl (lX cT z n ro cl fb rn nd sk mo (upn wk (fun _ => 0) p) (upn fx (fun _ => 0) p) (upn wi (fun _ => 0) p) (upn la (clL wk) p) (upn da (clG wk da) p) (upn we (clE wk we) p) Wv Bv) H → va_D A (lX cT z n ro cl fb rn nd sk mo (upn wk (fun _ => 0) p) (upn fx (fun _ => 0) p) (upn wi (fun _ => 0) p) (upn la (clL wk) p) (upn da (clG wk da) p) (upn we (clE wk we) p) Wv Bv) → va_S A s0.heap H locs → ∀ ls : Array Slot, lv_has ls 7 [(0, .ref (z 0)), (1, .ref (z 1)), (2, .ref (z 2)), (3, .ref (z 6)), (4, .int (nI p)), (5, .int (nI r))] → W p0 l e0 ({ frames := 0, cells := 0, slots := 0, locals := 0 } : Room) s0 m0 a0 b0 t0 c0 H locs 0 0 (MQ b0 (wQv (fun (_ : Unit) => True) D (fun (_ : Unit) => lX cT z n ro (cl + 1) fb rn nd sk mo (upn wk (fun _ => 0) n) (upn fx (fun _ => 0) n) (upn wi (fun _ => 0) n) (upn la (clL wk) n) (upn da (clG wk da) n) (upn we (clE wk we) n) Wv Bv) A) a0 s0 0 0 A) (F0 m0 45 ls []) := by
          intro r hrr H locs hP hD hS ls hl
          refine lv_aload_n S.1 S.2.1 dL_closes_45 rfl (lv_at hl 0 rfl) ?_
          refine lv_bipush (v := (nI 8)) S.1 S.2.1 dL_closes_46 (by decide) ?_
          have jn77 : ∀ (x : Nat) , (x = rnb (wk p) (da p) 7) → ∀ (H : Heap) (locs : List Loc), va_P D vwCl (lX cT z n ro cl fb rn nd sk mo (upn wk (fun _ => 0) p) (upn fx (fun _ => 0) p) (upn wi (fun _ => 0) p) (upn la (clL wk) p) (upn da (clG wk da) p) (upn we (clE wk we) p) Wv Bv) H → va_D A (lX cT z n ro cl fb rn nd sk mo (upn wk (fun _ => 0) p) (upn fx (fun _ => 0) p) (upn wi (fun _ => 0) p) (upn la (clL wk) p) (upn da (clG wk da) p) (upn we (clE wk we) p) Wv Bv) → va_S A s0.heap H locs → ∀ ls : Array Slot, lv_has ls 7 [(0, .ref (z 0)), (1, .ref (z 1)), (2, .ref (z 2)), (3, .ref (z 6)), (4, .int (nI p)), (5, .int (nI r))] → W p0 l e0 ({ frames := 0, cells := 0, slots := 0, locals := 0 } : Room) s0 m0 a0 b0 t0 c0 H locs 0 0 (MQ b0 (wQv (fun (_ : Unit) => True) D (fun (_ : Unit) => lX cT z n ro (cl + 1) fb rn nd sk mo (upn wk (fun _ => 0) n) (upn fx (fun _ => 0) n) (upn wi (fun _ => 0) n) (upn la (clL wk) n) (upn da (clG wk da) n) (upn we (clE wk we) n) Wv Bv) A) a0 s0 0 0 A) (F0 m0 77 ls [.int (nI x), .int (nI ((8 * p) + 4)), .ref (z 0)]) := by
            intro x hx H locs hP hD hS ls hl
            refine w_iast S 0 hK hP hD hS rfl (by omega) dL_closes_77 (fun H locs hP hD hS => ?_)
            have hP : va_P D vwCl (lX cT z n ro cl fb rn nd sk mo (upn wk (fun _ => 0) p) (upn fx (fun _ => 0) p) (upn wi (fun _ => 0) p) (upn la (clL wk) p) (va_up (upn da (clG wk da) p) p x) (upn we (clE wk we) p) Wv Bv) H := by rw [hf_u4 (i := p) (v := x)] at hP; exact hP
            have hD : va_D A (lX cT z n ro cl fb rn nd sk mo (upn wk (fun _ => 0) p) (upn fx (fun _ => 0) p) (upn wi (fun _ => 0) p) (upn la (clL wk) p) (va_up (upn da (clG wk da) p) p x) (upn we (clE wk we) p) Wv Bv) := by rw [hf_u4 (i := p) (v := x)] at hD; exact hD
            refine lv_aload_n S.1 S.2.1 dL_closes_78 rfl (lv_at hl 0 rfl) ?_
            refine lv_bipush (v := (nI 8)) S.1 S.2.1 dL_closes_79 (by decide) ?_
            refine lv_iload S.1 S.2.1 dL_closes_81 (lv_at hl 4 rfl) ?_
            refine n_mul S dL_closes_83 ?_
            refine lv_iconst (v := (nI 3)) S.1 S.2.1 dL_closes_84 (by decide) ?_
            refine n_add S dL_closes_85 ?_
            refine lv_aload_n S.1 S.2.1 dL_closes_86 rfl (lv_at hl 1 rfl) ?_
            refine lv_bipush (v := (nI 7)) S.1 S.2.1 dL_closes_87 (by decide) ?_
            refine lv_iload S.1 S.2.1 dL_closes_89 (lv_at hl 4 rfl) ?_
            refine n_mul S dL_closes_91 ?_
            refine lv_bipush (v := (nI 6)) S.1 S.2.1 dL_closes_92 (by decide) ?_
            refine n_add S dL_closes_94 ?_
            refine g_iald S 1 hK hP rfl (by omega) dL_closes_95 ?_
            refine n_top (show (nI ((enf (upn wk (fun _ => 0) p)) ((7 * p) + 6))) = (nI (ent (wk p) 6)) from congrArg nI (by rw [en_at (by omega)]; exact congrArg (fun w => ent w 6) upn_at)) ?_
            refine w_iast S 0 hK hP hD hS rfl (by omega) dL_closes_96 (fun H locs hP hD hS => ?_)
            have hP : va_P D vwCl (lX cT z n ro cl fb rn nd sk mo (upn wk (fun _ => 0) p) (upn fx (fun _ => 0) p) (upn wi (fun _ => 0) p) (va_up (upn la (clL wk) p) p (ent (wk p) 6)) (va_up (upn da (clG wk da) p) p x) (upn we (clE wk we) p) Wv Bv) H := by rw [hf_u3 (i := p) (v := ent (wk p) 6)] at hP; exact hP
            have hD : va_D A (lX cT z n ro cl fb rn nd sk mo (upn wk (fun _ => 0) p) (upn fx (fun _ => 0) p) (upn wi (fun _ => 0) p) (va_up (upn la (clL wk) p) p (ent (wk p) 6)) (va_up (upn da (clG wk da) p) p x) (upn we (clE wk we) p) Wv Bv) := by rw [hf_u3 (i := p) (v := ent (wk p) 6)] at hD; exact hD
            refine lv_aload_n S.1 S.2.1 dL_closes_97 rfl (lv_at hl 0 rfl) ?_
            refine lv_bipush (v := (nI 8)) S.1 S.2.1 dL_closes_98 (by decide) ?_
            refine lv_iload S.1 S.2.1 dL_closes_100 (lv_at hl 4 rfl) ?_
            refine n_mul S dL_closes_102 ?_
            refine lv_iconst (v := (nI 5)) S.1 S.2.1 dL_closes_103 (by decide) ?_
            refine n_add S dL_closes_104 ?_
            refine lv_dup2_11 S.1 S.2.1 dL_closes_105 rfl rfl ?_
            refine g_iald S 0 hK hP rfl (by omega) dL_closes_106 ?_
            refine n_top (show (nI ((hfn sk mo (upn wi (fun _ => 0) p) (va_up (upn la (clL wk) p) p (ent (wk p) 6)) (va_up (upn da (clG wk da) p) p x) (upn we (clE wk we) p)) ((8 * p) + 5))) = (nI (we p)) from congrArg nI (hf_5.trans upn_at)) ?_
            have jn143 : ∀ (sw : Nat) , (sw = shc (wk p) 5 2) → ∀ (H : Heap) (locs : List Loc), va_P D vwCl (lX cT z n ro cl fb rn nd sk mo (upn wk (fun _ => 0) p) (upn fx (fun _ => 0) p) (upn wi (fun _ => 0) p) (va_up (upn la (clL wk) p) p (ent (wk p) 6)) (va_up (upn da (clG wk da) p) p x) (upn we (clE wk we) p) Wv Bv) H → va_D A (lX cT z n ro cl fb rn nd sk mo (upn wk (fun _ => 0) p) (upn fx (fun _ => 0) p) (upn wi (fun _ => 0) p) (va_up (upn la (clL wk) p) p (ent (wk p) 6)) (va_up (upn da (clG wk da) p) p x) (upn we (clE wk we) p) Wv Bv) → va_S A s0.heap H locs → ∀ ls : Array Slot, lv_has ls 7 [(0, .ref (z 0)), (1, .ref (z 1)), (2, .ref (z 2)), (3, .ref (z 6)), (4, .int (nI p)), (5, .int (nI r))] → W p0 l e0 ({ frames := 0, cells := 0, slots := 0, locals := 0 } : Room) s0 m0 a0 b0 t0 c0 H locs 0 0 (MQ b0 (wQv (fun (_ : Unit) => True) D (fun (_ : Unit) => lX cT z n ro (cl + 1) fb rn nd sk mo (upn wk (fun _ => 0) n) (upn fx (fun _ => 0) n) (upn wi (fun _ => 0) n) (upn la (clL wk) n) (upn da (clG wk da) n) (upn we (clE wk we) n) Wv Bv) A) a0 s0 0 0 A) (F0 m0 143 ls [.int (nI sw), .int (nI (we p)), .int (nI ((8 * p) + 5)), .ref (z 0)]) := by
              intro sw hsw H locs hP hD hS ls hl
              refine n_add S dL_closes_143 ?_
              refine w_iast S 0 hK hP hD hS rfl (by omega) dL_closes_144 (fun H locs hP hD hS => ?_)
              have hP : va_P D vwCl (lX cT z n ro cl fb rn nd sk mo (upn wk (fun _ => 0) p) (upn fx (fun _ => 0) p) (upn wi (fun _ => 0) p) (va_up (upn la (clL wk) p) p (ent (wk p) 6)) (va_up (upn da (clG wk da) p) p x) (va_up (upn we (clE wk we) p) p ((we p) + sw)) Wv Bv) H := by rw [hf_u5 (i := p) (v := (we p) + sw)] at hP; exact hP
              have hD : va_D A (lX cT z n ro cl fb rn nd sk mo (upn wk (fun _ => 0) p) (upn fx (fun _ => 0) p) (upn wi (fun _ => 0) p) (va_up (upn la (clL wk) p) p (ent (wk p) 6)) (va_up (upn da (clG wk da) p) p x) (va_up (upn we (clE wk we) p) p ((we p) + sw)) Wv Bv) := by rw [hf_u5 (i := p) (v := (we p) + sw)] at hD; exact hD
              refine lv_aload_n S.1 S.2.1 dL_closes_145 rfl (lv_at hl 0 rfl) ?_
              refine lv_bipush (v := (nI 8)) S.1 S.2.1 dL_closes_146 (by decide) ?_
              refine lv_iload S.1 S.2.1 dL_closes_148 (lv_at hl 4 rfl) ?_
              refine n_mul S dL_closes_150 ?_
              refine lv_iconst (v := (nI 2)) S.1 S.2.1 dL_closes_151 (by decide) ?_
              refine n_add S dL_closes_152 ?_
              refine lv_iconst (v := (nI 0)) S.1 S.2.1 dL_closes_153 (by decide) ?_
              refine w_iast S 0 hK hP hD hS rfl (by omega) dL_closes_154 (fun H locs hP hD hS => ?_)
              have hP : va_P D vwCl (lX cT z n ro cl fb rn nd sk mo (upn wk (fun _ => 0) p) (upn fx (fun _ => 0) p) (va_up (upn wi (fun _ => 0) p) p 0) (va_up (upn la (clL wk) p) p (ent (wk p) 6)) (va_up (upn da (clG wk da) p) p x) (va_up (upn we (clE wk we) p) p ((we p) + sw)) Wv Bv) H := by rw [hf_u2 (i := p) (v := 0)] at hP; exact hP
              have hD : va_D A (lX cT z n ro cl fb rn nd sk mo (upn wk (fun _ => 0) p) (upn fx (fun _ => 0) p) (va_up (upn wi (fun _ => 0) p) p 0) (va_up (upn la (clL wk) p) p (ent (wk p) 6)) (va_up (upn da (clG wk da) p) p x) (va_up (upn we (clE wk we) p) p ((we p) + sw)) Wv Bv) := by rw [hf_u2 (i := p) (v := 0)] at hD; exact hD
              have e1 : va_up (upn da (clG wk da) p) p x = upn da (clG wk da) (p + 1) := by rw [hx]; exact upn_s
              have e2 : va_up (upn la (clL wk) p) p (ent (wk p) 6) = upn la (clL wk) (p + 1) := upn_s
              have e3 : va_up (upn we (clE wk we) p) p (we p + sw) = upn we (clE wk we) (p + 1) := by rw [hsw]; exact upn_s
              have e4 : va_up (upn wi (fun _ => 0) p) p 0 = upn wi (fun _ => 0) (p + 1) := upn_s
              rw [e1, e2, e3, e4] at hP hD
              refine lv_iconst (v := (nI 0)) S.1 S.2.1 dL_closes_155 (by decide) ?_
              refine lv_istore (lv' := [(6, .int (nI 0)), (0, .ref (z 0)), (1, .ref (z 1)), (2, .ref (z 2)), (3, .ref (z 6)), (4, .int (nI p)), (5, .int (nI r))]) S.1 S.2.1 dL_closes_156 hl (by decide) rfl (fun ls hl => ?_)
              have lp158 : ∀ (fu : Nat) (w1 : Nat → Nat) (f1 : Nat → Nat) (d : Nat), (d ≤ 7) → (w1 = va_up (upn wk (fun _ => 0) p) p (mxw (wk p) 0 d)) → (f1 = va_up (upn fx (fun _ => 0) p) p (ncl (fx p) d)) → (7 - d) < fu → ∀ (H : Heap) (locs : List Loc), va_P D vwCl (lX cT z n ro cl fb rn nd sk mo w1 f1 (upn wi (fun _ => 0) (p + 1)) (upn la (clL wk) (p + 1)) (upn da (clG wk da) (p + 1)) (upn we (clE wk we) (p + 1)) Wv Bv) H → va_D A (lX cT z n ro cl fb rn nd sk mo w1 f1 (upn wi (fun _ => 0) (p + 1)) (upn la (clL wk) (p + 1)) (upn da (clG wk da) (p + 1)) (upn we (clE wk we) (p + 1)) Wv Bv) → va_S A s0.heap H locs → ∀ ls : Array Slot, lv_has ls 7 [(0, .ref (z 0)), (1, .ref (z 1)), (2, .ref (z 2)), (3, .ref (z 6)), (4, .int (nI p)), (5, .int (nI r)), (6, .int (nI d))] → W p0 l e0 ({ frames := 0, cells := 0, slots := 0, locals := 0 } : Room) s0 m0 a0 b0 t0 c0 H locs 0 0 (MQ b0 (wQv (fun (_ : Unit) => True) D (fun (_ : Unit) => lX cT z n ro (cl + 1) fb rn nd sk mo (upn wk (fun _ => 0) n) (upn fx (fun _ => 0) n) (upn wi (fun _ => 0) n) (upn la (clL wk) n) (upn da (clG wk da) n) (upn we (clE wk we) n) Wv Bv) A) a0 s0 0 0 A) (F0 m0 158 ls []) := by
                intro fu
                induction fu with
                | zero =>
                  intro w1 f1 d h7 hw1 hf1 hm
                  exact absurd hm (Nat.not_lt_zero _)
                | succ fu ih158 =>
                  intro w1 f1 d h7 hw1 hf1 hm H locs hP hD hS ls hl
                  refine lv_iload S.1 S.2.1 dL_closes_158 (lv_at hl 6 rfl) ?_
                  refine lv_bipush (v := (nI 7)) S.1 S.2.1 dL_closes_160 (by decide) ?_
                  refine n_cge S (tgt := 193) (by omega) dL_closes_162 (by decide) (fun c162 => ?_) (fun c162 => ?_)
                  · have ed : d = 7 := by omega
                    have e5 : w1 = upn wk (fun _ => 0) (p + 1) := by rw [hw1, ed, mxw_7 (hper p).2.2.1 (by decide)]; exact upn_s
                    have e6 : f1 = upn fx (fun _ => 0) (p + 1) := by rw [hf1, ed, ncl_7 (hper p).2.2.2.1]; exact upn_s
                    rw [e5, e6] at hP hD
                    refine lv_iinc (v := (nI (p + 1))) (lv' := [(4, .int (nI (p + 1))), (0, .ref (z 0)), (1, .ref (z 1)), (2, .ref (z 2)), (3, .ref (z 6)), (5, .int (nI r)), (6, .int (nI d))]) S.1 S.2.1 dL_closes_193 hl (k := 4) rfl (nI_1 _) (by decide) rfl (fun ls hl => ?_)
                    refine lv_goto (tgt := 3) S.1 S.2.1 dL_closes_196 (by decide) ?_
                    exact ih3 (p + 1) (by omega) (by omega) _ _ hP hD hS ls (lv_sub hl [1, 2, 3, 4, 0] rfl)
                  · refine lv_aload_n S.1 S.2.1 dL_closes_165 rfl (lv_at hl 1 rfl) ?_
                    refine lv_bipush (v := (nI 7)) S.1 S.2.1 dL_closes_166 (by decide) ?_
                    refine lv_iload S.1 S.2.1 dL_closes_168 (lv_at hl 4 rfl) ?_
                    refine n_mul S dL_closes_170 ?_
                    refine lv_iload S.1 S.2.1 dL_closes_171 (lv_at hl 6 rfl) ?_
                    refine n_add S dL_closes_173 ?_
                    refine lv_iconst (v := (nI 0)) S.1 S.2.1 dL_closes_174 (by decide) ?_
                    refine w_iast S 1 hK hP hD hS rfl (by omega) dL_closes_175 (fun H locs hP hD hS => ?_)
                    have hP : va_P D vwCl (lX cT z n ro cl fb rn nd sk mo (va_up w1 p (wset (w1 p) d 0)) f1 (upn wi (fun _ => 0) (p + 1)) (upn la (clL wk) (p + 1)) (upn da (clG wk da) (p + 1)) (upn we (clE wk we) (p + 1)) Wv Bv) H := by rw [en_up (wk := w1) (i := p) (d := d) (v := 0) (by omega) (by first | omega | exact ent_lt _ _)] at hP; exact hP
                    have hD : va_D A (lX cT z n ro cl fb rn nd sk mo (va_up w1 p (wset (w1 p) d 0)) f1 (upn wi (fun _ => 0) (p + 1)) (upn la (clL wk) (p + 1)) (upn da (clG wk da) (p + 1)) (upn we (clE wk we) (p + 1)) Wv Bv) := by rw [en_up (wk := w1) (i := p) (d := d) (v := 0) (by omega) (by first | omega | exact ent_lt _ _)] at hD; exact hD
                    refine lv_aload_n S.1 S.2.1 dL_closes_176 rfl (lv_at hl 2 rfl) ?_
                    refine lv_bipush (v := (nI 7)) S.1 S.2.1 dL_closes_177 (by decide) ?_
                    refine lv_iload S.1 S.2.1 dL_closes_179 (lv_at hl 4 rfl) ?_
                    refine n_mul S dL_closes_181 ?_
                    refine lv_iload S.1 S.2.1 dL_closes_182 (lv_at hl 6 rfl) ?_
                    refine n_add S dL_closes_184 ?_
                    refine lv_iconst (v := (-1)) S.1 S.2.1 dL_closes_185 (by decide) ?_
                    refine n_top (show (-1 : Int32) = nI 0 - nI 1 from by decide) ?_
                    refine w_iastR S 2 hK hP hD hS rfl (by omega) dL_closes_186 (fun H locs hP hD hS => ?_)
                    have hP : va_P D vwCl (lX cT z n ro cl fb rn nd sk mo (va_up w1 p (wset (w1 p) d 0)) (va_up f1 p (nset (f1 p) d 0)) (upn wi (fun _ => 0) (p + 1)) (upn la (clL wk) (p + 1)) (upn da (clG wk da) (p + 1)) (upn we (clE wk we) (p + 1)) Wv Bv) H := by rw [fx_up (fx := f1) (i := p) (d := d) (v := 0) (by omega) (by omega)] at hP; exact hP
                    have hD : va_D A (lX cT z n ro cl fb rn nd sk mo (va_up w1 p (wset (w1 p) d 0)) (va_up f1 p (nset (f1 p) d 0)) (upn wi (fun _ => 0) (p + 1)) (upn la (clL wk) (p + 1)) (upn da (clG wk da) (p + 1)) (upn we (clE wk we) (p + 1)) Wv Bv) := by rw [fx_up (fx := f1) (i := p) (d := d) (v := 0) (by omega) (by omega)] at hD; exact hD
                    refine lv_iinc (v := (nI (d + 1))) (lv' := [(6, .int (nI (d + 1))), (0, .ref (z 0)), (1, .ref (z 1)), (2, .ref (z 2)), (3, .ref (z 6)), (4, .int (nI p)), (5, .int (nI r))]) S.1 S.2.1 dL_closes_187 hl (k := 6) rfl (nI_1 _) (by decide) rfl (fun ls hl => ?_)
                    refine lv_goto (tgt := 158) S.1 S.2.1 dL_closes_190 (by decide) ?_
                    exact ih158 (va_up w1 p (wset (w1 p) d 0)) (va_up f1 p (nset (f1 p) d 0)) (d + 1) (by omega) (by rw [hw1, vu_s, vu_vu]; show va_up _ p (wset _ d 0) = va_up _ p (wset _ d (ent 0 d)); rw [ent_0]) (by rw [hf1, vu_s, vu_vu]; rfl) (by omega) _ _ hP hD hS ls (lv_sub hl [1, 2, 3, 4, 5, 6, 0] rfl)
              exact lp158 _ (upn wk (fun _ => 0) p) (upn fx (fun _ => 0) p) 0 (Nat.zero_le _) (by rw [show mxw (wk p) 0 0 = upn wk (fun _ => 0) p p from (upn_at (f := wk) (g := fun _ => 0) (m := p)).symm, vu_id]) (by rw [show ncl (fx p) 0 = upn fx (fun _ => 0) p p from (upn_at (f := fx) (g := fun _ => 0) (m := p)).symm, vu_id]) (Nat.lt_succ_self _) _ _ hP hD hS ls (lv_sub hl [1, 2, 3, 4, 5, 6, 0] rfl)
            refine lv_aload_n S.1 S.2.1 dL_closes_107 rfl (lv_at hl 1 rfl) ?_
            refine lv_bipush (v := (nI 7)) S.1 S.2.1 dL_closes_108 (by decide) ?_
            refine lv_iload S.1 S.2.1 dL_closes_110 (lv_at hl 4 rfl) ?_
            refine n_mul S dL_closes_112 ?_
            refine lv_iconst (v := (nI 5)) S.1 S.2.1 dL_closes_113 (by decide) ?_
            refine n_add S dL_closes_114 ?_
            refine g_iald S 1 hK hP rfl (by omega) dL_closes_115 ?_
            refine n_top (show (nI ((enf (upn wk (fun _ => 0) p)) ((7 * p) + 5))) = (nI (ent (wk p) 5)) from congrArg nI (by rw [en_at (by omega)]; exact congrArg (fun w => ent w 5) upn_at)) ?_
            refine n_zle S (tgt := 123) (Nat.lt_trans (ent_lt _ _) (by decide)) dL_closes_116 (by decide) (fun c116 => ?_) (fun c116 => ?_)
            · refine lv_iconst (v := (nI 0)) S.1 S.2.1 dL_closes_123 (by decide) ?_
              refine lv_aload_n S.1 S.2.1 dL_closes_124 rfl (lv_at hl 1 rfl) ?_
              refine lv_bipush (v := (nI 7)) S.1 S.2.1 dL_closes_125 (by decide) ?_
              refine lv_iload S.1 S.2.1 dL_closes_127 (lv_at hl 4 rfl) ?_
              refine n_mul S dL_closes_129 ?_
              refine lv_bipush (v := (nI 6)) S.1 S.2.1 dL_closes_130 (by decide) ?_
              refine n_add S dL_closes_132 ?_
              refine g_iald S 1 hK hP rfl (by omega) dL_closes_133 ?_
              refine n_top (show (nI ((enf (upn wk (fun _ => 0) p)) ((7 * p) + 6))) = (nI (ent (wk p) 6)) from congrArg nI (by rw [en_at (by omega)]; exact congrArg (fun w => ent w 6) upn_at)) ?_
              refine n_zle S (tgt := 141) (Nat.lt_trans (ent_lt _ _) (by decide)) dL_closes_134 (by decide) (fun c134 => ?_) (fun c134 => ?_)
              · refine lv_iconst (v := (nI 0)) S.1 S.2.1 dL_closes_141 (by decide) ?_
                refine n_add S dL_closes_142 ?_
                exact jn143 (0 + 0) (by rw [wke]; (first | rw [if_pos c116] | rw [if_neg (Nat.ne_of_gt c116)]) <;> (first | rw [if_pos c134] | rw [if_neg (Nat.ne_of_gt c134)])) _ _ hP hD hS ls (lv_sub hl [0, 1, 2, 3, 4, 5] rfl)
              · refine lv_iconst (v := (nI 1)) S.1 S.2.1 dL_closes_137 (by decide) ?_
                refine lv_goto (tgt := 142) S.1 S.2.1 dL_closes_138 (by decide) ?_
                refine n_add S dL_closes_142 ?_
                exact jn143 (0 + 1) (by rw [wke]; (first | rw [if_pos c116] | rw [if_neg (Nat.ne_of_gt c116)]) <;> (first | rw [if_pos c134] | rw [if_neg (Nat.ne_of_gt c134)])) _ _ hP hD hS ls (lv_sub hl [0, 1, 2, 3, 4, 5] rfl)
            · refine lv_iconst (v := (nI 1)) S.1 S.2.1 dL_closes_119 (by decide) ?_
              refine lv_goto (tgt := 124) S.1 S.2.1 dL_closes_120 (by decide) ?_
              refine lv_aload_n S.1 S.2.1 dL_closes_124 rfl (lv_at hl 1 rfl) ?_
              refine lv_bipush (v := (nI 7)) S.1 S.2.1 dL_closes_125 (by decide) ?_
              refine lv_iload S.1 S.2.1 dL_closes_127 (lv_at hl 4 rfl) ?_
              refine n_mul S dL_closes_129 ?_
              refine lv_bipush (v := (nI 6)) S.1 S.2.1 dL_closes_130 (by decide) ?_
              refine n_add S dL_closes_132 ?_
              refine g_iald S 1 hK hP rfl (by omega) dL_closes_133 ?_
              refine n_top (show (nI ((enf (upn wk (fun _ => 0) p)) ((7 * p) + 6))) = (nI (ent (wk p) 6)) from congrArg nI (by rw [en_at (by omega)]; exact congrArg (fun w => ent w 6) upn_at)) ?_
              refine n_zle S (tgt := 141) (Nat.lt_trans (ent_lt _ _) (by decide)) dL_closes_134 (by decide) (fun c134 => ?_) (fun c134 => ?_)
              · refine lv_iconst (v := (nI 0)) S.1 S.2.1 dL_closes_141 (by decide) ?_
                refine n_add S dL_closes_142 ?_
                exact jn143 (1 + 0) (by rw [wke]; (first | rw [if_pos c116] | rw [if_neg (Nat.ne_of_gt c116)]) <;> (first | rw [if_pos c134] | rw [if_neg (Nat.ne_of_gt c134)])) _ _ hP hD hS ls (lv_sub hl [0, 1, 2, 3, 4, 5] rfl)
              · refine lv_iconst (v := (nI 1)) S.1 S.2.1 dL_closes_137 (by decide) ?_
                refine lv_goto (tgt := 142) S.1 S.2.1 dL_closes_138 (by decide) ?_
                refine n_add S dL_closes_142 ?_
                exact jn143 (1 + 1) (by rw [wke]; (first | rw [if_pos c116] | rw [if_neg (Nat.ne_of_gt c116)]) <;> (first | rw [if_pos c134] | rw [if_neg (Nat.ne_of_gt c134)])) _ _ hP hD hS ls (lv_sub hl [0, 1, 2, 3, 4, 5] rfl)
          refine lv_iload S.1 S.2.1 dL_closes_48 (lv_at hl 4 rfl) ?_
          refine n_mul S dL_closes_50 ?_
          refine lv_iconst (v := (nI 4)) S.1 S.2.1 dL_closes_51 (by decide) ?_
          refine n_add S dL_closes_52 ?_
          refine lv_iload S.1 S.2.1 dL_closes_53 (lv_at hl 5 rfl) ?_
          refine lv_bipush (v := (nI 7)) S.1 S.2.1 dL_closes_55 (by decide) ?_
          refine n_cne S (tgt := 75) (by omega) dL_closes_57 (by decide) (fun c57 => ?_) (fun c57 => ?_)
          · refine lv_iload S.1 S.2.1 dL_closes_75 (lv_at hl 5 rfl) ?_
            exact jn77 r (by have q : r + 0 = rnb (wk p) (da p) 7 := row_n hrr c57; omega) _ _ hP hD hS ls (lv_sub hl [0, 1, 2, 3, 4, 5] rfl)
          · refine lv_bipush (v := (nI 7)) S.1 S.2.1 dL_closes_60 (by decide) ?_
            refine lv_aload_n S.1 S.2.1 dL_closes_62 rfl (lv_at hl 0 rfl) ?_
            refine lv_bipush (v := (nI 8)) S.1 S.2.1 dL_closes_63 (by decide) ?_
            refine lv_iload S.1 S.2.1 dL_closes_65 (lv_at hl 4 rfl) ?_
            refine n_mul S dL_closes_67 ?_
            refine lv_iconst (v := (nI 4)) S.1 S.2.1 dL_closes_68 (by decide) ?_
            refine n_add S dL_closes_69 ?_
            refine g_iald S 0 hK hP rfl (by omega) dL_closes_70 ?_
            refine n_top (show (nI ((hfn sk mo (upn wi (fun _ => 0) p) (upn la (clL wk) p) (upn da (clG wk da) p) (upn we (clE wk we) p)) ((8 * p) + 4))) = (nI (da p)) from congrArg nI (hf_4.trans upn_at)) ?_
            refine n_add S dL_closes_71 ?_
            refine lv_goto (tgt := 77) S.1 S.2.1 dL_closes_72 (by decide) ?_
            exact jn77 (7 + (da p)) (by have q : r + da p = rnb (wk p) (da p) 7 := row_y hrr c57; omega) _ _ hP hD hS ls (lv_sub hl [0, 1, 2, 3, 4, 5] rfl)
        refine lv_iconst (v := (nI 0)) S.1 S.2.1 dL_closes_11 (by decide) ?_
        refine lv_istore (lv' := [(5, .int (nI 0)), (0, .ref (z 0)), (1, .ref (z 1)), (2, .ref (z 2)), (3, .ref (z 6)), (4, .int (nI p))]) S.1 S.2.1 dL_closes_12 hl (by decide) rfl (fun ls hl => ?_)
        refine lv_bipush (v := (nI 6)) S.1 S.2.1 dL_closes_14 (by decide) ?_
        refine n_top (show nI 6 = nI (6 + 1) - nI 1 from by decide) ?_
        refine lv_istore (lv' := [(6, .int (nI (6 + 1) - nI 1)), (5, .int (nI 0)), (0, .ref (z 0)), (1, .ref (z 1)), (2, .ref (z 2)), (3, .ref (z 6)), (4, .int (nI p))]) S.1 S.2.1 dL_closes_16 hl (by decide) rfl (fun ls hl => ?_)
        have lp18 : ∀ (fu : Nat) (t : Nat) (r : Nat), (t ≤ 6 + 1) → (r = 6 + 1 - t) → (∀ j, t ≤ j → j ≤ 6 → ent (wk p) j ≠ 0) → (t) < fu → ∀ (H : Heap) (locs : List Loc), va_P D vwCl (lX cT z n ro cl fb rn nd sk mo (upn wk (fun _ => 0) p) (upn fx (fun _ => 0) p) (upn wi (fun _ => 0) p) (upn la (clL wk) p) (upn da (clG wk da) p) (upn we (clE wk we) p) Wv Bv) H → va_D A (lX cT z n ro cl fb rn nd sk mo (upn wk (fun _ => 0) p) (upn fx (fun _ => 0) p) (upn wi (fun _ => 0) p) (upn la (clL wk) p) (upn da (clG wk da) p) (upn we (clE wk we) p) Wv Bv) → va_S A s0.heap H locs → ∀ ls : Array Slot, lv_has ls 7 [(0, .ref (z 0)), (1, .ref (z 1)), (2, .ref (z 2)), (3, .ref (z 6)), (4, .int (nI p)), (5, .int (nI r)), (6, .int (nI t - nI 1))] → W p0 l e0 ({ frames := 0, cells := 0, slots := 0, locals := 0 } : Room) s0 m0 a0 b0 t0 c0 H locs 0 0 (MQ b0 (wQv (fun (_ : Unit) => True) D (fun (_ : Unit) => lX cT z n ro (cl + 1) fb rn nd sk mo (upn wk (fun _ => 0) n) (upn fx (fun _ => 0) n) (upn wi (fun _ => 0) n) (upn la (clL wk) n) (upn da (clG wk da) n) (upn we (clE wk we) n) Wv Bv) A) a0 s0 0 0 A) (F0 m0 18 ls []) := by
          intro fu
          induction fu with
          | zero =>
            intro t r h3 hr hru hm
            exact absurd hm (Nat.not_lt_zero _)
          | succ fu ih18 =>
            intro t r h3 hr hru hm H locs hP hD hS ls hl
            refine lv_iload S.1 S.2.1 dL_closes_18 (lv_at hl 6 rfl) ?_
            refine lv_if_lt (tgt := 45) S.1 S.2.1 dL_closes_20 (by decide) (fun c20 => ?_) (fun c20 => ?_)
            · exact jn45 r (row_all (by rw [fx_lt0 (by omega)] at c20; exact c20) hr hru) _ _ hP hD hS ls (lv_sub hl [0, 1, 2, 3, 4, 5] rfl)
            · have ht1 : 1 ≤ t := by have := (not_congr (fx_lt0 (n := t) (by omega))).mp c20; omega
              rw [sx_sub ht1] at hl
              refine lv_aload_n S.1 S.2.1 dL_closes_23 rfl (lv_at hl 1 rfl) ?_
              refine lv_bipush (v := (nI 7)) S.1 S.2.1 dL_closes_24 (by decide) ?_
              refine lv_iload S.1 S.2.1 dL_closes_26 (lv_at hl 4 rfl) ?_
              refine n_mul S dL_closes_28 ?_
              refine lv_iload S.1 S.2.1 dL_closes_29 (lv_at hl 6 rfl) ?_
              refine n_add S dL_closes_31 ?_
              refine g_iald S 1 hK hP rfl (by omega) dL_closes_32 ?_
              refine n_top (show (nI ((enf (upn wk (fun _ => 0) p)) ((7 * p) + (t - 1)))) = (nI (ent (wk p) (t - 1))) from congrArg nI (by rw [en_at (by omega)]; exact congrArg (fun w => ent w (t - 1)) upn_at)) ?_
              refine n_zle S (tgt := 45) (Nat.lt_trans (ent_lt _ _) (by decide)) dL_closes_33 (by decide) (fun c33 => ?_) (fun c33 => ?_)
              · exact jn45 r (row_cut ht1 h3 hr hru c33) _ _ hP hD hS ls (lv_sub hl [0, 1, 2, 3, 4, 5] rfl)
              · refine lv_iinc (v := (nI (r + 1))) (lv' := [(5, .int (nI (r + 1))), (0, .ref (z 0)), (1, .ref (z 1)), (2, .ref (z 2)), (3, .ref (z 6)), (4, .int (nI p)), (6, .int (nI (t - 1)))]) S.1 S.2.1 dL_closes_36 hl (k := 5) rfl (nI_1 _) (by decide) rfl (fun ls hl => ?_)
                refine lv_iinc (v := (nI (t - 1) - nI 1)) (lv' := [(6, .int (nI (t - 1) - nI 1)), (5, .int (nI (r + 1))), (0, .ref (z 0)), (1, .ref (z 1)), (2, .ref (z 2)), (3, .ref (z 6)), (4, .int (nI p))]) S.1 S.2.1 dL_closes_39 hl (k := 6) rfl (dec_I _) (by decide) rfl (fun ls hl => ?_)
                refine lv_goto (tgt := 18) S.1 S.2.1 dL_closes_42 (by decide) ?_
                exact ih18 (t - 1) (r + 1) (by omega) (by omega) (fun j h1 h2 => by by_cases e : j = t - 1; rw [e]; omega; exact hru j (by omega) h2) (by omega) _ _ hP hD hS ls (lv_sub hl [2, 3, 4, 5, 6, 1, 0] rfl)
        exact lp18 _ (6 + 1) 0 (Nat.le_refl _) (rfl) (fun j h1 h2 => by omega) (Nat.lt_succ_self _) _ _ hP hD hS ls (lv_sub hl [2, 3, 4, 5, 6, 1, 0] rfl)
  exact lp3 _ 0 (Nat.zero_le _) (Nat.lt_succ_self _) _ _ hP hD hS ls (lv_sub hl [1, 2, 3, 4, 0] rfl)

