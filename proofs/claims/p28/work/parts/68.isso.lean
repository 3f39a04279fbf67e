/-! all answers of the desk beside the law's own -/
theorem sw_z {can : Nat → Bool} {wk : Nat → Nat} : ∀ k, ((swf can (fun j => shc (wk j) 0 7) k).1 = 0 ∧ (swf can (fun j => shc (wk j) 0 7) k).2 = 8) ∨ ∃ m, (swf can (fun j => shc (wk j) 0 7) k).1 = m + 1 ∧ (swf can (fun j => shc (wk j) 0 7) k).2 = shc (wk m) 0 7 := by
  intro k
  induction k with
  | zero => exact Or.inl ⟨rfl, rfl⟩
  | succ k ih =>
    by_cases q : can k = true ∧ shc (wk k) 0 7 < (swf can (fun j => shc (wk j) 0 7) k).2
    · rw [swf_y q.1 q.2]; exact Or.inr ⟨k, rfl, rfl⟩
    · rw [swf_n (by by_cases h : can k = true; exact Or.inr (Nat.le_of_not_lt (fun z => q ⟨h, z⟩)); exact Or.inl (by simpa using h))]; exact ih
theorem sw_y {can : Nat → Bool} {wk : Nat → Nat} {k f : Nat} (hf : f = (swf can (fun j => shc (wk j) 0 7) k).1) (h : can k = true) (h2 : f = 0 ∨ (1 ≤ f ∧ shc (wk k) 0 7 < shc (wk (f - 1)) 0 7)) : k + 1 = (swf can (fun j => shc (wk j) 0 7) (k + 1)).1 := by
  have hs := shc_le (wk k) 0 7
  rw [swf_y h ?_]
  rcases sw_z (can := can) (wk := wk) k with ⟨e1, e2⟩ | ⟨m, e1, e2⟩
  · rw [e2]; show shc (wk k) 0 7 < 8; omega
  · rw [e2]
    rcases h2 with q | ⟨q1, q2⟩
    · omega
    · rw [hf, e1, Nat.add_sub_cancel] at q2; exact q2
theorem sw_n {can : Nat → Bool} {wk : Nat → Nat} {k f : Nat} (hf : f = (swf can (fun j => shc (wk j) 0 7) k).1) (h : can k = false ∨ (1 ≤ f ∧ shc (wk (f - 1)) 0 7 ≤ shc (wk k) 0 7)) : f = (swf can (fun j => shc (wk j) 0 7) (k + 1)).1 := by
  rw [swf_n ?_]
  · exact hf
  · rcases h with h | ⟨q1, q2⟩
    · exact Or.inl h
    · refine Or.inr ?_
      rcases sw_z (can := can) (wk := wk) k with ⟨e1, e2⟩ | ⟨m, e1, e2⟩
      · omega
      · rw [e2]; rw [hf, e1, Nat.add_sub_cancel] at q2; exact q2

theorem pd_L_isSo : yL_isSo.cls ≠ "java/lang/invoke/MethodHandle" ∧ yL_isSo.cls ≠ "java/lang/invoke/VarHandle" ∧ (parseMethodDescriptor yL_isSo.desc).map (fun d => d.parameters.length) = some 9 := by decide +kernel
set_option maxHeartbeats 4000000 in
set_option maxRecDepth 100000 in
theorem w_L_isSo (l : Launch) (D : va_G) (cT : ClassId × ClassId × ClassId) (sz : Nat) (z c pa : Nat → Nat) (bd a6 a7 n ro cl fb rn : Nat) (nd sk mo wk fx wi la da we : Nat → Nat) (Wv Bv : Nat → Int32) (V V2 PR : Nat → Int64) (zz : Int32) (hwf : wfC n bd fb rn nd sk mo wk fx wi la da we) (hz : ∀ k, k < 4 → bit fb k = 0) (hro : ro ≤ 10) : Met l yL_isSo wsL_isSo ({ frames := 6, cells := 0, slots := 0, locals := 143 } : Room) (va_Pc [.ref (c 0), .int zz, .ref (z 4), .ref (z 5), .ref (z 0), .ref (z 1), .ref (z 2), .ref (z 3), .ref (z 6)] (wr_R D (TY cT) (lX cT z n ro cl fb rn nd sk mo wk fx wi la da we Wv Bv ++ (cX cT c a6 a7 n ro cl fb rn nd V V2 PR pa ++ pool n pa (per sk mo wk fx wi la da we))) sz)) (wQi (fun (r_ : Int32) (_ : (Nat → Int32) × (Nat → Int32) × Nat × Nat × (Nat → Int64) × (Nat → Int64)) => r_ = nI true.toNat) D (fun (u_ : (Nat → Int32) × (Nat → Int32) × Nat × Nat × (Nat → Int64) × (Nat → Int64)) => lX cT z n ro cl fb rn nd sk mo wk fx wi la da we u_.1 u_.2.1 ++ (cX cT c u_.2.2.1 u_.2.2.2.1 n ro cl fb rn nd u_.2.2.2.2.1 u_.2.2.2.2.2 PR pa ++ pool n pa (per sk mo wk fx wi la da we))) (va_A (lX cT z n ro cl fb rn nd sk mo wk fx wi la da we Wv Bv ++ (cX cT c a6 a7 n ro cl fb rn nd V V2 PR pa ++ pool n pa (per sk mo wk fx wi la da we))) sz)) 0 0 (va_A (lX cT z n ro cl fb rn nd sk mo wk fx wi la da we Wv Bv ++ (cX cT c a6 a7 n ro cl fb rn nd V V2 PR pa ++ pool n pa (per sk mo wk fx wi la da we))) sz) := by
  refine wr_start (cc := cL_isSo) (maxL := 15) (ret := (some .boolean)) RL ⟨by decide +kernel, rfl⟩ rfl (Nat.le_of_ble_eq_true rfl) ?_
  intro p0 e0 s0 m0 a0 b0 t0 c0 S hr hlocks hin hP hK hA hD hS ls hl
  generalize va_A (lX cT z n ro cl fb rn nd sk mo wk fx wi la da we Wv Bv ++ (cX cT c a6 a7 n ro cl fb rn nd V V2 PR pa ++ pool n pa (per sk mo wk fx wi la da we))) sz = A at hA hD hS ⊢
  have hl : lv_has ls 15 [(0, .ref (c 0)), (1, .int zz), (2, .ref (z 4)), (3, .ref (z 5)), (4, .ref (z 0)), (5, .ref (z 1)), (6, .ref (z 2)), (7, .ref (z 3)), (8, .ref (z 6))] := hl
  obtain ⟨hn, hcl, hfb, hrn, hnd, hper⟩ := id hwf
  have hgl := gpd_le (n := n) (wk := wk) hnd 7
  have hbl := bnd_le (n := n) (sk := sk) hnd 7
  refine lv_aload_n S.1 S.2.1 dL_isSo_0 rfl (lv_at hl 0 rfl) ?_
  refine rd_callV (rest := []) S (r_X8_people l D cT c pa bd a6 a7 n ro cl fb rn nd sk mo wk fx wi la da we V V2 PR (hwf)) gL_isSo_X8_people rfl pd_X8_people ⟨rfl, rfl, Nat.le_of_ble_eq_true rfl, Nat.le_of_ble_eq_true rfl⟩ (fr_r hP) hK (va_recv hK.1 (fr_r hP) (ci := 6) (q0 := 0) rfl rfl) hl rfl rfl (Nat.le_of_ble_eq_true rfl) ⟨Nat.zero_le _, Nat.zero_le _⟩ dL_isSo_1 ?_
  refine lv_aload S.1 S.2.1 dL_isSo_4 (lv_at hl 8 rfl) ?_
  refine lv_iconst (v := (nI 0)) S.1 S.2.1 dL_isSo_6 (by decide) ?_
  refine g_iald S 6 hK hP rfl (by omega) dL_isSo_7 ?_
  refine n_top (show (nI ((qfn n cl ro) 0)) = (nI n) from rfl) ?_
  refine n_cne S (tgt := 58) (by omega) dL_isSo_8 (by decide) (fun c8 => ?_) (fun c8 => ?_)
  · exact absurd rfl c8
  refine lv_aload_n S.1 S.2.1 dL_isSo_11 rfl (lv_at hl 0 rfl) ?_
  refine rd_callV (rest := []) S (r_X8_gaps l D cT c pa bd a6 a7 n ro cl fb rn nd sk mo wk fx wi la da we V V2 PR (hwf)) gL_isSo_X8_gaps rfl pd_X8_gaps ⟨rfl, rfl, Nat.le_of_ble_eq_true rfl, Nat.le_of_ble_eq_true rfl⟩ (fr_r hP) hK (va_recv hK.1 (fr_r hP) (ci := 6) (q0 := 0) rfl rfl) hl rfl rfl (Nat.le_of_ble_eq_true rfl) ⟨Nat.zero_le _, Nat.zero_le _⟩ dL_isSo_12 ?_
  refine lv_aload S.1 S.2.1 dL_isSo_15 (lv_at hl 5 rfl) ?_
  refine lv_aload S.1 S.2.1 dL_isSo_17 (lv_at hl 7 rfl) ?_
  refine lv_aload S.1 S.2.1 dL_isSo_19 (lv_at hl 8 rfl) ?_
  refine rd_callS (rest := [.int (nI (gpd n nd wk 7))]) S (r_L_gaps l D cT z bd n ro cl fb rn nd sk mo wk fx wi la da we Wv Bv (hwf)) gL_isSo_L_gaps rfl pd_L_gaps ⟨rfl, rfl, Nat.le_of_ble_eq_true rfl, Nat.le_of_ble_eq_true rfl⟩ (fr_l hP) hK hl rfl rfl (Nat.le_of_ble_eq_true rfl) ⟨Nat.zero_le _, Nat.zero_le _⟩ dL_isSo_21 ?_
  refine n_cne S (tgt := 58) (by omega) dL_isSo_24 (by decide) (fun c24 => ?_) (fun c24 => ?_)
  · exact absurd rfl c24
  refine lv_aload_n S.1 S.2.1 dL_isSo_27 rfl (lv_at hl 0 rfl) ?_
  refine rd_callV (rest := []) S (r_X8_rounds l D cT c pa bd a6 a7 n ro cl fb rn nd sk mo wk fx wi la da we V V2 PR (hwf)) gL_isSo_X8_rounds rfl pd_X8_rounds ⟨rfl, rfl, Nat.le_of_ble_eq_true rfl, Nat.le_of_ble_eq_true rfl⟩ (fr_r hP) hK (va_recv hK.1 (fr_r hP) (ci := 6) (q0 := 0) rfl rfl) hl rfl rfl (Nat.le_of_ble_eq_true rfl) ⟨Nat.zero_le _, Nat.zero_le _⟩ dL_isSo_28 ?_
  refine lv_aload S.1 S.2.1 dL_isSo_31 (lv_at hl 8 rfl) ?_
  refine lv_iconst (v := (nI 2)) S.1 S.2.1 dL_isSo_33 (by decide) ?_
  refine g_iald S 6 hK hP rfl (by omega) dL_isSo_34 ?_
  refine n_top (show (nI ((qfn n cl ro) 2)) = (nI ro) from rfl) ?_
  refine n_cne S (tgt := 58) (by omega) dL_isSo_35 (by decide) (fun c35 => ?_) (fun c35 => ?_)
  · exact absurd rfl c35
  refine lv_aload_n S.1 S.2.1 dL_isSo_38 rfl (lv_at hl 0 rfl) ?_
  refine rd_callV (rest := []) S (r_X8_bound l D cT c pa bd a6 a7 n ro cl fb rn nd sk mo wk fx wi la da we V V2 PR (hwf)) gL_isSo_X8_bound rfl pd_X8_bound ⟨rfl, rfl, Nat.le_of_ble_eq_true rfl, Nat.le_of_ble_eq_true rfl⟩ (fr_r hP) hK (va_recv hK.1 (fr_r hP) (ci := 6) (q0 := 0) rfl rfl) hl rfl rfl (Nat.le_of_ble_eq_true rfl) ⟨Nat.zero_le _, Nat.zero_le _⟩ dL_isSo_39 ?_
  refine lv_aload S.1 S.2.1 dL_isSo_42 (lv_at hl 4 rfl) ?_
  refine lv_aload S.1 S.2.1 dL_isSo_44 (lv_at hl 7 rfl) ?_
  refine lv_aload S.1 S.2.1 dL_isSo_46 (lv_at hl 8 rfl) ?_
  refine rd_callS (rest := [.int (nI (bnd n nd sk 7))]) S (r_L_bound l D cT z bd n ro cl fb rn nd sk mo wk fx wi la da we Wv Bv (hwf)) gL_isSo_L_bound rfl pd_L_bound ⟨rfl, rfl, Nat.le_of_ble_eq_true rfl, Nat.le_of_ble_eq_true rfl⟩ (fr_l hP) hK hl rfl rfl (Nat.le_of_ble_eq_true rfl) ⟨Nat.zero_le _, Nat.zero_le _⟩ dL_isSo_48 ?_
  refine n_cne S (tgt := 58) (by omega) dL_isSo_51 (by decide) (fun c51 => ?_) (fun c51 => ?_)
  · exact absurd rfl c51
  refine lv_iconst (v := (nI 1)) S.1 S.2.1 dL_isSo_54 (by decide) ?_
  refine lv_goto (tgt := 59) S.1 S.2.1 dL_isSo_55 (by decide) ?_
  refine lv_istore (lv' := [(9, .int (nI 1)), (0, .ref (c 0)), (1, .int zz), (2, .ref (z 4)), (3, .ref (z 5)), (4, .ref (z 0)), (5, .ref (z 1)), (6, .ref (z 2)), (7, .ref (z 3)), (8, .ref (z 6))]) S.1 S.2.1 dL_isSo_59 hl (by decide) rfl (fun ls hl => ?_)
  refine lv_iconst (v := (nI 0)) S.1 S.2.1 dL_isSo_61 (by decide) ?_
  refine lv_istore (lv' := [(10, .int (nI 0)), (9, .int (nI 1)), (0, .ref (c 0)), (1, .int zz), (2, .ref (z 4)), (3, .ref (z 5)), (4, .ref (z 0)), (5, .ref (z 1)), (6, .ref (z 2)), (7, .ref (z 3)), (8, .ref (z 6))]) S.1 S.2.1 dL_isSo_62 hl (by decide) rfl (fun ls hl => ?_)
  have lp64 : ∀ (fu : Nat) (p : Nat) (W1 : Nat → Int32), (p ≤ n) → (n - p) < fu → ∀ (H : Heap) (locs : List Loc), va_P D vwCl (lX cT z n ro cl fb rn nd sk mo wk fx wi la da we W1 Bv ++ (cX cT c a6 a7 n ro cl fb rn nd V V2 PR pa ++ pool n pa (per sk mo wk fx wi la da we))) H → va_D A (lX cT z n ro cl fb rn nd sk mo wk fx wi la da we W1 Bv ++ (cX cT c a6 a7 n ro cl fb rn nd V V2 PR pa ++ pool n pa (per sk mo wk fx wi la da we))) → va_S A s0.heap H locs → ∀ ls : Array Slot, lv_has ls 15 [(0, .ref (c 0)), (1, .int zz), (2, .ref (z 4)), (3, .ref (z 5)), (4, .ref (z 0)), (5, .ref (z 1)), (6, .ref (z 2)), (7, .ref (z 3)), (8, .ref (z 6)), (9, .int (nI 1)), (10, .int (nI p))] → W p0 l e0 ({ frames := 6, cells := 0, slots := 0, locals := 143 } : Room) s0 m0 a0 b0 t0 c0 H locs 0 0 (MQ b0 (wQi (fun (r_ : Int32) (_ : (Nat → Int32) × (Nat → Int32) × Nat × Nat × (Nat → Int64) × (Nat → Int64)) => r_ = nI true.toNat) D (fun (u_ : (Nat → Int32) × (Nat → Int32) × Nat × Nat × (Nat → Int64) × (Nat → Int64)) => lX cT z n ro cl fb rn nd sk mo wk fx wi la da we u_.1 u_.2.1 ++ (cX cT c u_.2.2.1 u_.2.2.2.1 n ro cl fb rn nd u_.2.2.2.2.1 u_.2.2.2.2.2 PR pa ++ pool n pa (per sk mo wk fx wi la da we))) A) a0 s0 0 0 A) (F0 m0 64 ls []) := by
    intro fu
    induction fu with
    | zero =>
      intro p W1 h2 hm
      exact absurd hm (Nat.not_lt_zero _)
    | succ fu ih64 =>
      intro p W1 h2 hm H locs hP hD hS ls hl
      have hpp := hper p
      have hsl := shc_le (wk p) 0 7
      have hbl2 := brc_le (wi p) (wk p) 7
      refine lv_iload S.1 S.2.1 dL_isSo_64 (lv_at hl 10 rfl) ?_
      refine lv_aload S.1 S.2.1 dL_isSo_66 (lv_at hl 8 rfl) ?_
      refine lv_iconst (v := (nI 0)) S.1 S.2.1 dL_isSo_68 (by decide) ?_
      refine g_iald S 6 hK hP rfl (by omega) dL_isSo_69 ?_
      refine n_top (show (nI ((qfn n cl ro) 0)) = (nI n) from rfl) ?_
      refine n_cge S (tgt := 254) (by omega) dL_isSo_70 (by decide) (fun c70 => ?_) (fun c70 => ?_)
      · refine lv_iload_n S.1 S.2.1 dL_isSo_254 rfl (lv_at hl 1 rfl) ?_
        refine lv_bipush (v := (nI 7)) S.1 S.2.1 dL_isSo_255 (by decide) ?_
        refine rd_callS (rest := []) S (r_L_low l D cT zz 7 (by decide)) gL_isSo_L_low rfl pd_L_low ⟨rfl, rfl, Nat.le_of_ble_eq_true rfl, Nat.le_of_ble_eq_true rfl⟩ (sx_P0 D _) hK hl rfl rfl (Nat.le_of_ble_eq_true rfl) ⟨Nat.zero_le _, Nat.zero_le _⟩ dL_isSo_257 ?_
        have hdy := Nat.mod_lt (lowb zz) (show 7 > 0 from by decide)
        generalize lowb zz % 7 = dy at hdy ⊢
        refine lv_istore (lv' := [(10, .int (nI dy)), (0, .ref (c 0)), (1, .int zz), (2, .ref (z 4)), (3, .ref (z 5)), (4, .ref (z 0)), (5, .ref (z 1)), (6, .ref (z 2)), (7, .ref (z 3)), (8, .ref (z 6)), (9, .int (nI 1))]) S.1 S.2.1 dL_isSo_260 hl (by decide) rfl (fun ls hl => ?_)
        refine lv_iconst (v := (nI 1)) S.1 S.2.1 dL_isSo_262 (by decide) ?_
        refine lv_istore (lv' := [(11, .int (nI 1)), (10, .int (nI dy)), (0, .ref (c 0)), (1, .int zz), (2, .ref (z 4)), (3, .ref (z 5)), (4, .ref (z 0)), (5, .ref (z 1)), (6, .ref (z 2)), (7, .ref (z 3)), (8, .ref (z 6)), (9, .int (nI 1))]) S.1 S.2.1 dL_isSo_263 hl (by decide) rfl (fun ls hl => ?_)
        have lp265 : ∀ (fu : Nat) (k : Nat) (W1 : Nat → Int32), (1 ≤ k ∧ k ≤ 4) → (4 - k) < fu → ∀ (H : Heap) (locs : List Loc), va_P D vwCl (lX cT z n ro cl fb rn nd sk mo wk fx wi la da we W1 Bv ++ (cX cT c a6 a7 n ro cl fb rn nd V V2 PR pa ++ pool n pa (per sk mo wk fx wi la da we))) H → va_D A (lX cT z n ro cl fb rn nd sk mo wk fx wi la da we W1 Bv ++ (cX cT c a6 a7 n ro cl fb rn nd V V2 PR pa ++ pool n pa (per sk mo wk fx wi la da we))) → va_S A s0.heap H locs → ∀ ls : Array Slot, lv_has ls 15 [(0, .ref (c 0)), (1, .int zz), (2, .ref (z 4)), (3, .ref (z 5)), (4, .ref (z 0)), (5, .ref (z 1)), (6, .ref (z 2)), (7, .ref (z 3)), (8, .ref (z 6)), (9, .int (nI 1)), (10, .int (nI dy)), (11, .int (nI k))] → W p0 l e0 ({ frames := 6, cells := 0, slots := 0, locals := 143 } : Room) s0 m0 a0 b0 t0 c0 H locs 0 0 (MQ b0 (wQi (fun (r_ : Int32) (_ : (Nat → Int32) × (Nat → Int32) × Nat × Nat × (Nat → Int64) × (Nat → Int64)) => r_ = nI true.toNat) D (fun (u_ : (Nat → Int32) × (Nat → Int32) × Nat × Nat × (Nat → Int64) × (Nat → Int64)) => lX cT z n ro cl fb rn nd sk mo wk fx wi la da we u_.1 u_.2.1 ++ (cX cT c u_.2.2.1 u_.2.2.2.1 n ro cl fb rn nd u_.2.2.2.2.1 u_.2.2.2.2.2 PR pa ++ pool n pa (per sk mo wk fx wi la da we))) A) a0 s0 0 0 A) (F0 m0 265 ls []) := by
          intro fu
          induction fu with
          | zero =>
            intro k W1 hk hm
            exact absurd hm (Nat.not_lt_zero _)
          | succ fu ih265 =>
            intro k W1 hk hm H locs hP hD hS ls hl
            refine lv_iload S.1 S.2.1 dL_isSo_265 (lv_at hl 11 rfl) ?_
            refine lv_iconst (v := (nI 4)) S.1 S.2.1 dL_isSo_267 (by decide) ?_
            refine n_cge S (tgt := 418) (by omega) dL_isSo_268 (by decide) (fun c268 => ?_) (fun c268 => ?_)
            · refine lv_aload S.1 S.2.1 dL_isSo_418 (lv_at hl 8 rfl) ?_
              refine lv_iconst (v := (nI 0)) S.1 S.2.1 dL_isSo_420 (by decide) ?_
              refine g_iald S 6 hK hP rfl (by omega) dL_isSo_421 ?_
              refine n_top (show (nI ((qfn n cl ro) 0)) = (nI n) from rfl) ?_
              refine n_zle S (tgt := 610) (by omega) dL_isSo_422 (by decide) (fun c422 => ?_) (fun c422 => ?_)
              · refine lv_iload S.1 S.2.1 dL_isSo_610 (lv_at hl 9 rfl) ?_
                exact wr_iret S ((W1, Bv, a6, a7, V, V2)) hr (by decide) hlocks (rfl) (hP) (hD) hS dL_isSo_612
              · refine lv_iload S.1 S.2.1 dL_isSo_425 (lv_at hl 9 rfl) ?_
                refine n_zeq S (tgt := 610) (by decide) dL_isSo_427 (by decide) (fun q => absurd q (by decide)) (fun _ => ?_)
                refine lv_iload_n S.1 S.2.1 dL_isSo_430 rfl (lv_at hl 1 rfl) ?_
                refine lv_iconst (v := (nI 3)) S.1 S.2.1 dL_isSo_431 (by decide) ?_
                refine lv_ishr S.1 S.2.1 dL_isSo_432 ?_
                refine lv_aload S.1 S.2.1 dL_isSo_433 (lv_at hl 8 rfl) ?_
                refine lv_iconst (v := (nI 0)) S.1 S.2.1 dL_isSo_435 (by decide) ?_
                refine g_iald S 6 hK hP rfl (by omega) dL_isSo_436 ?_
                refine n_top (show (nI ((qfn n cl ro) 0)) = (nI n) from rfl) ?_
                refine rd_callS (rest := []) S (r_L_low l D cT (zz >>> ((nI 3) &&& 31)) n (⟨c422, by omega⟩)) gL_isSo_L_low rfl pd_L_low ⟨rfl, rfl, Nat.le_of_ble_eq_true rfl, Nat.le_of_ble_eq_true rfl⟩ (sx_P0 D _) hK hl rfl rfl (Nat.le_of_ble_eq_true rfl) ⟨Nat.zero_le _, Nat.zero_le _⟩ dL_isSo_437 ?_
                have hi1 := Nat.mod_lt (lowb (zz >>> (nI 3 &&& 31))) c422
                generalize lowb (zz >>> (nI 3 &&& 31)) % n = i1 at hi1 ⊢
                refine lv_istore (lv' := [(11, .int (nI i1)), (0, .ref (c 0)), (1, .int zz), (2, .ref (z 4)), (3, .ref (z 5)), (4, .ref (z 0)), (5, .ref (z 1)), (6, .ref (z 2)), (7, .ref (z 3)), (8, .ref (z 6)), (9, .int (nI 1)), (10, .int (nI dy))]) S.1 S.2.1 dL_isSo_440 hl (by decide) rfl (fun ls hl => ?_)
                refine lv_iconst (v := (-1)) S.1 S.2.1 dL_isSo_442 (by decide) ?_
                refine n_top (show (-1 : Int32) = nI 0 - nI 1 from by decide) ?_
                refine lv_istore (lv' := [(12, .int (nI 0 - nI 1)), (11, .int (nI i1)), (0, .ref (c 0)), (1, .int zz), (2, .ref (z 4)), (3, .ref (z 5)), (4, .ref (z 0)), (5, .ref (z 1)), (6, .ref (z 2)), (7, .ref (z 3)), (8, .ref (z 6)), (9, .int (nI 1)), (10, .int (nI dy))]) S.1 S.2.1 dL_isSo_443 hl (by decide) rfl (fun ls hl => ?_)
                refine lv_iconst (v := (nI 0)) S.1 S.2.1 dL_isSo_445 (by decide) ?_
                refine lv_istore (lv' := [(13, .int (nI 0)), (12, .int (nI 0 - nI 1)), (11, .int (nI i1)), (0, .ref (c 0)), (1, .int zz), (2, .ref (z 4)), (3, .ref (z 5)), (4, .ref (z 0)), (5, .ref (z 1)), (6, .ref (z 2)), (7, .ref (z 3)), (8, .ref (z 6)), (9, .int (nI 1)), (10, .int (nI dy))]) S.1 S.2.1 dL_isSo_446 hl (by decide) rfl (fun ls hl => ?_)
                have lp448 : ∀ (fu : Nat) (f : Nat) (q2 : Nat) (W2 : Nat → Int32), (q2 ≤ n) → (f = (swf (swc sk mo wk fx la da fb rn i1 dy) (fun j => shc (wk j) 0 7) q2).1) → (n - q2) < fu → ∀ (H : Heap) (locs : List Loc), va_P D vwCl (lX cT z n ro cl fb rn nd sk mo wk fx wi la da we W2 Bv ++ (cX cT c a6 a7 n ro cl fb rn nd V V2 PR pa ++ pool n pa (per sk mo wk fx wi la da we))) H → va_D A (lX cT z n ro cl fb rn nd sk mo wk fx wi la da we W2 Bv ++ (cX cT c a6 a7 n ro cl fb rn nd V V2 PR pa ++ pool n pa (per sk mo wk fx wi la da we))) → va_S A s0.heap H locs → ∀ ls : Array Slot, lv_has ls 15 [(0, .ref (c 0)), (1, .int zz), (2, .ref (z 4)), (3, .ref (z 5)), (4, .ref (z 0)), (5, .ref (z 1)), (6, .ref (z 2)), (7, .ref (z 3)), (8, .ref (z 6)), (9, .int (nI 1)), (10, .int (nI dy)), (11, .int (nI i1)), (12, .int (nI f - nI 1)), (13, .int (nI q2))] → W p0 l e0 ({ frames := 6, cells := 0, slots := 0, locals := 143 } : Room) s0 m0 a0 b0 t0 c0 H locs 0 0 (MQ b0 (wQi (fun (r_ : Int32) (_ : (Nat → Int32) × (Nat → Int32) × Nat × Nat × (Nat → Int64) × (Nat → Int64)) => r_ = nI true.toNat) D (fun (u_ : (Nat → Int32) × (Nat → Int32) × Nat × Nat × (Nat → Int64) × (Nat → Int64)) => lX cT z n ro cl fb rn nd sk mo wk fx wi la da we u_.1 u_.2.1 ++ (cX cT c u_.2.2.1 u_.2.2.2.1 n ro cl fb rn nd u_.2.2.2.2.1 u_.2.2.2.2.2 PR pa ++ pool n pa (per sk mo wk fx wi la da we))) A) a0 s0 0 0 A) (F0 m0 448 ls []) := by
                  intro fu
                  induction fu with
                  | zero =>
                    intro f q2 W2 h3 hfo hm
                    exact absurd hm (Nat.not_lt_zero _)
                  | succ fu ih448 =>
                    intro f q2 W2 h3 hfo hm H locs hP hD hS ls hl
                    have hfl := (swf_le (can := swc sk mo wk fx la da fb rn i1 dy) (its := fun j => shc (wk j) 0 7) q2).1
                    have hs1 := shc_le (wk q2) 0 7
                    have hs2 := shc_le (wk (f - 1)) 0 7
                    refine lv_iload S.1 S.2.1 dL_isSo_448 (lv_at hl 13 rfl) ?_
                    refine lv_aload S.1 S.2.1 dL_isSo_450 (lv_at hl 8 rfl) ?_
                    refine lv_iconst (v := (nI 0)) S.1 S.2.1 dL_isSo_452 (by decide) ?_
                    refine g_iald S 6 hK hP rfl (by omega) dL_isSo_453 ?_
                    refine n_top (show (nI ((qfn n cl ro) 0)) = (nI n) from rfl) ?_
                    refine n_cge S (tgt := 552) (by omega) dL_isSo_454 (by decide) (fun c454 => ?_) (fun c454 => ?_)
                    · refine lv_iload S.1 S.2.1 dL_isSo_552 (lv_at hl 11 rfl) ?_
                      refine lv_iconst (v := (nI 0)) S.1 S.2.1 dL_isSo_554 (by decide) ?_
                      refine lv_aload_n S.1 S.2.1 dL_isSo_555 rfl (lv_at hl 2 rfl) ?_
                      refine lv_aload_n S.1 S.2.1 dL_isSo_556 rfl (lv_at hl 3 rfl) ?_
                      refine lv_aload S.1 S.2.1 dL_isSo_557 (lv_at hl 4 rfl) ?_
                      refine lv_aload S.1 S.2.1 dL_isSo_559 (lv_at hl 6 rfl) ?_
                      refine lv_aload S.1 S.2.1 dL_isSo_561 (lv_at hl 7 rfl) ?_
                      refine fr1_callSi (rest := []) S (w_L_weeks l D cT _ z bd n ro cl fb rn nd sk mo wk fx wi la da we W2 Bv i1 0 (hwf) (hz) (by omega) (by decide)) gL_isSo_L_weeks rfl pd_L_weeks ⟨rfl, rfl, Nat.le_of_ble_eq_true rfl, Nat.le_of_ble_eq_true rfl⟩ hP hK hD hS hA hl rfl rfl (Nat.le_of_ble_eq_true rfl) ⟨Nat.zero_le _, Nat.zero_le _⟩ dL_isSo_563 (fun r_ u1 H locs hr_ hP hD hS => ?_)
                      obtain ⟨hr1_, hb_⟩ := hr_
                      subst hr1_
                      have hP : va_P D vwCl (lX cT z n ro cl fb rn nd sk mo wk fx wi la da we u1.1 u1.2 ++ (cX cT c a6 a7 n ro cl fb rn nd V V2 PR pa ++ pool n pa (per sk mo wk fx wi la da we))) H := hP
                      have hD : va_D A (lX cT z n ro cl fb rn nd sk mo wk fx wi la da we u1.1 u1.2 ++ (cX cT c a6 a7 n ro cl fb rn nd V V2 PR pa ++ pool n pa (per sk mo wk fx wi la da we))) := hD
                      refine lv_istore (lv' := [(13, .int (nI (cnw (fe sk mo fx la da fb rn i1) 16384))), (0, .ref (c 0)), (1, .int zz), (2, .ref (z 4)), (3, .ref (z 5)), (4, .ref (z 0)), (5, .ref (z 1)), (6, .ref (z 2)), (7, .ref (z 3)), (8, .ref (z 6)), (9, .int (nI 1)), (10, .int (nI dy)), (11, .int (nI i1)), (12, .int (nI f - nI 1))]) S.1 S.2.1 dL_isSo_566 hl (by decide) rfl (fun ls hl => ?_)
                      refine lv_aload_n S.1 S.2.1 dL_isSo_568 rfl (lv_at hl 1 rfl) ?_
                      refine lv_iload S.1 S.2.1 dL_isSo_569 (lv_at hl 12 rfl) ?_
                      refine lv_iload S.1 S.2.1 dL_isSo_571 (lv_at hl 11 rfl) ?_
                      refine rd_callV (rest := []) S (r_X8_swapFor_ok l D cT c pa bd a6 a7 n ro cl fb rn nd sk mo wk fx wi la da we V V2 PR i1 dy (hwf) (hi1) (hdy)) gL_isSo_X8_swapFor rfl pd_X8_swapFor ⟨rfl, rfl, Nat.le_of_ble_eq_true rfl, Nat.le_of_ble_eq_true rfl⟩ (fr_r hP) hK (va_recv hK.1 (fr_r hP) (ci := 6) (q0 := 0) rfl rfl) hl rfl rfl (Nat.le_of_ble_eq_true rfl) ⟨Nat.zero_le _, Nat.zero_le _⟩ dL_isSo_573 ?_
                      refine lv_iload S.1 S.2.1 dL_isSo_576 (lv_at hl 13 rfl) ?_
                      refine lv_icmp_ne (tgt := 607) S.1 S.2.1 dL_isSo_578 (by decide) (fun c578 => ?_) (fun c578 => ?_)
                      · exact absurd (by rw [hfo, show q2 = n by omega]) c578
                      refine lv_aload_n S.1 S.2.1 dL_isSo_581 rfl (lv_at hl 1 rfl) ?_
                      refine lv_iload S.1 S.2.1 dL_isSo_582 (lv_at hl 12 rfl) ?_
                      refine rd_callV (rest := []) S (r_X8_weeks_ok l D cT c pa bd a6 a7 n ro cl fb rn nd sk mo wk fx wi la da we V V2 PR i1 (hwf) (by omega)) gL_isSo_X8_weeks rfl pd_X8_weeks ⟨rfl, rfl, Nat.le_of_ble_eq_true rfl, Nat.le_of_ble_eq_true rfl⟩ (fr_r hP) hK (va_recv hK.1 (fr_r hP) (ci := 6) (q0 := 0) rfl rfl) hl rfl rfl (Nat.le_of_ble_eq_true rfl) ⟨Nat.zero_le _, Nat.zero_le _⟩ dL_isSo_584 ?_
                      refine lv_iload S.1 S.2.1 dL_isSo_587 (lv_at hl 0 rfl) ?_
                      refine n_cne S (tgt := 607) (⟨Nat.lt_of_le_of_lt (cnw_le _ _) (by decide), Nat.lt_of_le_of_lt (cnw_le _ _) (by decide)⟩) dL_isSo_589 (by decide) (fun c589 => ?_) (fun c589 => ?_)
                      · exact absurd rfl c589
                      refine lv_aload_n S.1 S.2.1 dL_isSo_592 rfl (lv_at hl 1 rfl) ?_
                      refine lv_iload S.1 S.2.1 dL_isSo_593 (lv_at hl 12 rfl) ?_
                      refine fr2_callVi (rest := []) S (w_X8_weeksByDays l D cT _ c pa bd a6 a7 n ro cl fb rn nd sk mo wk fx wi la da we V V2 PR i1 (hwf) (hi1)) gL_isSo_X8_weeksByDays rfl pd_X8_weeksByDays ⟨rfl, rfl, Nat.le_of_ble_eq_true rfl, Nat.le_of_ble_eq_true rfl⟩ hP hK hD hS hA (va_recv hK.1 (fr_r hP) (ci := 6) (q0 := 0) rfl rfl) hl rfl rfl (Nat.le_of_ble_eq_true rfl) ⟨Nat.zero_le _, Nat.zero_le _⟩ dL_isSo_595 (fun r_ u2 H locs hr_ hP hD hS => ?_)
                      subst hr_
                      have hP : va_P D vwCl (lX cT z n ro cl fb rn nd sk mo wk fx wi la da we u1.1 u1.2 ++ (cX cT c u2.1 u2.2.1 n ro cl fb rn nd u2.2.2.1 u2.2.2.2 PR pa ++ pool n pa (per sk mo wk fx wi la da we))) H := hP
                      have hD : va_D A (lX cT z n ro cl fb rn nd sk mo wk fx wi la da we u1.1 u1.2 ++ (cX cT c u2.1 u2.2.1 n ro cl fb rn nd u2.2.2.1 u2.2.2.2 PR pa ++ pool n pa (per sk mo wk fx wi la da we))) := hD
                      refine lv_iload S.1 S.2.1 dL_isSo_598 (lv_at hl 0 rfl) ?_
                      refine n_cne S (tgt := 607) (⟨Nat.lt_of_le_of_lt (cnw_le _ _) (by decide), Nat.lt_of_le_of_lt (cnw_le _ _) (by decide)⟩) dL_isSo_600 (by decide) (fun c600 => ?_) (fun c600 => ?_)
                      · exact absurd rfl c600
                      refine lv_iconst (v := (nI 1)) S.1 S.2.1 dL_isSo_603 (by decide) ?_
                      refine lv_goto (tgt := 608) S.1 S.2.1 dL_isSo_604 (by decide) ?_
                      refine lv_istore (lv' := [(9, .int (nI 1)), (13, .int (nI (cnw (fe sk mo fx la da fb rn i1) 16384))), (0, .ref (c 0)), (1, .int zz), (2, .ref (z 4)), (3, .ref (z 5)), (4, .ref (z 0)), (5, .ref (z 1)), (6, .ref (z 2)), (7, .ref (z 3)), (8, .ref (z 6)), (10, .int (nI dy)), (11, .int (nI i1)), (12, .int (nI f - nI 1))]) S.1 S.2.1 dL_isSo_608 hl (by decide) rfl (fun ls hl => ?_)
                      refine lv_iload S.1 S.2.1 dL_isSo_610 (lv_at hl 0 rfl) ?_
                      exact wr_iret S ((u1.1, u1.2, u2.1, u2.2.1, u2.2.2.1, u2.2.2.2)) hr (by decide) hlocks (rfl) (hP) (hD) hS dL_isSo_612
                    · refine lv_aload S.1 S.2.1 dL_isSo_457 (lv_at hl 5 rfl) ?_
                      refine lv_bipush (v := (nI 7)) S.1 S.2.1 dL_isSo_459 (by decide) ?_
                      refine lv_iload S.1 S.2.1 dL_isSo_461 (lv_at hl 11 rfl) ?_
                      refine n_mul S dL_isSo_463 ?_
                      refine lv_iload S.1 S.2.1 dL_isSo_464 (lv_at hl 10 rfl) ?_
                      refine n_add S dL_isSo_466 ?_
                      refine g_iald S 1 hK hP rfl (by omega) dL_isSo_467 ?_
                      refine n_top (show (nI ((enf wk) ((7 * i1) + dy))) = (nI (ent (wk i1) dy)) from congrArg nI (en_at (by omega))) ?_
                      refine lv_aload S.1 S.2.1 dL_isSo_468 (lv_at hl 5 rfl) ?_
                      refine lv_bipush (v := (nI 7)) S.1 S.2.1 dL_isSo_470 (by decide) ?_
                      refine lv_iload S.1 S.2.1 dL_isSo_472 (lv_at hl 13 rfl) ?_
                      refine n_mul S dL_isSo_474 ?_
                      refine lv_iload S.1 S.2.1 dL_isSo_475 (lv_at hl 10 rfl) ?_
                      refine n_add S dL_isSo_477 ?_
                      refine g_iald S 1 hK hP rfl (by omega) dL_isSo_478 ?_
                      refine n_top (show (nI ((enf wk) ((7 * q2) + dy))) = (nI (ent (wk q2) dy)) from congrArg nI (en_at (by omega))) ?_
                      refine n_ceq S (tgt := 507) (⟨Nat.lt_trans (ent_lt _ _) (by decide), Nat.lt_trans (ent_lt _ _) (by decide)⟩) dL_isSo_479 (by decide) (fun c479 => ?_) (fun c479 => ?_)
                      · refine lv_iconst (v := (nI 0)) S.1 S.2.1 dL_isSo_507 (by decide) ?_
                        refine lv_istore (lv' := [(14, .int (nI 0)), (0, .ref (c 0)), (1, .int zz), (2, .ref (z 4)), (3, .ref (z 5)), (4, .ref (z 0)), (5, .ref (z 1)), (6, .ref (z 2)), (7, .ref (z 3)), (8, .ref (z 6)), (9, .int (nI 1)), (10, .int (nI dy)), (11, .int (nI i1)), (12, .int (nI f - nI 1)), (13, .int (nI q2))]) S.1 S.2.1 dL_isSo_508 hl (by decide) rfl (fun ls hl => ?_)
                        refine lv_iload S.1 S.2.1 dL_isSo_510 (lv_at hl 0 rfl) ?_
                        refine n_zeq S (tgt := 542) (by decide) dL_isSo_512 (by decide) (fun _ => ?_) (fun q => absurd q (by decide))
                        refine lv_iload S.1 S.2.1 dL_isSo_542 (lv_at hl 13 rfl) ?_
                        refine lv_istore (lv' := [(12, .int (nI f - nI 1)), (14, .int (nI 0)), (0, .ref (c 0)), (1, .int zz), (2, .ref (z 4)), (3, .ref (z 5)), (4, .ref (z 0)), (5, .ref (z 1)), (6, .ref (z 2)), (7, .ref (z 3)), (8, .ref (z 6)), (9, .int (nI 1)), (10, .int (nI dy)), (11, .int (nI i1)), (13, .int (nI q2))]) S.1 S.2.1 dL_isSo_544 hl (by decide) rfl (fun ls hl => ?_)
                        refine lv_iinc (v := (nI (q2 + 1))) (lv' := [(13, .int (nI (q2 + 1))), (12, .int (nI f - nI 1)), (14, .int (nI 0)), (0, .ref (c 0)), (1, .int zz), (2, .ref (z 4)), (3, .ref (z 5)), (4, .ref (z 0)), (5, .ref (z 1)), (6, .ref (z 2)), (7, .ref (z 3)), (8, .ref (z 6)), (9, .int (nI 1)), (10, .int (nI dy)), (11, .int (nI i1))]) S.1 S.2.1 dL_isSo_546 hl (k := 14) rfl (nI_1 _) (by decide) rfl (fun ls hl => ?_)
                        refine lv_goto (tgt := 448) S.1 S.2.1 dL_isSo_549 (by decide) ?_
                        exact ih448 f (q2 + 1) W2 (by omega) (sw_n hfo (Or.inl (swc_f1 c479))) (by omega) _ _ hP hD hS ls (lv_sub hl [3, 4, 5, 6, 7, 8, 9, 10, 11, 12, 13, 14, 1, 0] rfl)
                      · refine lv_iload S.1 S.2.1 dL_isSo_482 (lv_at hl 11 rfl) ?_
                        refine lv_iload S.1 S.2.1 dL_isSo_484 (lv_at hl 13 rfl) ?_
                        refine lv_iload S.1 S.2.1 dL_isSo_486 (lv_at hl 10 rfl) ?_
                        refine lv_aload_n S.1 S.2.1 dL_isSo_488 rfl (lv_at hl 2 rfl) ?_
                        refine lv_aload S.1 S.2.1 dL_isSo_489 (lv_at hl 4 rfl) ?_
                        refine lv_aload S.1 S.2.1 dL_isSo_491 (lv_at hl 5 rfl) ?_
                        refine lv_aload S.1 S.2.1 dL_isSo_493 (lv_at hl 6 rfl) ?_
                        refine lv_aload S.1 S.2.1 dL_isSo_495 (lv_at hl 7 rfl) ?_
                        refine fr1_callSi (rest := []) S (w_L_canSwap l D cT _ z bd n ro cl fb rn nd sk mo wk fx wi la da we W2 Bv i1 q2 dy (hwf) (hz) (by omega) (by omega) (hdy)) gL_isSo_L_canSwap rfl pd_L_canSwap ⟨rfl, rfl, Nat.le_of_ble_eq_true rfl, Nat.le_of_ble_eq_true rfl⟩ hP hK hD hS hA hl rfl rfl (Nat.le_of_ble_eq_true rfl) ⟨Nat.zero_le _, Nat.zero_le _⟩ dL_isSo_497 (fun r_ u_ H locs hr_ hP hD hS => ?_)
                        subst hr_
                        have hP : va_P D vwCl (lX cT z n ro cl fb rn nd sk mo wk fx wi la da we u_ Bv ++ (cX cT c a6 a7 n ro cl fb rn nd V V2 PR pa ++ pool n pa (per sk mo wk fx wi la da we))) H := hP
                        have hD : va_D A (lX cT z n ro cl fb rn nd sk mo wk fx wi la da we u_ Bv ++ (cX cT c a6 a7 n ro cl fb rn nd V V2 PR pa ++ pool n pa (per sk mo wk fx wi la da we))) := hD
                        refine n_beq S (tgt := 507) dL_isSo_500 (by decide) (fun c500 => ?_) (fun c500 => ?_)
                        · refine lv_iconst (v := (nI 0)) S.1 S.2.1 dL_isSo_507 (by decide) ?_
                          refine lv_istore (lv' := [(14, .int (nI 0)), (0, .ref (c 0)), (1, .int zz), (2, .ref (z 4)), (3, .ref (z 5)), (4, .ref (z 0)), (5, .ref (z 1)), (6, .ref (z 2)), (7, .ref (z 3)), (8, .ref (z 6)), (9, .int (nI 1)), (10, .int (nI dy)), (11, .int (nI i1)), (12, .int (nI f - nI 1)), (13, .int (nI q2))]) S.1 S.2.1 dL_isSo_508 hl (by decide) rfl (fun ls hl => ?_)
                          refine lv_iload S.1 S.2.1 dL_isSo_510 (lv_at hl 0 rfl) ?_
                          refine n_zeq S (tgt := 542) (by decide) dL_isSo_512 (by decide) (fun _ => ?_) (fun q => absurd q (by decide))
                          refine lv_iload S.1 S.2.1 dL_isSo_542 (lv_at hl 13 rfl) ?_
                          refine lv_istore (lv' := [(12, .int (nI f - nI 1)), (14, .int (nI 0)), (0, .ref (c 0)), (1, .int zz), (2, .ref (z 4)), (3, .ref (z 5)), (4, .ref (z 0)), (5, .ref (z 1)), (6, .ref (z 2)), (7, .ref (z 3)), (8, .ref (z 6)), (9, .int (nI 1)), (10, .int (nI dy)), (11, .int (nI i1)), (13, .int (nI q2))]) S.1 S.2.1 dL_isSo_544 hl (by decide) rfl (fun ls hl => ?_)
                          refine lv_iinc (v := (nI (q2 + 1))) (lv' := [(13, .int (nI (q2 + 1))), (12, .int (nI f - nI 1)), (14, .int (nI 0)), (0, .ref (c 0)), (1, .int zz), (2, .ref (z 4)), (3, .ref (z 5)), (4, .ref (z 0)), (5, .ref (z 1)), (6, .ref (z 2)), (7, .ref (z 3)), (8, .ref (z 6)), (9, .int (nI 1)), (10, .int (nI dy)), (11, .int (nI i1))]) S.1 S.2.1 dL_isSo_546 hl (k := 14) rfl (nI_1 _) (by decide) rfl (fun ls hl => ?_)
                          refine lv_goto (tgt := 448) S.1 S.2.1 dL_isSo_549 (by decide) ?_
                          exact ih448 f (q2 + 1) u_ (by omega) (sw_n hfo (Or.inl (swc_f2 c500))) (by omega) _ _ hP hD hS ls (lv_sub hl [3, 4, 5, 6, 7, 8, 9, 10, 11, 12, 13, 14, 1, 0] rfl)
                        · refine lv_iconst (v := (nI 1)) S.1 S.2.1 dL_isSo_503 (by decide) ?_
                          refine lv_goto (tgt := 508) S.1 S.2.1 dL_isSo_504 (by decide) ?_
                          refine lv_istore (lv' := [(14, .int (nI 1)), (0, .ref (c 0)), (1, .int zz), (2, .ref (z 4)), (3, .ref (z 5)), (4, .ref (z 0)), (5, .ref (z 1)), (6, .ref (z 2)), (7, .ref (z 3)), (8, .ref (z 6)), (9, .int (nI 1)), (10, .int (nI dy)), (11, .int (nI i1)), (12, .int (nI f - nI 1)), (13, .int (nI q2))]) S.1 S.2.1 dL_isSo_508 hl (by decide) rfl (fun ls hl => ?_)
                          refine lv_iload S.1 S.2.1 dL_isSo_510 (lv_at hl 0 rfl) ?_
                          refine n_zeq S (tgt := 542) (by decide) dL_isSo_512 (by decide) (fun q => absurd q (by decide)) (fun _ => ?_)
                          refine lv_iload S.1 S.2.1 dL_isSo_515 (lv_at hl 13 rfl) ?_
                          refine lv_if_lt (tgt := 537) S.1 S.2.1 dL_isSo_517 (by decide) (fun c517 => ?_) (fun c517 => ?_)
                          · refine lv_iload S.1 S.2.1 dL_isSo_537 (lv_at hl 14 rfl) ?_
                            refine lv_goto (tgt := 544) S.1 S.2.1 dL_isSo_539 (by decide) ?_
                            refine n_top (show nI q2 = nI (q2 + 1) - nI 1 from by rw [sx_sub (by omega), Nat.add_sub_cancel]) ?_
                            refine lv_istore (lv' := [(12, .int (nI (q2 + 1) - nI 1)), (14, .int (nI 1)), (0, .ref (c 0)), (1, .int zz), (2, .ref (z 4)), (3, .ref (z 5)), (4, .ref (z 0)), (5, .ref (z 1)), (6, .ref (z 2)), (7, .ref (z 3)), (8, .ref (z 6)), (9, .int (nI 1)), (10, .int (nI dy)), (11, .int (nI i1)), (13, .int (nI q2))]) S.1 S.2.1 dL_isSo_544 hl (by decide) rfl (fun ls hl => ?_)
                            refine lv_iinc (v := (nI (q2 + 1))) (lv' := [(13, .int (nI (q2 + 1))), (12, .int (nI (q2 + 1) - nI 1)), (14, .int (nI 1)), (0, .ref (c 0)), (1, .int zz), (2, .ref (z 4)), (3, .ref (z 5)), (4, .ref (z 0)), (5, .ref (z 1)), (6, .ref (z 2)), (7, .ref (z 3)), (8, .ref (z 6)), (9, .int (nI 1)), (10, .int (nI dy)), (11, .int (nI i1))]) S.1 S.2.1 dL_isSo_546 hl (k := 14) rfl (nI_1 _) (by decide) rfl (fun ls hl => ?_)
                            refine lv_goto (tgt := 448) S.1 S.2.1 dL_isSo_549 (by decide) ?_
                            exact ih448 (q2 + 1) (q2 + 1) u_ (by omega) (sw_y hfo (swc_t c479 c500) (Or.inl ((fx_neg (by omega)).mp c517))) (by omega) _ _ hP hD hS ls (lv_sub hl [3, 4, 5, 6, 7, 8, 9, 10, 11, 12, 13, 14, 1, 0] rfl)
                          · have hf1 : 1 ≤ f := by have := (not_congr (fx_neg (n := f) (by omega))).mp c517; omega
                            rw [sx_sub hf1] at hl
                            refine lv_iload S.1 S.2.1 dL_isSo_520 (lv_at hl 14 rfl) ?_
                            refine lv_aload S.1 S.2.1 dL_isSo_522 (lv_at hl 6 rfl) ?_
                            refine rd_callS (rest := []) S (r_L_shifts l D cT z bd n ro cl fb rn nd sk mo wk fx wi la da we u_ Bv q2 (hwf) (by omega)) gL_isSo_L_shifts rfl pd_L_shifts ⟨rfl, rfl, Nat.le_of_ble_eq_true rfl, Nat.le_of_ble_eq_true rfl⟩ (fr_l hP) hK hl rfl rfl (Nat.le_of_ble_eq_true rfl) ⟨Nat.zero_le _, Nat.zero_le _⟩ dL_isSo_524 ?_
                            refine lv_iload S.1 S.2.1 dL_isSo_527 (lv_at hl 13 rfl) ?_
                            refine lv_aload S.1 S.2.1 dL_isSo_529 (lv_at hl 6 rfl) ?_
                            refine rd_callS (rest := [.int (nI (shc (wk q2) 0 7))]) S (r_L_shifts l D cT z bd n ro cl fb rn nd sk mo wk fx wi la da we u_ Bv (f - 1) (hwf) (by omega)) gL_isSo_L_shifts rfl pd_L_shifts ⟨rfl, rfl, Nat.le_of_ble_eq_true rfl, Nat.le_of_ble_eq_true rfl⟩ (fr_l hP) hK hl rfl rfl (Nat.le_of_ble_eq_true rfl) ⟨Nat.zero_le _, Nat.zero_le _⟩ dL_isSo_531 ?_
                            refine n_cge S (tgt := 542) (by omega) dL_isSo_534 (by decide) (fun c534 => ?_) (fun c534 => ?_)
                            · refine lv_iload S.1 S.2.1 dL_isSo_542 (lv_at hl 13 rfl) ?_
                              refine n_top (show nI (f - 1) = nI f - nI 1 from (sx_sub hf1).symm) ?_
                              refine lv_istore (lv' := [(12, .int (nI f - nI 1)), (14, .int (nI 1)), (0, .ref (c 0)), (1, .int zz), (2, .ref (z 4)), (3, .ref (z 5)), (4, .ref (z 0)), (5, .ref (z 1)), (6, .ref (z 2)), (7, .ref (z 3)), (8, .ref (z 6)), (9, .int (nI 1)), (10, .int (nI dy)), (11, .int (nI i1)), (13, .int (nI q2))]) S.1 S.2.1 dL_isSo_544 hl (by decide) rfl (fun ls hl => ?_)
                              refine lv_iinc (v := (nI (q2 + 1))) (lv' := [(13, .int (nI (q2 + 1))), (12, .int (nI f - nI 1)), (14, .int (nI 1)), (0, .ref (c 0)), (1, .int zz), (2, .ref (z 4)), (3, .ref (z 5)), (4, .ref (z 0)), (5, .ref (z 1)), (6, .ref (z 2)), (7, .ref (z 3)), (8, .ref (z 6)), (9, .int (nI 1)), (10, .int (nI dy)), (11, .int (nI i1))]) S.1 S.2.1 dL_isSo_546 hl (k := 14) rfl (nI_1 _) (by decide) rfl (fun ls hl => ?_)
                              refine lv_goto (tgt := 448) S.1 S.2.1 dL_isSo_549 (by decide) ?_
                              exact ih448 f (q2 + 1) u_ (by omega) (sw_n hfo (Or.inr ⟨hf1, c534⟩)) (by omega) _ _ hP hD hS ls (lv_sub hl [3, 4, 5, 6, 7, 8, 9, 10, 11, 12, 13, 14, 1, 0] rfl)
                            · refine lv_iload S.1 S.2.1 dL_isSo_537 (lv_at hl 14 rfl) ?_
                              refine lv_goto (tgt := 544) S.1 S.2.1 dL_isSo_539 (by decide) ?_
                              refine n_top (show nI q2 = nI (q2 + 1) - nI 1 from by rw [sx_sub (by omega), Nat.add_sub_cancel]) ?_
                              refine lv_istore (lv' := [(12, .int (nI (q2 + 1) - nI 1)), (14, .int (nI 1)), (0, .ref (c 0)), (1, .int zz), (2, .ref (z 4)), (3, .ref (z 5)), (4, .ref (z 0)), (5, .ref (z 1)), (6, .ref (z 2)), (7, .ref (z 3)), (8, .ref (z 6)), (9, .int (nI 1)), (10, .int (nI dy)), (11, .int (nI i1)), (13, .int (nI q2))]) S.1 S.2.1 dL_isSo_544 hl (by decide) rfl (fun ls hl => ?_)
                              refine lv_iinc (v := (nI (q2 + 1))) (lv' := [(13, .int (nI (q2 + 1))), (12, .int (nI (q2 + 1) - nI 1)), (14, .int (nI 1)), (0, .ref (c 0)), (1, .int zz), (2, .ref (z 4)), (3, .ref (z 5)), (4, .ref (z 0)), (5, .ref (z 1)), (6, .ref (z 2)), (7, .ref (z 3)), (8, .ref (z 6)), (9, .int (nI 1)), (10, .int (nI dy)), (11, .int (nI i1))]) S.1 S.2.1 dL_isSo_546 hl (k := 14) rfl (nI_1 _) (by decide) rfl (fun ls hl => ?_)
                              refine lv_goto (tgt := 448) S.1 S.2.1 dL_isSo_549 (by decide) ?_
                              exact ih448 (q2 + 1) (q2 + 1) u_ (by omega) (sw_y hfo (swc_t c479 c500) (Or.inr ⟨hf1, c534⟩)) (by omega) _ _ hP hD hS ls (lv_sub hl [3, 4, 5, 6, 7, 8, 9, 10, 11, 12, 13, 14, 1, 0] rfl)
                exact lp448 _ 0 0 W1 (Nat.zero_le _) (rfl) (Nat.lt_succ_self _) _ _ hP hD hS ls (lv_sub hl [3, 4, 5, 6, 7, 8, 9, 10, 11, 12, 13, 2, 1, 0] rfl)
            · refine lv_iload S.1 S.2.1 dL_isSo_271 (lv_at hl 9 rfl) ?_
              refine n_zeq S (tgt := 418) (by decide) dL_isSo_273 (by decide) (fun q => absurd q (by decide)) (fun _ => ?_)
              refine lv_iconst (v := (nI 0)) S.1 S.2.1 dL_isSo_276 (by decide) ?_
              refine lv_istore (lv' := [(12, .int (nI 0)), (0, .ref (c 0)), (1, .int zz), (2, .ref (z 4)), (3, .ref (z 5)), (4, .ref (z 0)), (5, .ref (z 1)), (6, .ref (z 2)), (7, .ref (z 3)), (8, .ref (z 6)), (9, .int (nI 1)), (10, .int (nI dy)), (11, .int (nI k))]) S.1 S.2.1 dL_isSo_277 hl (by decide) rfl (fun ls hl => ?_)
              refine lv_iconst (v := (nI 0)) S.1 S.2.1 dL_isSo_279 (by decide) ?_
              refine lv_istore (lv' := [(13, .int (nI 0)), (12, .int (nI 0)), (0, .ref (c 0)), (1, .int zz), (2, .ref (z 4)), (3, .ref (z 5)), (4, .ref (z 0)), (5, .ref (z 1)), (6, .ref (z 2)), (7, .ref (z 3)), (8, .ref (z 6)), (9, .int (nI 1)), (10, .int (nI dy)), (11, .int (nI k))]) S.1 S.2.1 dL_isSo_280 hl (by decide) rfl (fun ls hl => ?_)
              have lp282 : ∀ (fu : Nat) (t : Nat) (p2 : Nat) (W2 : Nat → Int32), (p2 ≤ n) → (t = ctk (ctf sk mo wk fx la da fb rn dy k) p2) → (n - p2) < fu → ∀ (H : Heap) (locs : List Loc), va_P D vwCl (lX cT z n ro cl fb rn nd sk mo wk fx wi la da we W2 Bv ++ (cX cT c a6 a7 n ro cl fb rn nd V V2 PR pa ++ pool n pa (per sk mo wk fx wi la da we))) H → va_D A (lX cT z n ro cl fb rn nd sk mo wk fx wi la da we W2 Bv ++ (cX cT c a6 a7 n ro cl fb rn nd V V2 PR pa ++ pool n pa (per sk mo wk fx wi la da we))) → va_S A s0.heap H locs → ∀ ls : Array Slot, lv_has ls 15 [(0, .ref (c 0)), (1, .int zz), (2, .ref (z 4)), (3, .ref (z 5)), (4, .ref (z 0)), (5, .ref (z 1)), (6, .ref (z 2)), (7, .ref (z 3)), (8, .ref (z 6)), (9, .int (nI 1)), (10, .int (nI dy)), (11, .int (nI k)), (12, .int (nI t)), (13, .int (nI p2))] → W p0 l e0 ({ frames := 6, cells := 0, slots := 0, locals := 143 } : Room) s0 m0 a0 b0 t0 c0 H locs 0 0 (MQ b0 (wQi (fun (r_ : Int32) (_ : (Nat → Int32) × (Nat → Int32) × Nat × Nat × (Nat → Int64) × (Nat → Int64)) => r_ = nI true.toNat) D (fun (u_ : (Nat → Int32) × (Nat → Int32) × Nat × Nat × (Nat → Int64) × (Nat → Int64)) => lX cT z n ro cl fb rn nd sk mo wk fx wi la da we u_.1 u_.2.1 ++ (cX cT c u_.2.2.1 u_.2.2.2.1 n ro cl fb rn nd u_.2.2.2.2.1 u_.2.2.2.2.2 PR pa ++ pool n pa (per sk mo wk fx wi la da we))) A) a0 s0 0 0 A) (F0 m0 282 ls []) := by
                intro fu
                induction fu with
                | zero =>
                  intro t p2 W2 h3 ht hm
                  exact absurd hm (Nat.not_lt_zero _)
                | succ fu ih282 =>
                  intro t p2 W2 h3 ht hm H locs hP hD hS ls hl
                  refine lv_iload S.1 S.2.1 dL_isSo_282 (lv_at hl 13 rfl) ?_
                  refine lv_aload S.1 S.2.1 dL_isSo_284 (lv_at hl 8 rfl) ?_
                  refine lv_iconst (v := (nI 0)) S.1 S.2.1 dL_isSo_286 (by decide) ?_
                  refine g_iald S 6 hK hP rfl (by omega) dL_isSo_287 ?_
                  refine n_top (show (nI ((qfn n cl ro) 0)) = (nI n) from rfl) ?_
                  refine n_cge S (tgt := 345) (by omega) dL_isSo_288 (by decide) (fun c288 => ?_) (fun c288 => ?_)
                  · have ht2 : t = ctk (ctf sk mo wk fx la da fb rn dy k) n := by rw [ht, show p2 = n by omega]
                    have hct : ctk (ctf sk mo wk fx la da fb rn dy k) n < 2 ^ 8 := Nat.lt_of_lt_of_le (ctk_lt _ n) (Nat.pow_le_pow_right (by decide) hn)
                    have hcg := cg_le n wk 99 dy k 8
                    have hq := hnd (dy * 4 + k)
                    refine lv_aload S.1 S.2.1 dL_isSo_345 (lv_at hl 7 rfl) ?_
                    refine lv_iconst (v := (nI 4)) S.1 S.2.1 dL_isSo_347 (by decide) ?_
                    refine lv_iload S.1 S.2.1 dL_isSo_348 (lv_at hl 10 rfl) ?_
                    refine n_mul S dL_isSo_350 ?_
                    refine lv_iload S.1 S.2.1 dL_isSo_351 (lv_at hl 11 rfl) ?_
                    refine n_add S dL_isSo_353 ?_
                    refine g_iald S 3 hK hP rfl (by omega) dL_isSo_354 ?_
                    refine n_top (show (nI ((nfn fb rn nd) ((4 * dy) + k))) = (nI (nd (dy * 4 + k))) from congrArg nI (by rw [nf_n (by omega), Nat.mul_comm 4 dy])) ?_
                    refine lv_iload S.1 S.2.1 dL_isSo_355 (lv_at hl 10 rfl) ?_
                    refine lv_iload S.1 S.2.1 dL_isSo_357 (lv_at hl 11 rfl) ?_
                    refine lv_iconst (v := (-1)) S.1 S.2.1 dL_isSo_359 (by decide) ?_
                    refine lv_aload S.1 S.2.1 dL_isSo_360 (lv_at hl 5 rfl) ?_
                    refine lv_aload S.1 S.2.1 dL_isSo_362 (lv_at hl 8 rfl) ?_
                    refine rd_callS (rest := [.int (nI (nd (dy * 4 + k)))]) S (r_L_count l D cT z bd n ro cl fb rn nd sk mo wk fx wi la da we W2 Bv dy k (hwf) (hdy) (by omega)) gL_isSo_L_count rfl pd_L_count ⟨rfl, rfl, Nat.le_of_ble_eq_true rfl, Nat.le_of_ble_eq_true rfl⟩ (fr_l hP) hK hl rfl rfl (Nat.le_of_ble_eq_true rfl) ⟨Nat.zero_le _, Nat.zero_le _⟩ dL_isSo_364 ?_
                    refine lv_isub S.1 S.2.1 dL_isSo_367 ?_
                    refine lv_istore (lv' := [(13, .int ((nI (nd (dy * 4 + k))) - (nI (cg n wk 99 dy k 8)))), (0, .ref (c 0)), (1, .int zz), (2, .ref (z 4)), (3, .ref (z 5)), (4, .ref (z 0)), (5, .ref (z 1)), (6, .ref (z 2)), (7, .ref (z 3)), (8, .ref (z 6)), (9, .int (nI 1)), (10, .int (nI dy)), (11, .int (nI k)), (12, .int (nI t))]) S.1 S.2.1 dL_isSo_368 hl (by decide) rfl (fun ls hl => ?_)
                    refine lv_aload_n S.1 S.2.1 dL_isSo_370 rfl (lv_at hl 1 rfl) ?_
                    refine lv_iload S.1 S.2.1 dL_isSo_371 (lv_at hl 11 rfl) ?_
                    refine lv_iload S.1 S.2.1 dL_isSo_373 (lv_at hl 12 rfl) ?_
                    refine rd_callV (rest := []) S (r_X8_couldTake_ok l D cT c pa bd a6 a7 n ro cl fb rn nd sk mo wk fx wi la da we V V2 PR dy k (hwf) (hdy) (by omega)) gL_isSo_X8_couldTake rfl pd_X8_couldTake ⟨rfl, rfl, Nat.le_of_ble_eq_true rfl, Nat.le_of_ble_eq_true rfl⟩ (fr_r hP) hK (va_recv hK.1 (fr_r hP) (ci := 6) (q0 := 0) rfl rfl) hl rfl rfl (Nat.le_of_ble_eq_true rfl) ⟨Nat.zero_le _, Nat.zero_le _⟩ dL_isSo_375 ?_
                    refine lv_iload S.1 S.2.1 dL_isSo_378 (lv_at hl 13 rfl) ?_
                    refine n_cne S (tgt := 409) (by omega) dL_isSo_380 (by decide) (fun c380 => ?_) (fun c380 => ?_)
                    · exact absurd ht2.symm c380
                    refine lv_aload_n S.1 S.2.1 dL_isSo_383 rfl (lv_at hl 1 rfl) ?_
                    refine lv_iload S.1 S.2.1 dL_isSo_384 (lv_at hl 11 rfl) ?_
                    refine lv_iload S.1 S.2.1 dL_isSo_386 (lv_at hl 12 rfl) ?_
                    refine rd_callV (rest := []) S (r_X8_gap_ok l D cT c pa bd a6 a7 n ro cl fb rn nd sk mo wk fx wi la da we V V2 PR dy k (hwf) (hdy) (by omega)) gL_isSo_X8_gap rfl pd_X8_gap ⟨rfl, rfl, Nat.le_of_ble_eq_true rfl, Nat.le_of_ble_eq_true rfl⟩ (fr_r hP) hK (va_recv hK.1 (fr_r hP) (ci := 6) (q0 := 0) rfl rfl) hl rfl rfl (Nat.le_of_ble_eq_true rfl) ⟨Nat.zero_le _, Nat.zero_le _⟩ dL_isSo_388 ?_
                    refine lv_iload S.1 S.2.1 dL_isSo_391 (lv_at hl 0 rfl) ?_
                    refine lv_if_le (tgt := 401) S.1 S.2.1 dL_isSo_393 (by decide) (fun c393 => ?_) (fun c393 => ?_)
                    · refine lv_iconst (v := (nI 0)) S.1 S.2.1 dL_isSo_401 (by decide) ?_
                      refine n_top (show nI 0 = nI (gpw n nd wk 99 dy k) from by show nI 0 = nI (nd (dy * 4 + k) - cg n wk 99 dy k 8); rw [Nat.sub_eq_zero_of_le ((dif_le0 ⟨by omega, by omega⟩).mp c393)]) ?_
                      refine n_cne S (tgt := 409) (⟨by show nd (dy * 4 + k) - _ < _; omega, by show nd (dy * 4 + k) - _ < _; omega⟩) dL_isSo_402 (by decide) (fun c402 => ?_) (fun c402 => ?_)
                      · exact absurd rfl c402
                      refine lv_iconst (v := (nI 1)) S.1 S.2.1 dL_isSo_405 (by decide) ?_
                      refine lv_goto (tgt := 410) S.1 S.2.1 dL_isSo_406 (by decide) ?_
                      refine lv_istore (lv' := [(9, .int (nI 1)), (13, .int ((nI (nd (dy * 4 + k))) - (nI (cg n wk 99 dy k 8)))), (0, .ref (c 0)), (1, .int zz), (2, .ref (z 4)), (3, .ref (z 5)), (4, .ref (z 0)), (5, .ref (z 1)), (6, .ref (z 2)), (7, .ref (z 3)), (8, .ref (z 6)), (10, .int (nI dy)), (11, .int (nI k)), (12, .int (nI t))]) S.1 S.2.1 dL_isSo_410 hl (by decide) rfl (fun ls hl => ?_)
                      refine lv_iinc (v := (nI (k + 1))) (lv' := [(11, .int (nI (k + 1))), (9, .int (nI 1)), (13, .int ((nI (nd (dy * 4 + k))) - (nI (cg n wk 99 dy k 8)))), (0, .ref (c 0)), (1, .int zz), (2, .ref (z 4)), (3, .ref (z 5)), (4, .ref (z 0)), (5, .ref (z 1)), (6, .ref (z 2)), (7, .ref (z 3)), (8, .ref (z 6)), (10, .int (nI dy)), (12, .int (nI t))]) S.1 S.2.1 dL_isSo_412 hl (k := 12) rfl (nI_1 _) (by decide) rfl (fun ls hl => ?_)
                      refine lv_goto (tgt := 265) S.1 S.2.1 dL_isSo_415 (by decide) ?_
                      exact ih265 (k + 1) W2 (by omega) (by omega) _ _ hP hD hS ls (lv_sub hl [3, 4, 5, 6, 7, 8, 9, 10, 11, 1, 12, 0] rfl)
                    · refine lv_iload S.1 S.2.1 dL_isSo_396 (lv_at hl 0 rfl) ?_
                      refine lv_goto (tgt := 402) S.1 S.2.1 dL_isSo_398 (by decide) ?_
                      refine n_top (show ((nI (nd (dy * 4 + k))) - (nI (cg n wk 99 dy k 8))) = nI (gpw n nd wk 99 dy k) from sx_sub (Nat.le_of_lt (Nat.lt_of_not_le (fun z => c393 ((dif_le0 ⟨by omega, by omega⟩).mpr z))))) ?_
                      refine n_cne S (tgt := 409) (⟨by show nd (dy * 4 + k) - _ < _; omega, by show nd (dy * 4 + k) - _ < _; omega⟩) dL_isSo_402 (by decide) (fun c402 => ?_) (fun c402 => ?_)
                      · exact absurd rfl c402
                      refine lv_iconst (v := (nI 1)) S.1 S.2.1 dL_isSo_405 (by decide) ?_
                      refine lv_goto (tgt := 410) S.1 S.2.1 dL_isSo_406 (by decide) ?_
                      refine lv_istore (lv' := [(9, .int (nI 1)), (13, .int ((nI (nd (dy * 4 + k))) - (nI (cg n wk 99 dy k 8)))), (0, .ref (c 0)), (1, .int zz), (2, .ref (z 4)), (3, .ref (z 5)), (4, .ref (z 0)), (5, .ref (z 1)), (6, .ref (z 2)), (7, .ref (z 3)), (8, .ref (z 6)), (10, .int (nI dy)), (11, .int (nI k)), (12, .int (nI t))]) S.1 S.2.1 dL_isSo_410 hl (by decide) rfl (fun ls hl => ?_)
                      refine lv_iinc (v := (nI (k + 1))) (lv' := [(11, .int (nI (k + 1))), (9, .int (nI 1)), (13, .int ((nI (nd (dy * 4 + k))) - (nI (cg n wk 99 dy k 8)))), (0, .ref (c 0)), (1, .int zz), (2, .ref (z 4)), (3, .ref (z 5)), (4, .ref (z 0)), (5, .ref (z 1)), (6, .ref (z 2)), (7, .ref (z 3)), (8, .ref (z 6)), (10, .int (nI dy)), (12, .int (nI t))]) S.1 S.2.1 dL_isSo_412 hl (k := 12) rfl (nI_1 _) (by decide) rfl (fun ls hl => ?_)
                      refine lv_goto (tgt := 265) S.1 S.2.1 dL_isSo_415 (by decide) ?_
                      exact ih265 (k + 1) W2 (by omega) (by omega) _ _ hP hD hS ls (lv_sub hl [3, 4, 5, 6, 7, 8, 9, 10, 11, 1, 12, 0] rfl)
                  · refine lv_iload S.1 S.2.1 dL_isSo_291 (lv_at hl 12 rfl) ?_
                    refine lv_aload S.1 S.2.1 dL_isSo_293 (lv_at hl 5 rfl) ?_
                    refine lv_bipush (v := (nI 7)) S.1 S.2.1 dL_isSo_295 (by decide) ?_
                    refine lv_iload S.1 S.2.1 dL_isSo_297 (lv_at hl 13 rfl) ?_
                    refine n_mul S dL_isSo_299 ?_
                    refine lv_iload S.1 S.2.1 dL_isSo_300 (lv_at hl 10 rfl) ?_
                    refine n_add S dL_isSo_302 ?_
                    refine g_iald S 1 hK hP rfl (by omega) dL_isSo_303 ?_
                    refine n_top (show (nI ((enf wk) ((7 * p2) + dy))) = (nI (ent (wk p2) dy)) from congrArg nI (en_at (by omega))) ?_
                    refine n_zne S (tgt := 335) (Nat.lt_trans (ent_lt _ _) (by decide)) dL_isSo_304 (by decide) (fun c304 => ?_) (fun c304 => ?_)
                    · refine lv_iconst (v := (nI 0)) S.1 S.2.1 dL_isSo_335 (by decide) ?_
                      refine n_or S dL_isSo_336 ?_
                      refine lv_istore (lv' := [(12, .int (nI (t ||| 0))), (0, .ref (c 0)), (1, .int zz), (2, .ref (z 4)), (3, .ref (z 5)), (4, .ref (z 0)), (5, .ref (z 1)), (6, .ref (z 2)), (7, .ref (z 3)), (8, .ref (z 6)), (9, .int (nI 1)), (10, .int (nI dy)), (11, .int (nI k)), (13, .int (nI p2))]) S.1 S.2.1 dL_isSo_337 hl (by decide) rfl (fun ls hl => ?_)
                      refine lv_iinc (v := (nI (p2 + 1))) (lv' := [(13, .int (nI (p2 + 1))), (12, .int (nI (t ||| 0))), (0, .ref (c 0)), (1, .int zz), (2, .ref (z 4)), (3, .ref (z 5)), (4, .ref (z 0)), (5, .ref (z 1)), (6, .ref (z 2)), (7, .ref (z 3)), (8, .ref (z 6)), (9, .int (nI 1)), (10, .int (nI dy)), (11, .int (nI k))]) S.1 S.2.1 dL_isSo_339 hl (k := 13) rfl (nI_1 _) (by decide) rfl (fun ls hl => ?_)
                      refine lv_goto (tgt := 282) S.1 S.2.1 dL_isSo_342 (by decide) ?_
                      exact ih282 (t ||| 0) (p2 + 1) W2 (by omega) (by rw [ht]; exact ctk_0 (by show (ent (wk p2) dy == 0 && _) = false; rw [show (ent (wk p2) dy == 0) = false from Bool.eq_false_iff.mpr (fun q => c304 (by simpa using q))]; rfl)) (by omega) _ _ hP hD hS ls (lv_sub hl [2, 3, 4, 5, 6, 7, 8, 9, 10, 11, 12, 13, 1, 0] rfl)
                    · refine lv_iload S.1 S.2.1 dL_isSo_307 (lv_at hl 13 rfl) ?_
                      refine lv_iload S.1 S.2.1 dL_isSo_309 (lv_at hl 10 rfl) ?_
                      refine lv_iload S.1 S.2.1 dL_isSo_311 (lv_at hl 11 rfl) ?_
                      refine lv_aload_n S.1 S.2.1 dL_isSo_313 rfl (lv_at hl 2 rfl) ?_
                      refine lv_aload S.1 S.2.1 dL_isSo_314 (lv_at hl 4 rfl) ?_
                      refine lv_aload S.1 S.2.1 dL_isSo_316 (lv_at hl 5 rfl) ?_
                      refine lv_aload S.1 S.2.1 dL_isSo_318 (lv_at hl 6 rfl) ?_
                      refine lv_aload S.1 S.2.1 dL_isSo_320 (lv_at hl 7 rfl) ?_
                      refine fr1_callSi (rest := [.int (nI t)]) S (w_L_could l D cT _ z bd n ro cl fb rn nd sk mo wk fx wi la da we W2 Bv p2 dy k (hwf) (hz) (by omega) (hdy) (by omega)) gL_isSo_L_could rfl pd_L_could ⟨rfl, rfl, Nat.le_of_ble_eq_true rfl, Nat.le_of_ble_eq_true rfl⟩ hP hK hD hS hA hl rfl rfl (Nat.le_of_ble_eq_true rfl) ⟨Nat.zero_le _, Nat.zero_le _⟩ dL_isSo_322 (fun r_ u_ H locs hr_ hP hD hS => ?_)
                      subst hr_
                      have hP : va_P D vwCl (lX cT z n ro cl fb rn nd sk mo wk fx wi la da we u_ Bv ++ (cX cT c a6 a7 n ro cl fb rn nd V V2 PR pa ++ pool n pa (per sk mo wk fx wi la da we))) H := hP
                      have hD : va_D A (lX cT z n ro cl fb rn nd sk mo wk fx wi la da we u_ Bv ++ (cX cT c a6 a7 n ro cl fb rn nd V V2 PR pa ++ pool n pa (per sk mo wk fx wi la da we))) := hD
                      refine n_beq S (tgt := 335) dL_isSo_325 (by decide) (fun c325 => ?_) (fun c325 => ?_)
                      · refine lv_iconst (v := (nI 0)) S.1 S.2.1 dL_isSo_335 (by decide) ?_
                        refine n_or S dL_isSo_336 ?_
                        refine lv_istore (lv' := [(12, .int (nI (t ||| 0))), (0, .ref (c 0)), (1, .int zz), (2, .ref (z 4)), (3, .ref (z 5)), (4, .ref (z 0)), (5, .ref (z 1)), (6, .ref (z 2)), (7, .ref (z 3)), (8, .ref (z 6)), (9, .int (nI 1)), (10, .int (nI dy)), (11, .int (nI k)), (13, .int (nI p2))]) S.1 S.2.1 dL_isSo_337 hl (by decide) rfl (fun ls hl => ?_)
                        refine lv_iinc (v := (nI (p2 + 1))) (lv' := [(13, .int (nI (p2 + 1))), (12, .int (nI (t ||| 0))), (0, .ref (c 0)), (1, .int zz), (2, .ref (z 4)), (3, .ref (z 5)), (4, .ref (z 0)), (5, .ref (z 1)), (6, .ref (z 2)), (7, .ref (z 3)), (8, .ref (z 6)), (9, .int (nI 1)), (10, .int (nI dy)), (11, .int (nI k))]) S.1 S.2.1 dL_isSo_339 hl (k := 13) rfl (nI_1 _) (by decide) rfl (fun ls hl => ?_)
                        refine lv_goto (tgt := 282) S.1 S.2.1 dL_isSo_342 (by decide) ?_
                        exact ih282 (t ||| 0) (p2 + 1) u_ (by omega) (by rw [ht]; exact ctk_0 (by show (ent (wk p2) dy == 0 && _) = false; rw [c325, Bool.and_false])) (by omega) _ _ hP hD hS ls (lv_sub hl [2, 3, 4, 5, 6, 7, 8, 9, 10, 11, 12, 13, 1, 0] rfl)
                      · refine lv_iconst (v := (nI 1)) S.1 S.2.1 dL_isSo_328 (by decide) ?_
                        refine lv_iload S.1 S.2.1 dL_isSo_329 (lv_at hl 13 rfl) ?_
                        refine n_shl S (by omega) dL_isSo_331 ?_
                        refine lv_goto (tgt := 336) S.1 S.2.1 dL_isSo_332 (by decide) ?_
                        refine n_or S dL_isSo_336 ?_
                        refine lv_istore (lv' := [(12, .int (nI (t ||| (1 * 2 ^ p2)))), (0, .ref (c 0)), (1, .int zz), (2, .ref (z 4)), (3, .ref (z 5)), (4, .ref (z 0)), (5, .ref (z 1)), (6, .ref (z 2)), (7, .ref (z 3)), (8, .ref (z 6)), (9, .int (nI 1)), (10, .int (nI dy)), (11, .int (nI k)), (13, .int (nI p2))]) S.1 S.2.1 dL_isSo_337 hl (by decide) rfl (fun ls hl => ?_)
                        refine lv_iinc (v := (nI (p2 + 1))) (lv' := [(13, .int (nI (p2 + 1))), (12, .int (nI (t ||| (1 * 2 ^ p2)))), (0, .ref (c 0)), (1, .int zz), (2, .ref (z 4)), (3, .ref (z 5)), (4, .ref (z 0)), (5, .ref (z 1)), (6, .ref (z 2)), (7, .ref (z 3)), (8, .ref (z 6)), (9, .int (nI 1)), (10, .int (nI dy)), (11, .int (nI k))]) S.1 S.2.1 dL_isSo_339 hl (k := 13) rfl (nI_1 _) (by decide) rfl (fun ls hl => ?_)
                        refine lv_goto (tgt := 282) S.1 S.2.1 dL_isSo_342 (by decide) ?_
                        exact ih282 (t ||| (1 * 2 ^ p2)) (p2 + 1) u_ (by omega) (by rw [ht]; exact ctk_1 (by show (ent (wk p2) dy == 0 && _) = true; rw [c304, c325]; rfl)) (by omega) _ _ hP hD hS ls (lv_sub hl [2, 3, 4, 5, 6, 7, 8, 9, 10, 11, 12, 13, 1, 0] rfl)
              exact lp282 _ 0 0 W1 (Nat.zero_le _) (rfl) (Nat.lt_succ_self _) _ _ hP hD hS ls (lv_sub hl [2, 3, 4, 5, 6, 7, 8, 9, 10, 11, 12, 13, 1, 0] rfl)
        exact lp265 _ 1 W1 (⟨Nat.le_refl _, by decide⟩) (Nat.lt_succ_self _) _ _ hP hD hS ls (lv_sub hl [2, 3, 4, 5, 6, 7, 8, 9, 10, 11, 1, 0] rfl)
      · refine lv_iload S.1 S.2.1 dL_isSo_73 (lv_at hl 9 rfl) ?_
        refine n_zeq S (tgt := 254) (by decide) dL_isSo_75 (by decide) (fun q => absurd q (by decide)) (fun _ => ?_)
        refine lv_iconst (v := (nI 0)) S.1 S.2.1 dL_isSo_78 (by decide) ?_
        refine lv_istore (lv' := [(11, .int (nI 0)), (0, .ref (c 0)), (1, .int zz), (2, .ref (z 4)), (3, .ref (z 5)), (4, .ref (z 0)), (5, .ref (z 1)), (6, .ref (z 2)), (7, .ref (z 3)), (8, .ref (z 6)), (9, .int (nI 1)), (10, .int (nI p))]) S.1 S.2.1 dL_isSo_79 hl (by decide) rfl (fun ls hl => ?_)
        have lp81 : ∀ (fu : Nat) (d : Nat) (W2 : Nat → Int32), (d ≤ 7) → (∀ j, j < d → W2 j = nI (ent (wk p) j)) → (7 - d) < fu → ∀ (H : Heap) (locs : List Loc), va_P D vwCl (lX cT z n ro cl fb rn nd sk mo wk fx wi la da we W2 Bv ++ (cX cT c a6 a7 n ro cl fb rn nd V V2 PR pa ++ pool n pa (per sk mo wk fx wi la da we))) H → va_D A (lX cT z n ro cl fb rn nd sk mo wk fx wi la da we W2 Bv ++ (cX cT c a6 a7 n ro cl fb rn nd V V2 PR pa ++ pool n pa (per sk mo wk fx wi la da we))) → va_S A s0.heap H locs → ∀ ls : Array Slot, lv_has ls 15 [(0, .ref (c 0)), (1, .int zz), (2, .ref (z 4)), (3, .ref (z 5)), (4, .ref (z 0)), (5, .ref (z 1)), (6, .ref (z 2)), (7, .ref (z 3)), (8, .ref (z 6)), (9, .int (nI 1)), (10, .int (nI p)), (11, .int (nI d))] → W p0 l e0 ({ frames := 6, cells := 0, slots := 0, locals := 143 } : Room) s0 m0 a0 b0 t0 c0 H locs 0 0 (MQ b0 (wQi (fun (r_ : Int32) (_ : (Nat → Int32) × (Nat → Int32) × Nat × Nat × (Nat → Int64) × (Nat → Int64)) => r_ = nI true.toNat) D (fun (u_ : (Nat → Int32) × (Nat → Int32) × Nat × Nat × (Nat → Int64) × (Nat → Int64)) => lX cT z n ro cl fb rn nd sk mo wk fx wi la da we u_.1 u_.2.1 ++ (cX cT c u_.2.2.1 u_.2.2.2.1 n ro cl fb rn nd u_.2.2.2.2.1 u_.2.2.2.2.2 PR pa ++ pool n pa (per sk mo wk fx wi la da we))) A) a0 s0 0 0 A) (F0 m0 81 ls []) := by
          intro fu
          induction fu with
          | zero =>
            intro d W2 h7 hW2 hm
            exact absurd hm (Nat.not_lt_zero _)
          | succ fu ih81 =>
            intro d W2 h7 hW2 hm H locs hP hD hS ls hl
            refine lv_iload S.1 S.2.1 dL_isSo_81 (lv_at hl 11 rfl) ?_
            refine lv_bipush (v := (nI 7)) S.1 S.2.1 dL_isSo_83 (by decide) ?_
            refine n_cge S (tgt := 143) (by omega) dL_isSo_85 (by decide) (fun c85 => ?_) (fun c85 => ?_)
            · refine lv_iload S.1 S.2.1 dL_isSo_143 (lv_at hl 9 rfl) ?_
              refine n_zeq S (tgt := 245) (by decide) dL_isSo_145 (by decide) (fun q => absurd q (by decide)) (fun _ => ?_)
              refine lv_aload_n S.1 S.2.1 dL_isSo_148 rfl (lv_at hl 0 rfl) ?_
              refine lv_iload S.1 S.2.1 dL_isSo_149 (lv_at hl 10 rfl) ?_
              refine rd_callV (rest := []) S (r_X8_shifts_ok l D cT c pa bd a6 a7 n ro cl fb rn nd sk mo wk fx wi la da we V V2 PR p (hwf) (by omega)) gL_isSo_X8_shifts rfl pd_X8_shifts ⟨rfl, rfl, Nat.le_of_ble_eq_true rfl, Nat.le_of_ble_eq_true rfl⟩ (fr_r hP) hK (va_recv hK.1 (fr_r hP) (ci := 6) (q0 := 0) rfl rfl) hl rfl rfl (Nat.le_of_ble_eq_true rfl) ⟨Nat.zero_le _, Nat.zero_le _⟩ dL_isSo_151 ?_
              refine lv_iload S.1 S.2.1 dL_isSo_154 (lv_at hl 10 rfl) ?_
              refine lv_aload S.1 S.2.1 dL_isSo_156 (lv_at hl 5 rfl) ?_
              refine rd_callS (rest := [.int (nI (shc (wk p) 0 7))]) S (r_L_shifts l D cT z bd n ro cl fb rn nd sk mo wk fx wi la da we W2 Bv p (hwf) (by omega)) gL_isSo_L_shifts rfl pd_L_shifts ⟨rfl, rfl, Nat.le_of_ble_eq_true rfl, Nat.le_of_ble_eq_true rfl⟩ (fr_l hP) hK hl rfl rfl (Nat.le_of_ble_eq_true rfl) ⟨Nat.zero_le _, Nat.zero_le _⟩ dL_isSo_158 ?_
              refine n_cne S (tgt := 245) (by omega) dL_isSo_161 (by decide) (fun c161 => ?_) (fun c161 => ?_)
              · exact absurd rfl c161
              refine lv_aload_n S.1 S.2.1 dL_isSo_164 rfl (lv_at hl 0 rfl) ?_
              refine lv_iload S.1 S.2.1 dL_isSo_165 (lv_at hl 10 rfl) ?_
              refine rd_callV (rest := []) S (r_X8_broken_ok l D cT c pa bd a6 a7 n ro cl fb rn nd sk mo wk fx wi la da we V V2 PR p (hwf) (by omega)) gL_isSo_X8_broken rfl pd_X8_broken ⟨rfl, rfl, Nat.le_of_ble_eq_true rfl, Nat.le_of_ble_eq_true rfl⟩ (fr_r hP) hK (va_recv hK.1 (fr_r hP) (ci := 6) (q0 := 0) rfl rfl) hl rfl rfl (Nat.le_of_ble_eq_true rfl) ⟨Nat.zero_le _, Nat.zero_le _⟩ dL_isSo_167 ?_
              refine lv_iload S.1 S.2.1 dL_isSo_170 (lv_at hl 10 rfl) ?_
              refine lv_aload S.1 S.2.1 dL_isSo_172 (lv_at hl 4 rfl) ?_
              refine lv_aload S.1 S.2.1 dL_isSo_174 (lv_at hl 5 rfl) ?_
              refine rd_callS (rest := [.int (nI (brc (wi p) (wk p) 7))]) S (r_L_broken l D cT z bd n ro cl fb rn nd sk mo wk fx wi la da we W2 Bv p (hwf) (by omega)) gL_isSo_L_broken rfl pd_L_broken ⟨rfl, rfl, Nat.le_of_ble_eq_true rfl, Nat.le_of_ble_eq_true rfl⟩ (fr_l hP) hK hl rfl rfl (Nat.le_of_ble_eq_true rfl) ⟨Nat.zero_le _, Nat.zero_le _⟩ dL_isSo_176 ?_
              refine n_cne S (tgt := 245) (by omega) dL_isSo_179 (by decide) (fun c179 => ?_) (fun c179 => ?_)
              · exact absurd rfl c179
              refine lv_aload_n S.1 S.2.1 dL_isSo_182 rfl (lv_at hl 0 rfl) ?_
              refine lv_iload S.1 S.2.1 dL_isSo_183 (lv_at hl 10 rfl) ?_
              refine rd_callV (rest := []) S (r_X8_weekends_ok l D cT c pa bd a6 a7 n ro cl fb rn nd sk mo wk fx wi la da we V V2 PR p (hwf) (by omega)) gL_isSo_X8_weekends rfl pd_X8_weekends ⟨rfl, rfl, Nat.le_of_ble_eq_true rfl, Nat.le_of_ble_eq_true rfl⟩ (fr_r hP) hK (va_recv hK.1 (fr_r hP) (ci := 6) (q0 := 0) rfl rfl) hl rfl rfl (Nat.le_of_ble_eq_true rfl) ⟨Nat.zero_le _, Nat.zero_le _⟩ dL_isSo_185 ?_
              refine lv_aload S.1 S.2.1 dL_isSo_188 (lv_at hl 4 rfl) ?_
              refine lv_bipush (v := (nI 8)) S.1 S.2.1 dL_isSo_190 (by decide) ?_
              refine lv_iload S.1 S.2.1 dL_isSo_192 (lv_at hl 10 rfl) ?_
              refine n_mul S dL_isSo_194 ?_
              refine lv_iconst (v := (nI 5)) S.1 S.2.1 dL_isSo_195 (by decide) ?_
              refine n_add S dL_isSo_196 ?_
              refine g_iald S 0 hK hP rfl (by omega) dL_isSo_197 ?_
              refine n_top (show (nI ((hfn sk mo wi la da we) ((8 * p) + 5))) = (nI (we p)) from congrArg nI hf_5) ?_
              refine n_cne S (tgt := 245) (by omega) dL_isSo_198 (by decide) (fun c198 => ?_) (fun c198 => ?_)
              · exact absurd rfl c198
              refine lv_aload_n S.1 S.2.1 dL_isSo_201 rfl (lv_at hl 0 rfl) ?_
              refine lv_iload S.1 S.2.1 dL_isSo_202 (lv_at hl 10 rfl) ?_
              refine rd_callV (rest := []) S (r_X8_runBefore_ok l D cT c pa bd a6 a7 n ro cl fb rn nd sk mo wk fx wi la da we V V2 PR p (hwf) (by omega)) gL_isSo_X8_runBefore rfl pd_X8_runBefore ⟨rfl, rfl, Nat.le_of_ble_eq_true rfl, Nat.le_of_ble_eq_true rfl⟩ (fr_r hP) hK (va_recv hK.1 (fr_r hP) (ci := 6) (q0 := 0) rfl rfl) hl rfl rfl (Nat.le_of_ble_eq_true rfl) ⟨Nat.zero_le _, Nat.zero_le _⟩ dL_isSo_204 ?_
              refine lv_aload S.1 S.2.1 dL_isSo_207 (lv_at hl 4 rfl) ?_
              refine lv_bipush (v := (nI 8)) S.1 S.2.1 dL_isSo_209 (by decide) ?_
              refine lv_iload S.1 S.2.1 dL_isSo_211 (lv_at hl 10 rfl) ?_
              refine n_mul S dL_isSo_213 ?_
              refine lv_iconst (v := (nI 4)) S.1 S.2.1 dL_isSo_214 (by decide) ?_
              refine n_add S dL_isSo_215 ?_
              refine g_iald S 0 hK hP rfl (by omega) dL_isSo_216 ?_
              refine n_top (show (nI ((hfn sk mo wi la da we) ((8 * p) + 4))) = (nI (da p)) from congrArg nI hf_4) ?_
              refine n_cne S (tgt := 245) (by omega) dL_isSo_217 (by decide) (fun c217 => ?_) (fun c217 => ?_)
              · exact absurd rfl c217
              refine lv_aload_n S.1 S.2.1 dL_isSo_220 rfl (lv_at hl 0 rfl) ?_
              refine lv_iload S.1 S.2.1 dL_isSo_221 (lv_at hl 10 rfl) ?_
              refine rd_callV (rest := []) S (r_X8_isFeasible_ok l D cT c pa bd a6 a7 n ro cl fb rn nd sk mo wk fx wi la da we V V2 PR p (hwf) (by omega)) gL_isSo_X8_isFeasible rfl pd_X8_isFeasible ⟨rfl, rfl, Nat.le_of_ble_eq_true rfl, Nat.le_of_ble_eq_true rfl⟩ (fr_r hP) hK (va_recv hK.1 (fr_r hP) (ci := 6) (q0 := 0) rfl rfl) hl rfl rfl (Nat.le_of_ble_eq_true rfl) ⟨Nat.zero_le _, Nat.zero_le _⟩ dL_isSo_223 ?_
              refine lv_iload S.1 S.2.1 dL_isSo_226 (lv_at hl 10 rfl) ?_
              refine lv_aload_n S.1 S.2.1 dL_isSo_228 rfl (lv_at hl 2 rfl) ?_
              refine lv_aload S.1 S.2.1 dL_isSo_229 (lv_at hl 4 rfl) ?_
              refine lv_aload S.1 S.2.1 dL_isSo_231 (lv_at hl 6 rfl) ?_
              refine lv_aload S.1 S.2.1 dL_isSo_233 (lv_at hl 7 rfl) ?_
              refine rd_callS (rest := [.int (nI (fe sk mo fx la da fb rn p (wk p)).toNat)]) S (r_L_isWeek l D cT z bd n ro cl fb rn nd sk mo wk fx wi la da we W2 Bv p (wk p) (hwf) (hz) (by omega) (hpp.2.2.1) (fun j hj => hW2 j (by omega))) gL_isSo_L_isWeek rfl pd_L_isWeek ⟨rfl, rfl, Nat.le_of_ble_eq_true rfl, Nat.le_of_ble_eq_true rfl⟩ (fr_l hP) hK hl rfl rfl (Nat.le_of_ble_eq_true rfl) ⟨Nat.zero_le _, Nat.zero_le _⟩ dL_isSo_235 ?_
              refine n_cne S (tgt := 245) (⟨Nat.lt_of_le_of_lt (Bool.toNat_le _) (by decide), Nat.lt_of_le_of_lt (Bool.toNat_le _) (by decide)⟩) dL_isSo_238 (by decide) (fun c238 => ?_) (fun c238 => ?_)
              · exact absurd rfl c238
              refine lv_iconst (v := (nI 1)) S.1 S.2.1 dL_isSo_241 (by decide) ?_
              refine lv_goto (tgt := 246) S.1 S.2.1 dL_isSo_242 (by decide) ?_
              refine lv_istore (lv' := [(9, .int (nI 1)), (0, .ref (c 0)), (1, .int zz), (2, .ref (z 4)), (3, .ref (z 5)), (4, .ref (z 0)), (5, .ref (z 1)), (6, .ref (z 2)), (7, .ref (z 3)), (8, .ref (z 6)), (10, .int (nI p)), (11, .int (nI d))]) S.1 S.2.1 dL_isSo_246 hl (by decide) rfl (fun ls hl => ?_)
              refine lv_iinc (v := (nI (p + 1))) (lv' := [(10, .int (nI (p + 1))), (9, .int (nI 1)), (0, .ref (c 0)), (1, .int zz), (2, .ref (z 4)), (3, .ref (z 5)), (4, .ref (z 0)), (5, .ref (z 1)), (6, .ref (z 2)), (7, .ref (z 3)), (8, .ref (z 6)), (11, .int (nI d))]) S.1 S.2.1 dL_isSo_248 hl (k := 10) rfl (nI_1 _) (by decide) rfl (fun ls hl => ?_)
              refine lv_goto (tgt := 64) S.1 S.2.1 dL_isSo_251 (by decide) ?_
              exact ih64 (p + 1) W2 (by omega) (by omega) _ _ hP hD hS ls (lv_sub hl [2, 3, 4, 5, 6, 7, 8, 9, 10, 1, 0] rfl)
            · refine lv_iload S.1 S.2.1 dL_isSo_88 (lv_at hl 9 rfl) ?_
              refine n_zeq S (tgt := 143) (by decide) dL_isSo_90 (by decide) (fun q => absurd q (by decide)) (fun _ => ?_)
              refine lv_aload_n S.1 S.2.1 dL_isSo_93 rfl (lv_at hl 2 rfl) ?_
              refine lv_iload S.1 S.2.1 dL_isSo_94 (lv_at hl 11 rfl) ?_
              refine lv_aload S.1 S.2.1 dL_isSo_96 (lv_at hl 5 rfl) ?_
              refine lv_bipush (v := (nI 7)) S.1 S.2.1 dL_isSo_98 (by decide) ?_
              refine lv_iload S.1 S.2.1 dL_isSo_100 (lv_at hl 10 rfl) ?_
              refine n_mul S dL_isSo_102 ?_
              refine lv_iload S.1 S.2.1 dL_isSo_103 (lv_at hl 11 rfl) ?_
              refine n_add S dL_isSo_105 ?_
              refine g_iald S 1 hK hP rfl (by omega) dL_isSo_106 ?_
              refine n_top (show (nI ((enf wk) ((7 * p) + d))) = (nI (ent (wk p) d)) from congrArg nI (en_at (by omega))) ?_
              refine w_iastR S 4 hK hP hD hS rfl (by omega) dL_isSo_107 (fun H locs hP hD hS => ?_)
              have hP : va_P D vwCl (lX cT z n ro cl fb rn nd sk mo wk fx wi la da we (upd W2 d ((nI (ent (wk p) d)))) Bv ++ (cX cT c a6 a7 n ro cl fb rn nd V V2 PR pa ++ pool n pa (per sk mo wk fx wi la da we))) H := hP
              have hD : va_D A (lX cT z n ro cl fb rn nd sk mo wk fx wi la da we (upd W2 d ((nI (ent (wk p) d)))) Bv ++ (cX cT c a6 a7 n ro cl fb rn nd V V2 PR pa ++ pool n pa (per sk mo wk fx wi la da we))) := hD
              refine lv_aload_n S.1 S.2.1 dL_isSo_108 rfl (lv_at hl 0 rfl) ?_
              refine lv_iload S.1 S.2.1 dL_isSo_109 (lv_at hl 10 rfl) ?_
              refine lv_iload S.1 S.2.1 dL_isSo_111 (lv_at hl 11 rfl) ?_
              refine rd_callV (rest := []) S (r_X8_entry_ok l D cT c pa bd a6 a7 n ro cl fb rn nd sk mo wk fx wi la da we V V2 PR p d (hwf) (by omega) (by omega)) gL_isSo_X8_entry rfl pd_X8_entry ⟨rfl, rfl, Nat.le_of_ble_eq_true rfl, Nat.le_of_ble_eq_true rfl⟩ (fr_r hP) hK (va_recv hK.1 (fr_r hP) (ci := 6) (q0 := 0) rfl rfl) hl rfl rfl (Nat.le_of_ble_eq_true rfl) ⟨Nat.zero_le _, Nat.zero_le _⟩ dL_isSo_113 ?_
              refine lv_aload S.1 S.2.1 dL_isSo_116 (lv_at hl 5 rfl) ?_
              refine lv_bipush (v := (nI 7)) S.1 S.2.1 dL_isSo_118 (by decide) ?_
              refine lv_iload S.1 S.2.1 dL_isSo_120 (lv_at hl 10 rfl) ?_
              refine n_mul S dL_isSo_122 ?_
              refine lv_iload S.1 S.2.1 dL_isSo_123 (lv_at hl 11 rfl) ?_
              refine n_add S dL_isSo_125 ?_
              refine g_iald S 1 hK hP rfl (by omega) dL_isSo_126 ?_
              refine n_top (show (nI ((enf wk) ((7 * p) + d))) = (nI (ent (wk p) d)) from congrArg nI (en_at (by omega))) ?_
              refine n_cne S (tgt := 134) (⟨Nat.lt_trans (ent_lt _ _) (by decide), Nat.lt_trans (ent_lt _ _) (by decide)⟩) dL_isSo_127 (by decide) (fun c127 => ?_) (fun c127 => ?_)
              · exact absurd rfl c127
              refine lv_iconst (v := (nI 1)) S.1 S.2.1 dL_isSo_130 (by decide) ?_
              refine lv_goto (tgt := 135) S.1 S.2.1 dL_isSo_131 (by decide) ?_
              refine lv_istore (lv' := [(9, .int (nI 1)), (0, .ref (c 0)), (1, .int zz), (2, .ref (z 4)), (3, .ref (z 5)), (4, .ref (z 0)), (5, .ref (z 1)), (6, .ref (z 2)), (7, .ref (z 3)), (8, .ref (z 6)), (10, .int (nI p)), (11, .int (nI d))]) S.1 S.2.1 dL_isSo_135 hl (by decide) rfl (fun ls hl => ?_)
              refine lv_iinc (v := (nI (d + 1))) (lv' := [(11, .int (nI (d + 1))), (9, .int (nI 1)), (0, .ref (c 0)), (1, .int zz), (2, .ref (z 4)), (3, .ref (z 5)), (4, .ref (z 0)), (5, .ref (z 1)), (6, .ref (z 2)), (7, .ref (z 3)), (8, .ref (z 6)), (10, .int (nI p))]) S.1 S.2.1 dL_isSo_137 hl (k := 11) rfl (nI_1 _) (by decide) rfl (fun ls hl => ?_)
              refine lv_goto (tgt := 81) S.1 S.2.1 dL_isSo_140 (by decide) ?_
              exact ih81 (d + 1) (upd W2 d ((nI (ent (wk p) d)))) (by omega) (upd_st hW2 rfl) (by omega) _ _ hP hD hS ls (lv_sub hl [2, 3, 4, 5, 6, 7, 8, 9, 10, 1, 11, 0] rfl)
        exact lp81 _ 0 W1 (Nat.zero_le _) (fun j hj => absurd hj (Nat.not_lt_zero j)) (Nat.lt_succ_self _) _ _ hP hD hS ls (lv_sub hl [1, 2, 3, 4, 5, 6, 7, 8, 9, 10, 11, 0] rfl)
  exact lp64 _ 0 Wv (Nat.zero_le _) (Nat.lt_succ_self _) _ _ hP hD hS ls (lv_sub hl [2, 3, 4, 5, 6, 7, 8, 9, 10, 1, 0] rfl)

