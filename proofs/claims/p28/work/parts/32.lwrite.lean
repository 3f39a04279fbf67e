/-! the law's methods that write -/
theorem upd_st {W : Nat → Int32} {k : Nat} {v : Int32} {f : Nat → Nat} (h : ∀ j, j < k → W j = nI (f j)) (hv : v = nI (f k)) : ∀ j, j < k + 1 → upd W k v j = nI (f j) := by
  intro j hj
  show (if j = k then v else W j) = _
  by_cases e : j = k
  · rw [if_pos e, e, hv]
  · rw [if_neg e]; exact h j (by omega)
def cpy (W B : Nat → Int32) (k : Nat) : Nat → Int32 := fun j => if j < k then W j else B j
theorem cpy_0 {W B : Nat → Int32} : cpy W B 0 = B := rfl
theorem cpy_s {W B : Nat → Int32} {k : Nat} : upd (cpy W B k) k (W k) = cpy W B (k + 1) := by
  funext j
  show (if j = k then W k else if j < k then W j else B j) = if j < k + 1 then W j else B j
  by_cases e : j = k
  · rw [if_pos e, if_pos (by omega), e]
  · rw [if_neg e]
    by_cases h : j < k
    · rw [if_pos h, if_pos (by omega)]
    · rw [if_neg h, if_neg (by omega)]
theorem lf_y {P : Nat → Nat} {F : Nat → Bool} {x le : Nat} {B1 B3 : Nat → Int32} (hF : F x = true) (hle : le = (cst P F x).2) (hB3 : ((le = 0 ∨ P x + 1 < le) ∧ ∀ j, j < 7 → B3 j = nI (ent x j)) ∨ (le ≠ 0 ∧ le ≤ P x + 1 ∧ B3 = B1)) (hc : le = 0 ∨ P x + 1 < le) : P x + 1 = (cst P F (x + 1)).2 ∧ ∀ j, j < 7 → B3 j = nI (ent (cst P F (x + 1)).1 j) := by
  rw [cst_y hF (by rw [← hle]; exact hc)]
  refine ⟨rfl, ?_⟩
  rcases hB3 with h | h
  · exact h.2
  · omega
theorem lf_n {P : Nat → Nat} {F : Nat → Bool} {x le : Nat} {B1 B3 : Nat → Int32} (hF : F x = true) (hle : le = (cst P F x).2) (hB : le ≠ 0 → ∀ j, j < 7 → B1 j = nI (ent (cst P F x).1 j)) (hB3 : ((le = 0 ∨ P x + 1 < le) ∧ ∀ j, j < 7 → B3 j = nI (ent x j)) ∨ (le ≠ 0 ∧ le ≤ P x + 1 ∧ B3 = B1)) (h0 : le ≠ 0) (hc : le ≤ P x + 1) : le = (cst P F (x + 1)).2 ∧ ∀ j, j < 7 → B3 j = nI (ent (cst P F (x + 1)).1 j) := by
  rw [cst_n (Or.inr (by rw [← hle]; exact ⟨h0, hc⟩))]
  refine ⟨hle, ?_⟩
  rcases hB3 with h | h
  · omega
  · rw [h.2.2]; exact hB h0
theorem z_step {B1 B2 : Nat → Int32} {f k : Nat} (h : (k = 0 ∧ B2 = B1) ∨ (f = 0 ∧ ∀ j, j < k → B2 j = nI 0)) : ∀ j, j < k + 1 → upd B2 k (nI 0) j = nI 0 := by
  intro j hj
  show (if j = k then nI 0 else B2 j) = _
  by_cases e : j = k
  · rw [if_pos e]
  · rw [if_neg e]
    rcases h with h | h
    · omega
    · exact h.2 j (by omega)
theorem wk_end {P : Nat → Nat} {F : Nat → Bool} {X f le k : Nat} {B1 B2 : Nat → Int32} (hf : f = cnw F X) (hle : le = (cst P F X).2) (hB : le ≠ 0 → ∀ j, j < 7 → B1 j = nI (ent (cst P F X).1 j)) (hB2 : (k = 0 ∧ B2 = B1) ∨ (f = 0 ∧ ∀ j, j < k → B2 j = nI 0)) (hc : 7 ≤ k ∨ f ≠ 0) (h7 : k ≤ 7) : ∀ j, j < 7 → B2 j = nI (ent (cst P F X).1 j) := by
  have hz := cst_z (P := P) (F := F) X
  by_cases h0 : f = 0
  · have e1 : (cst P F X).1 = 0 := hz.2 (hz.1.mp (by rw [← hf]; exact h0))
    intro j hj
    rcases hB2 with h | h
    · omega
    · rw [h.2 j (by omega), e1, ent_0]
  · have e1 : le ≠ 0 := fun q => h0 (by rw [hf]; exact hz.1.mpr (by rw [← hle]; exact q))
    rcases hB2 with h | h
    · rw [h.2]; exact hB e1
    · exact absurd h.1 h0
theorem pd_L_could : yL_could.cls ≠ "java/lang/invoke/MethodHandle" ∧ yL_could.cls ≠ "java/lang/invoke/VarHandle" ∧ (parseMethodDescriptor yL_could.desc).map (fun d => d.parameters.length) = some 8 := by decide +kernel
set_option maxHeartbeats 4000000 in
set_option maxRecDepth 100000 in
theorem w_L_could (l : Launch) (D : va_G) (cT : ClassId × ClassId × ClassId) (sz : Nat) (z : Nat → Nat) (bd n ro cl fb rn : Nat) (nd sk mo wk fx wi la da we : Nat → Nat) (Wv Bv : Nat → Int32) (i d e : Nat) (hwf : wfC n bd fb rn nd sk mo wk fx wi la da we) (hz : ∀ k, k < 4 → bit fb k = 0) (hi : i < 8) (hd : d < 7) (he : e < 4) : Met l yL_could wsL_could ({ frames := 2, cells := 0, slots := 0, locals := 55 } : Room) (va_Pc [.int (nI i), .int (nI d), .int (nI e), .ref (z 4), .ref (z 0), .ref (z 1), .ref (z 2), .ref (z 3)] (wr_R D (TY cT) (lX cT z n ro cl fb rn nd sk mo wk fx wi la da we Wv Bv) sz)) (wQi (fun (r_ : Int32) (_ : Nat → Int32) => r_ = nI (fe sk mo fx la da fb rn i (wset (wk i) d e)).toNat) D (fun (u_ : Nat → Int32) => lX cT z n ro cl fb rn nd sk mo wk fx wi la da we u_ Bv) (va_A (lX cT z n ro cl fb rn nd sk mo wk fx wi la da we Wv Bv) sz)) 0 0 (va_A (lX cT z n ro cl fb rn nd sk mo wk fx wi la da we Wv Bv) sz) := by
  refine wr_start (cc := cL_could) (maxL := 9) (ret := (some .boolean)) RL ⟨by decide +kernel, rfl⟩ rfl (Nat.le_of_ble_eq_true rfl) ?_
  intro p0 e0 s0 m0 a0 b0 t0 c0 S hr hlocks hin hP hK hA hD hS ls hl
  generalize va_A (lX cT z n ro cl fb rn nd sk mo wk fx wi la da we Wv Bv) sz = A at hA hD hS ⊢
  have hl : lv_has ls 9 [(0, .int (nI i)), (1, .int (nI d)), (2, .int (nI e)), (3, .ref (z 4)), (4, .ref (z 0)), (5, .ref (z 1)), (6, .ref (z 2)), (7, .ref (z 3))] := hl
  obtain ⟨hn, hcl, hfb, hrn, hnd, hper⟩ := id hwf
  have hpi := hper i
  refine lv_iconst (v := (nI 0)) S.1 S.2.1 dL_could_0 (by decide) ?_
  refine lv_istore (lv' := [(8, .int (nI 0)), (0, .int (nI i)), (1, .int (nI d)), (2, .int (nI e)), (3, .ref (z 4)), (4, .ref (z 0)), (5, .ref (z 1)), (6, .ref (z 2)), (7, .ref (z 3))]) S.1 S.2.1 dL_could_1 hl (by decide) rfl (fun ls hl => ?_)
  have lp3 : ∀ (fu : Nat) (W1 : Nat → Int32) (k : Nat), (k ≤ 7) → (∀ j, j < k → W1 j = nI (ent (wset (wk i) d e) j)) → (7 - k) < fu → ∀ (H : Heap) (locs : List Loc), va_P D vwCl (lX cT z n ro cl fb rn nd sk mo wk fx wi la da we W1 Bv) H → va_D A (lX cT z n ro cl fb rn nd sk mo wk fx wi la da we W1 Bv) → va_S A s0.heap H locs → ∀ ls : Array Slot, lv_has ls 9 [(0, .int (nI i)), (1, .int (nI d)), (2, .int (nI e)), (3, .ref (z 4)), (4, .ref (z 0)), (5, .ref (z 1)), (6, .ref (z 2)), (7, .ref (z 3)), (8, .int (nI k))] → W p0 l e0 ({ frames := 2, cells := 0, slots := 0, locals := 55 } : Room) s0 m0 a0 b0 t0 c0 H locs 0 0 (MQ b0 (wQi (fun (r_ : Int32) (_ : Nat → Int32) => r_ = nI (fe sk mo fx la da fb rn i (wset (wk i) d e)).toNat) D (fun (u_ : Nat → Int32) => lX cT z n ro cl fb rn nd sk mo wk fx wi la da we u_ Bv) A) a0 s0 0 0 A) (F0 m0 3 ls []) := by
    intro fu
    induction fu with
    | zero =>
      intro W1 k h2 hW1 hm
      exact absurd hm (Nat.not_lt_zero _)
    | succ fu ih3 =>
      intro W1 k h2 hW1 hm H locs hP hD hS ls hl
      refine lv_iload S.1 S.2.1 dL_could_3 (lv_at hl 8 rfl) ?_
      refine lv_bipush (v := (nI 7)) S.1 S.2.1 dL_could_5 (by decide) ?_
      refine n_cge S (tgt := 40) (by omega) dL_could_7 (by decide) (fun c7 => ?_) (fun c7 => ?_)
      · refine lv_iload_n S.1 S.2.1 dL_could_40 rfl (lv_at hl 0 rfl) ?_
        refine lv_aload_n S.1 S.2.1 dL_could_41 rfl (lv_at hl 3 rfl) ?_
        refine lv_aload S.1 S.2.1 dL_could_42 (lv_at hl 4 rfl) ?_
        refine lv_aload S.1 S.2.1 dL_could_44 (lv_at hl 6 rfl) ?_
        refine lv_aload S.1 S.2.1 dL_could_46 (lv_at hl 7 rfl) ?_
        refine rd_callS (rest := []) S (r_L_isWeek l D cT z bd n ro cl fb rn nd sk mo wk fx wi la da we W1 Bv i (wset (wk i) d e) (hwf) (hz) (by omega) (wset_lt (by omega) hd he) (fun j hj => hW1 j (by omega))) gL_could_L_isWeek rfl pd_L_isWeek ⟨rfl, rfl, Nat.le_of_ble_eq_true rfl, Nat.le_of_ble_eq_true rfl⟩ hP hK hl rfl rfl (Nat.le_of_ble_eq_true rfl) ⟨Nat.zero_le _, Nat.zero_le _⟩ dL_could_48 ?_
        exact wr_iret S (W1) hr (sx_bt _) hlocks (rfl) (hP) (hD) hS dL_could_51
      · refine lv_aload_n S.1 S.2.1 dL_could_10 rfl (lv_at hl 3 rfl) ?_
        refine lv_iload S.1 S.2.1 dL_could_11 (lv_at hl 8 rfl) ?_
        refine lv_iload S.1 S.2.1 dL_could_13 (lv_at hl 8 rfl) ?_
        refine lv_iload_n S.1 S.2.1 dL_could_15 rfl (lv_at hl 1 rfl) ?_
        refine n_cne S (tgt := 23) (by omega) dL_could_16 (by decide) (fun c16 => ?_) (fun c16 => ?_)
        · refine lv_aload S.1 S.2.1 dL_could_23 (lv_at hl 5 rfl) ?_
          refine lv_bipush (v := (nI 7)) S.1 S.2.1 dL_could_25 (by decide) ?_
          refine lv_iload_n S.1 S.2.1 dL_could_27 rfl (lv_at hl 0 rfl) ?_
          refine n_mul S dL_could_28 ?_
          refine lv_iload S.1 S.2.1 dL_could_29 (lv_at hl 8 rfl) ?_
          refine n_add S dL_could_31 ?_
          refine g_iald S 1 hK hP rfl (by omega) dL_could_32 ?_
          refine n_top (show (nI ((enf wk) ((7 * i) + k))) = (nI (ent (wk i) k)) from congrArg nI (en_at (by omega))) ?_
          refine w_iastR S 4 hK hP hD hS rfl (by omega) dL_could_33 (fun H locs hP hD hS => ?_)
          have hP : va_P D vwCl (lX cT z n ro cl fb rn nd sk mo wk fx wi la da we (upd W1 k ((nI (ent (wk i) k)))) Bv) H := hP
          have hD : va_D A (lX cT z n ro cl fb rn nd sk mo wk fx wi la da we (upd W1 k ((nI (ent (wk i) k)))) Bv) := hD
          refine lv_iinc (v := (nI (k + 1))) (lv' := [(8, .int (nI (k + 1))), (0, .int (nI i)), (1, .int (nI d)), (2, .int (nI e)), (3, .ref (z 4)), (4, .ref (z 0)), (5, .ref (z 1)), (6, .ref (z 2)), (7, .ref (z 3))]) S.1 S.2.1 dL_could_34 hl (k := 8) rfl (nI_1 _) (by decide) rfl (fun ls hl => ?_)
          refine lv_goto (tgt := 3) S.1 S.2.1 dL_could_37 (by decide) ?_
          exact ih3 (upd W1 k ((nI (ent (wk i) k)))) (k + 1) (by omega) (upd_st hW1 (by rw [ws_get2 he hd (by omega) c16])) (by omega) _ _ hP hD hS ls (lv_sub hl [1, 2, 3, 4, 5, 6, 7, 8, 0] rfl)
        · refine lv_iload_n S.1 S.2.1 dL_could_19 rfl (lv_at hl 2 rfl) ?_
          refine lv_goto (tgt := 33) S.1 S.2.1 dL_could_20 (by decide) ?_
          refine w_iastR S 4 hK hP hD hS rfl (by omega) dL_could_33 (fun H locs hP hD hS => ?_)
          have hP : va_P D vwCl (lX cT z n ro cl fb rn nd sk mo wk fx wi la da we (upd W1 k ((nI e))) Bv) H := hP
          have hD : va_D A (lX cT z n ro cl fb rn nd sk mo wk fx wi la da we (upd W1 k ((nI e))) Bv) := hD
          refine lv_iinc (v := (nI (k + 1))) (lv' := [(8, .int (nI (k + 1))), (0, .int (nI i)), (1, .int (nI d)), (2, .int (nI e)), (3, .ref (z 4)), (4, .ref (z 0)), (5, .ref (z 1)), (6, .ref (z 2)), (7, .ref (z 3))]) S.1 S.2.1 dL_could_34 hl (k := 8) rfl (nI_1 _) (by decide) rfl (fun ls hl => ?_)
          refine lv_goto (tgt := 3) S.1 S.2.1 dL_could_37 (by decide) ?_
          exact ih3 (upd W1 k ((nI e))) (k + 1) (by omega) (upd_st hW1 (by rw [c16, ws_get he])) (by omega) _ _ hP hD hS ls (lv_sub hl [1, 2, 3, 4, 5, 6, 7, 8, 0] rfl)
  exact lp3 _ Wv 0 (Nat.zero_le _) (fun j hj => absurd hj (Nat.not_lt_zero j)) (Nat.lt_succ_self _) _ _ hP hD hS ls (lv_sub hl [1, 2, 3, 4, 5, 6, 7, 8, 0] rfl)

theorem pd_L_canSwap : yL_canSwap.cls ≠ "java/lang/invoke/MethodHandle" ∧ yL_canSwap.cls ≠ "java/lang/invoke/VarHandle" ∧ (parseMethodDescriptor yL_canSwap.desc).map (fun d => d.parameters.length) = some 8 := by decide +kernel
set_option maxHeartbeats 4000000 in
set_option maxRecDepth 100000 in
theorem w_L_canSwap (l : Launch) (D : va_G) (cT : ClassId × ClassId × ClassId) (sz : Nat) (z : Nat → Nat) (bd n ro cl fb rn : Nat) (nd sk mo wk fx wi la da we : Nat → Nat) (Wv Bv : Nat → Int32) (i j d : Nat) (hwf : wfC n bd fb rn nd sk mo wk fx wi la da we) (hz : ∀ k, k < 4 → bit fb k = 0) (hi : i < 8) (hj : j < 8) (hd : d < 7) : Met l yL_canSwap wsL_canSwap ({ frames := 3, cells := 0, slots := 0, locals := 83 } : Room) (va_Pc [.int (nI i), .int (nI j), .int (nI d), .ref (z 4), .ref (z 0), .ref (z 1), .ref (z 2), .ref (z 3)] (wr_R D (TY cT) (lX cT z n ro cl fb rn nd sk mo wk fx wi la da we Wv Bv) sz)) (wQi (fun (r_ : Int32) (_ : Nat → Int32) => r_ = nI (i != j && csw sk mo wk fx la da fb rn i j d).toNat) D (fun (u_ : Nat → Int32) => lX cT z n ro cl fb rn nd sk mo wk fx wi la da we u_ Bv) (va_A (lX cT z n ro cl fb rn nd sk mo wk fx wi la da we Wv Bv) sz)) 0 0 (va_A (lX cT z n ro cl fb rn nd sk mo wk fx wi la da we Wv Bv) sz) := by
  refine wr_start (cc := cL_canSwap) (maxL := 8) (ret := (some .boolean)) RL ⟨by decide +kernel, rfl⟩ rfl (Nat.le_of_ble_eq_true rfl) ?_
  intro p0 e0 s0 m0 a0 b0 t0 c0 S hr hlocks hin hP hK hA hD hS ls hl
  generalize va_A (lX cT z n ro cl fb rn nd sk mo wk fx wi la da we Wv Bv) sz = A at hA hD hS ⊢
  have hl : lv_has ls 8 [(0, .int (nI i)), (1, .int (nI j)), (2, .int (nI d)), (3, .ref (z 4)), (4, .ref (z 0)), (5, .ref (z 1)), (6, .ref (z 2)), (7, .ref (z 3))] := hl
  obtain ⟨hn, hcl, hfb, hrn, hnd, hper⟩ := id hwf
  refine lv_iload_n S.1 S.2.1 dL_canSwap_0 rfl (lv_at hl 0 rfl) ?_
  refine lv_iload_n S.1 S.2.1 dL_canSwap_1 rfl (lv_at hl 1 rfl) ?_
  refine n_ceq S (tgt := 61) (by omega) dL_canSwap_2 (by decide) (fun c2 => ?_) (fun c2 => ?_)
  · refine lv_iconst (v := (nI 0)) S.1 S.2.1 dL_canSwap_61 (by decide) ?_
    exact wr_iret S (Wv) hr (by decide) hlocks (r_f (fun h => by have h2 : (i != j && (fe _ _ _ _ _ _ _ _ _ && fe _ _ _ _ _ _ _ _ _)) = true := h; rw [Bool.and_eq_true, Bool.and_eq_true, bne_iff_ne] at h2; exact h2.1 c2)) (hP) (hD) hS dL_canSwap_62
  · refine lv_iload_n S.1 S.2.1 dL_canSwap_5 rfl (lv_at hl 0 rfl) ?_
    refine lv_iload_n S.1 S.2.1 dL_canSwap_6 rfl (lv_at hl 2 rfl) ?_
    refine lv_aload S.1 S.2.1 dL_canSwap_7 (lv_at hl 5 rfl) ?_
    refine lv_bipush (v := (nI 7)) S.1 S.2.1 dL_canSwap_9 (by decide) ?_
    refine lv_iload_n S.1 S.2.1 dL_canSwap_11 rfl (lv_at hl 1 rfl) ?_
    refine n_mul S dL_canSwap_12 ?_
    refine lv_iload_n S.1 S.2.1 dL_canSwap_13 rfl (lv_at hl 2 rfl) ?_
    refine n_add S dL_canSwap_14 ?_
    refine g_iald S 1 hK hP rfl (by omega) dL_canSwap_15 ?_
    refine n_top (show (nI ((enf wk) ((7 * j) + d))) = (nI (ent (wk j) d)) from congrArg nI (en_at hd)) ?_
    refine lv_aload_n S.1 S.2.1 dL_canSwap_16 rfl (lv_at hl 3 rfl) ?_
    refine lv_aload S.1 S.2.1 dL_canSwap_17 (lv_at hl 4 rfl) ?_
    refine lv_aload S.1 S.2.1 dL_canSwap_19 (lv_at hl 5 rfl) ?_
    refine lv_aload S.1 S.2.1 dL_canSwap_21 (lv_at hl 6 rfl) ?_
    refine lv_aload S.1 S.2.1 dL_canSwap_23 (lv_at hl 7 rfl) ?_
    refine wr_callSi (rest := []) S (w_L_could l D cT _ z bd n ro cl fb rn nd sk mo wk fx wi la da we Wv Bv i d (ent (wk j) d) (hwf) (hz) (by omega) (hd) (ent_lt _ _)) gL_canSwap_L_could rfl pd_L_could ⟨rfl, rfl, Nat.le_of_ble_eq_true rfl, Nat.le_of_ble_eq_true rfl⟩ hP hK hD hS hA hl rfl rfl (Nat.le_of_ble_eq_true rfl) ⟨Nat.zero_le _, Nat.zero_le _⟩ dL_canSwap_25 (fun r_ u1 H locs hr_ hP hD hS => ?_)
    subst hr_
    have hP : va_P D vwCl (lX cT z n ro cl fb rn nd sk mo wk fx wi la da we u1 Bv) H := hP
    have hD : va_D A (lX cT z n ro cl fb rn nd sk mo wk fx wi la da we u1 Bv) := hD
    refine n_beq S (tgt := 61) dL_canSwap_28 (by decide) (fun c28 => ?_) (fun c28 => ?_)
    · refine lv_iconst (v := (nI 0)) S.1 S.2.1 dL_canSwap_61 (by decide) ?_
      exact wr_iret S (u1) hr (by decide) hlocks (r_f (fun h => by have h2 : (i != j && (fe _ _ _ _ _ _ _ _ _ && fe _ _ _ _ _ _ _ _ _)) = true := h; rw [Bool.and_eq_true, Bool.and_eq_true, bne_iff_ne] at h2; exact absurd (c28.symm.trans h2.2.1) (by decide))) (hP) (hD) hS dL_canSwap_62
    · refine lv_iload_n S.1 S.2.1 dL_canSwap_31 rfl (lv_at hl 1 rfl) ?_
      refine lv_iload_n S.1 S.2.1 dL_canSwap_32 rfl (lv_at hl 2 rfl) ?_
      refine lv_aload S.1 S.2.1 dL_canSwap_33 (lv_at hl 5 rfl) ?_
      refine lv_bipush (v := (nI 7)) S.1 S.2.1 dL_canSwap_35 (by decide) ?_
      refine lv_iload_n S.1 S.2.1 dL_canSwap_37 rfl (lv_at hl 0 rfl) ?_
      refine n_mul S dL_canSwap_38 ?_
      refine lv_iload_n S.1 S.2.1 dL_canSwap_39 rfl (lv_at hl 2 rfl) ?_
      refine n_add S dL_canSwap_40 ?_
      refine g_iald S 1 hK hP rfl (by omega) dL_canSwap_41 ?_
      refine n_top (show (nI ((enf wk) ((7 * i) + d))) = (nI (ent (wk i) d)) from congrArg nI (en_at hd)) ?_
      refine lv_aload_n S.1 S.2.1 dL_canSwap_42 rfl (lv_at hl 3 rfl) ?_
      refine lv_aload S.1 S.2.1 dL_canSwap_43 (lv_at hl 4 rfl) ?_
      refine lv_aload S.1 S.2.1 dL_canSwap_45 (lv_at hl 5 rfl) ?_
      refine lv_aload S.1 S.2.1 dL_canSwap_47 (lv_at hl 6 rfl) ?_
      refine lv_aload S.1 S.2.1 dL_canSwap_49 (lv_at hl 7 rfl) ?_
      refine wr_callSi (rest := []) S (w_L_could l D cT _ z bd n ro cl fb rn nd sk mo wk fx wi la da we u1 Bv j d (ent (wk i) d) (hwf) (hz) (by omega) (hd) (ent_lt _ _)) gL_canSwap_L_could rfl pd_L_could ⟨rfl, rfl, Nat.le_of_ble_eq_true rfl, Nat.le_of_ble_eq_true rfl⟩ hP hK hD hS hA hl rfl rfl (Nat.le_of_ble_eq_true rfl) ⟨Nat.zero_le _, Nat.zero_le _⟩ dL_canSwap_51 (fun r_ u2 H locs hr_ hP hD hS => ?_)
      subst hr_
      have hP : va_P D vwCl (lX cT z n ro cl fb rn nd sk mo wk fx wi la da we u2 Bv) H := hP
      have hD : va_D A (lX cT z n ro cl fb rn nd sk mo wk fx wi la da we u2 Bv) := hD
      refine n_beq S (tgt := 61) dL_canSwap_54 (by decide) (fun c54 => ?_) (fun c54 => ?_)
      · refine lv_iconst (v := (nI 0)) S.1 S.2.1 dL_canSwap_61 (by decide) ?_
        exact wr_iret S (u2) hr (by decide) hlocks (r_f (fun h => by have h2 : (i != j && (fe _ _ _ _ _ _ _ _ _ && fe _ _ _ _ _ _ _ _ _)) = true := h; rw [Bool.and_eq_true, Bool.and_eq_true, bne_iff_ne] at h2; exact absurd (c54.symm.trans h2.2.2) (by decide))) (hP) (hD) hS dL_canSwap_62
      · refine lv_iconst (v := (nI 1)) S.1 S.2.1 dL_canSwap_57 (by decide) ?_
        refine lv_goto (tgt := 62) S.1 S.2.1 dL_canSwap_58 (by decide) ?_
        exact wr_iret S (u2) hr (by decide) hlocks (r_t (by show (i != j && (_ && _)) = true; rw [c28, c54, show (i != j) = true from bne_iff_ne.mpr c2]; rfl)) (hP) (hD) hS dL_canSwap_62

theorem pd_L_weeks : yL_weeks.cls ≠ "java/lang/invoke/MethodHandle" ∧ yL_weeks.cls ≠ "java/lang/invoke/VarHandle" ∧ (parseMethodDescriptor yL_weeks.desc).map (fun d => d.parameters.length) = some 7 := by decide +kernel
theorem w_L_weeks_0 : Cond.constantLong RL 41 (-1) ∈ wsL_weeks := by decide +kernel
set_option maxHeartbeats 4000000 in
set_option maxRecDepth 100000 in
theorem w_L_weeks (l : Launch) (D : va_G) (cT : ClassId × ClassId × ClassId) (sz : Nat) (z : Nat → Nat) (bd n ro cl fb rn : Nat) (nd sk mo wk fx wi la da we : Nat → Nat) (Wv Bv : Nat → Int32) (i lk : Nat) (hwf : wfC n bd fb rn nd sk mo wk fx wi la da we) (hz : ∀ k, k < 4 → bit fb k = 0) (hi : i < 8) (hlk : lk < 2 ^ 28) : Met l yL_weeks wsL_weeks ({ frames := 1, cells := 0, slots := 0, locals := 31 } : Room) (va_Pc [.int (nI i), .int (nI lk), .ref (z 4), .ref (z 5), .ref (z 0), .ref (z 2), .ref (z 3)] (wr_R D (TY cT) (lX cT z n ro cl fb rn nd sk mo wk fx wi la da we Wv Bv) sz)) (wQi (fun (r_ : Int32) (u_ : (Nat → Int32) × (Nat → Int32)) => r_ = nI (cnw (fe sk mo fx la da fb rn i) 16384) ∧ ∀ j, j < 7 → u_.2 j = nI (ent (cst (fun w => prL (we i) (wi i) lk w) (fe sk mo fx la da fb rn i) 16384).1 j)) D (fun (u_ : (Nat → Int32) × (Nat → Int32)) => lX cT z n ro cl fb rn nd sk mo wk fx wi la da we u_.1 u_.2) (va_A (lX cT z n ro cl fb rn nd sk mo wk fx wi la da we Wv Bv) sz)) 0 0 (va_A (lX cT z n ro cl fb rn nd sk mo wk fx wi la da we Wv Bv) sz) := by
  refine wr_start (cc := cL_weeks) (maxL := 14) (ret := (some .int)) RL ⟨by decide +kernel, rfl⟩ rfl (Nat.le_of_ble_eq_true rfl) ?_
  intro p0 e0 s0 m0 a0 b0 t0 c0 S hr hlocks hin hP hK hA hD hS ls hl
  generalize va_A (lX cT z n ro cl fb rn nd sk mo wk fx wi la da we Wv Bv) sz = A at hA hD hS ⊢
  have hl : lv_has ls 14 [(0, .int (nI i)), (1, .int (nI lk)), (2, .ref (z 4)), (3, .ref (z 5)), (4, .ref (z 0)), (5, .ref (z 2)), (6, .ref (z 3))] := hl
  obtain ⟨hn, hcl, hfb, hrn, hnd, hper⟩ := id hwf
  have hpi := hper i
  have hM : ∀ x y j, (∀ k, k ≤ j → ent x k = ent y k) → (lmay sk mo fx la da fb rn i) x j = (lmay sk mo fx la da fb rn i) y j := fun x y j h => lmay_ext h
  have hPb : ∀ w, (fun w => prL (we i) (wi i) lk w) w < 2 ^ 30 := fun w => prL_lt (by omega) _ _ _
  refine lv_iconst (v := (nI 0)) S.1 S.2.1 dL_weeks_0 (by decide) ?_
  refine lv_istore (lv' := [(7, .int (nI 0)), (0, .int (nI i)), (1, .int (nI lk)), (2, .ref (z 4)), (3, .ref (z 5)), (4, .ref (z 0)), (5, .ref (z 2)), (6, .ref (z 3))]) S.1 S.2.1 dL_weeks_1 hl (by decide) rfl (fun ls hl => ?_)
  refine lv_ldc2 S.1 S.2.1 (own := RL) S.2.2.2.1 (S.2.2.2.2 _ w_L_weeks_0) dL_weeks_3 ?_
  refine n_topl (show (-1 : Int64) = lN 0 - lN 1 from by decide +kernel) ?_
  refine lv_lstore (lv' := [(8, .long (lN 0 - lN 1)), (7, .int (nI 0)), (0, .int (nI i)), (1, .int (nI lk)), (2, .ref (z 4)), (3, .ref (z 5)), (4, .ref (z 0)), (5, .ref (z 2)), (6, .ref (z 3))]) S.1 S.2.1 dL_weeks_6 hl (by decide) rfl (fun ls hl => ?_)
  refine lv_iconst (v := (nI 0)) S.1 S.2.1 dL_weeks_8 (by decide) ?_
  refine n_top (show nI 0 = nI 1 - nI 1 from by decide) ?_
  refine lv_istore (lv' := [(10, .int (nI 1 - nI 1)), (8, .long (lN 0 - lN 1)), (7, .int (nI 0)), (0, .int (nI i)), (1, .int (nI lk)), (2, .ref (z 4)), (3, .ref (z 5)), (4, .ref (z 0)), (5, .ref (z 2)), (6, .ref (z 3))]) S.1 S.2.1 dL_weeks_9 hl (by decide) rfl (fun ls hl => ?_)
  refine lv_aload_n S.1 S.2.1 dL_weeks_11 rfl (lv_at hl 5 rfl) ?_
  refine lv_iconst (v := (nI 0)) S.1 S.2.1 dL_weeks_12 (by decide) ?_
  refine lv_iconst (v := (-1)) S.1 S.2.1 dL_weeks_13 (by decide) ?_
  refine n_top (show (-1 : Int32) = nI 0 - nI 1 from by decide) ?_
  refine w_iastR S 4 hK hP hD hS rfl (by omega) dL_weeks_14 (fun H locs hP hD hS => ?_)
  have hP : va_P D vwCl (lX cT z n ro cl fb rn nd sk mo wk fx wi la da we (upd Wv 0 ((nI 0 - nI 1))) Bv) H := hP
  have hD : va_D A (lX cT z n ro cl fb rn nd sk mo wk fx wi la da we (upd Wv 0 ((nI 0 - nI 1))) Bv) := hD
  have lp15 : ∀ (fu : Nat) (f : Nat) (le : Nat) (t : Nat) (u : Nat) (c : Nat) (x : Nat) (W1 : Nat → Int32) (B1 : Nat → Int32), (WQ (lmay sk mo fx la da fb rn i) W1 t u c x) → (f = cnw (fe sk mo fx la da fb rn i) x) → (le = (cst (fun w => prL (we i) (wi i) lk w) (fe sk mo fx la da fb rn i) x).2) → (le ≠ 0 → ∀ j, j < 7 → B1 j = nI (ent (cst (fun w => prL (we i) (wi i) lk w) (fe sk mo fx la da fb rn i) x).1 j)) → (32 * (16384 - x) + mq t c) < fu → ∀ (H : Heap) (locs : List Loc), va_P D vwCl (lX cT z n ro cl fb rn nd sk mo wk fx wi la da we W1 B1) H → va_D A (lX cT z n ro cl fb rn nd sk mo wk fx wi la da we W1 B1) → va_S A s0.heap H locs → ∀ ls : Array Slot, lv_has ls 14 [(0, .int (nI i)), (1, .int (nI lk)), (2, .ref (z 4)), (3, .ref (z 5)), (4, .ref (z 0)), (5, .ref (z 2)), (6, .ref (z 3)), (7, .int (nI f)), (8, .long (lN le - lN 1)), (10, .int (nI t - nI 1))] → W p0 l e0 ({ frames := 1, cells := 0, slots := 0, locals := 31 } : Room) s0 m0 a0 b0 t0 c0 H locs 0 0 (MQ b0 (wQi (fun (r_ : Int32) (u_ : (Nat → Int32) × (Nat → Int32)) => r_ = nI (cnw (fe sk mo fx la da fb rn i) 16384) ∧ ∀ j, j < 7 → u_.2 j = nI (ent (cst (fun w => prL (we i) (wi i) lk w) (fe sk mo fx la da fb rn i) 16384).1 j)) D (fun (u_ : (Nat → Int32) × (Nat → Int32)) => lX cT z n ro cl fb rn nd sk mo wk fx wi la da we u_.1 u_.2) A) a0 s0 0 0 A) (F0 m0 15 ls []) := by
    intro fu
    induction fu with
    | zero =>
      intro f le t u c x W1 B1 hq hf hle hB hm
      exact absurd hm (Nat.not_lt_zero _)
    | succ fu ih15 =>
      intro f le t u c x W1 B1 hq hf hle hB hm H locs hP hD hS ls hl
      have ht7 := wq_t7 hq
      refine lv_iload S.1 S.2.1 dL_weeks_15 (lv_at hl 9 rfl) ?_
      refine lv_if_lt (tgt := 178) S.1 S.2.1 dL_weeks_17 (by decide) (fun c17 => ?_) (fun c17 => ?_)
      · have ht0 : t = 0 := (fx_lt0 (by omega)).mp c17
        have hx0 : x = 16384 := wq_0 (by rw [ht0] at hq; exact hq)
        refine lv_iconst (v := (nI 0)) S.1 S.2.1 dL_weeks_178 (by decide) ?_
        refine lv_istore (lv' := [(11, .int (nI 0)), (0, .int (nI i)), (1, .int (nI lk)), (2, .ref (z 4)), (3, .ref (z 5)), (4, .ref (z 0)), (5, .ref (z 2)), (6, .ref (z 3)), (7, .int (nI f)), (8, .long (lN le - lN 1)), (10, .int (nI t - nI 1))]) S.1 S.2.1 dL_weeks_179 hl (by decide) rfl (fun ls hl => ?_)
        have lp181 : ∀ (fu : Nat) (B2 : Nat → Int32) (k : Nat), (k ≤ 7) → ((k = 0 ∧ B2 = B1) ∨ (f = 0 ∧ ∀ j, j < k → B2 j = nI 0)) → (7 - k) < fu → ∀ (H : Heap) (locs : List Loc), va_P D vwCl (lX cT z n ro cl fb rn nd sk mo wk fx wi la da we W1 B2) H → va_D A (lX cT z n ro cl fb rn nd sk mo wk fx wi la da we W1 B2) → va_S A s0.heap H locs → ∀ ls : Array Slot, lv_has ls 14 [(0, .int (nI i)), (1, .int (nI lk)), (2, .ref (z 4)), (3, .ref (z 5)), (4, .ref (z 0)), (5, .ref (z 2)), (6, .ref (z 3)), (7, .int (nI f)), (8, .long (lN le - lN 1)), (10, .int (nI t - nI 1)), (11, .int (nI k))] → W p0 l e0 ({ frames := 1, cells := 0, slots := 0, locals := 31 } : Room) s0 m0 a0 b0 t0 c0 H locs 0 0 (MQ b0 (wQi (fun (r_ : Int32) (u_ : (Nat → Int32) × (Nat → Int32)) => r_ = nI (cnw (fe sk mo fx la da fb rn i) 16384) ∧ ∀ j, j < 7 → u_.2 j = nI (ent (cst (fun w => prL (we i) (wi i) lk w) (fe sk mo fx la da fb rn i) 16384).1 j)) D (fun (u_ : (Nat → Int32) × (Nat → Int32)) => lX cT z n ro cl fb rn nd sk mo wk fx wi la da we u_.1 u_.2) A) a0 s0 0 0 A) (F0 m0 181 ls []) := by
          intro fu
          induction fu with
          | zero =>
            intro B2 k h7 hB2 hm
            exact absurd hm (Nat.not_lt_zero _)
          | succ fu ih181 =>
            intro B2 k h7 hB2 hm H locs hP hD hS ls hl
            refine lv_iload S.1 S.2.1 dL_weeks_181 (lv_at hl 10 rfl) ?_
            refine lv_bipush (v := (nI 7)) S.1 S.2.1 dL_weeks_183 (by decide) ?_
            refine n_cge S (tgt := 204) (by omega) dL_weeks_185 (by decide) (fun c185 => ?_) (fun c185 => ?_)
            · refine lv_iload S.1 S.2.1 dL_weeks_204 (lv_at hl 7 rfl) ?_
              exact wr_iret S ((W1, B2)) hr rfl hlocks (⟨by rw [hf, hx0], by rw [hx0] at hf hle hB; exact wk_end (P := (fun w => prL (we i) (wi i) lk w)) (F := fe sk mo fx la da fb rn i) hf hle hB hB2 (Or.inl c185) h7⟩) (hP) (hD) hS dL_weeks_206
            · refine lv_iload S.1 S.2.1 dL_weeks_188 (lv_at hl 7 rfl) ?_
              refine n_zne S (tgt := 204) (Nat.lt_of_le_of_lt (Nat.le_trans (Nat.le_of_eq hf) (Nat.le_trans (cnw_le _ _) (wq_x hq))) (by decide)) dL_weeks_190 (by decide) (fun c190 => ?_) (fun c190 => ?_)
              · refine lv_iload S.1 S.2.1 dL_weeks_204 (lv_at hl 7 rfl) ?_
                exact wr_iret S ((W1, B2)) hr rfl hlocks (⟨by rw [hf, hx0], by rw [hx0] at hf hle hB; exact wk_end (P := (fun w => prL (we i) (wi i) lk w)) (F := fe sk mo fx la da fb rn i) hf hle hB hB2 (Or.inr c190) h7⟩) (hP) (hD) hS dL_weeks_206
              · refine lv_aload_n S.1 S.2.1 dL_weeks_193 rfl (lv_at hl 3 rfl) ?_
                refine lv_iload S.1 S.2.1 dL_weeks_194 (lv_at hl 10 rfl) ?_
                refine lv_iconst (v := (nI 0)) S.1 S.2.1 dL_weeks_196 (by decide) ?_
                refine w_iastR S 5 hK hP hD hS rfl (by omega) dL_weeks_197 (fun H locs hP hD hS => ?_)
                have hP : va_P D vwCl (lX cT z n ro cl fb rn nd sk mo wk fx wi la da we W1 (upd B2 k ((nI 0)))) H := hP
                have hD : va_D A (lX cT z n ro cl fb rn nd sk mo wk fx wi la da we W1 (upd B2 k ((nI 0)))) := hD
                refine lv_iinc (v := (nI (k + 1))) (lv' := [(11, .int (nI (k + 1))), (0, .int (nI i)), (1, .int (nI lk)), (2, .ref (z 4)), (3, .ref (z 5)), (4, .ref (z 0)), (5, .ref (z 2)), (6, .ref (z 3)), (7, .int (nI f)), (8, .long (lN le - lN 1)), (10, .int (nI t - nI 1))]) S.1 S.2.1 dL_weeks_198 hl (k := 10) rfl (nI_1 _) (by decide) rfl (fun ls hl => ?_)
                refine lv_goto (tgt := 181) S.1 S.2.1 dL_weeks_201 (by decide) ?_
                exact ih181 (upd B2 k ((nI 0))) (k + 1) (by omega) (Or.inr ⟨c190, z_step hB2⟩) (by omega) _ _ hP hD hS ls (lv_sub hl [1, 2, 3, 4, 5, 6, 7, 8, 9, 10, 0] rfl)
        exact lp181 _ B1 0 (Nat.zero_le _) (Or.inl ⟨rfl, rfl⟩) (Nat.lt_succ_self _) _ _ hP hD hS ls (lv_sub hl [1, 2, 3, 4, 5, 6, 7, 8, 9, 10, 0] rfl)
      · have ht1 : 1 ≤ t := by have := (not_congr (fx_lt0 (n := t) (by omega))).mp c17; omega
        rw [sx_sub ht1] at hl
        have hc4 := (wq_c hq ht1).1
        refine lv_aload_n S.1 S.2.1 dL_weeks_20 rfl (lv_at hl 2 rfl) ?_
        refine lv_iload S.1 S.2.1 dL_weeks_21 (lv_at hl 9 rfl) ?_
        refine lv_dup2_11 S.1 S.2.1 dL_weeks_23 rfl rfl ?_
        refine g_ialdR S 4 hK hP rfl (by omega) dL_weeks_24 ?_
        refine n_top (show (W1 (t - 1)) = (nI c - nI 1) from (wq_c hq ht1).2) ?_
        refine lv_iconst (v := (nI 1)) S.1 S.2.1 dL_weeks_25 (by decide) ?_
        refine lv_iadd S.1 S.2.1 dL_weeks_26 ?_
        refine n_top (show ((nI c - nI 1) + (nI 1)) = (nI c) from Int32.sub_add_cancel _ _) ?_
        refine w_iastR S 4 hK hP hD hS rfl (⟨by omega, by decide⟩) dL_weeks_27 (fun H locs hP hD hS => ?_)
        have hP : va_P D vwCl (lX cT z n ro cl fb rn nd sk mo wk fx wi la da we (upd W1 (t - 1) ((nI c))) B1) H := hP
        have hD : va_D A (lX cT z n ro cl fb rn nd sk mo wk fx wi la da we (upd W1 (t - 1) ((nI c))) B1) := hD
        refine lv_aload_n S.1 S.2.1 dL_weeks_28 rfl (lv_at hl 2 rfl) ?_
        refine lv_iload S.1 S.2.1 dL_weeks_29 (lv_at hl 9 rfl) ?_
        refine g_ialdR S 4 hK hP rfl (by omega) dL_weeks_31 ?_
        refine n_top (show ((upd W1 (t - 1) ((nI c))) (t - 1)) = (nI c) from if_pos rfl) ?_
        refine lv_iconst (v := (nI 3)) S.1 S.2.1 dL_weeks_32 (by decide) ?_
        refine n_cle S (tgt := 42) (by omega) dL_weeks_33 (by decide) (fun c33 => ?_) (fun c33 => ?_)
        · have he := wq_ent hq ht1 c33
          refine lv_iload_n S.1 S.2.1 dL_weeks_42 rfl (lv_at hl 0 rfl) ?_
          refine lv_iload S.1 S.2.1 dL_weeks_43 (lv_at hl 9 rfl) ?_
          refine lv_aload_n S.1 S.2.1 dL_weeks_45 rfl (lv_at hl 2 rfl) ?_
          refine lv_aload S.1 S.2.1 dL_weeks_46 (lv_at hl 4 rfl) ?_
          refine lv_aload S.1 S.2.1 dL_weeks_48 (lv_at hl 5 rfl) ?_
          refine lv_aload S.1 S.2.1 dL_weeks_50 (lv_at hl 6 rfl) ?_
          refine rd_callS (rest := []) S (r_L_may l D cT z bd n ro cl fb rn nd sk mo wk fx wi la da we (upd W1 (t - 1) ((nI c))) B1 i (t - 1) x (hwf) (hz) (hi) (by omega) (he.1) (he.2)) gL_weeks_L_may rfl pd_L_may ⟨rfl, rfl, Nat.le_of_ble_eq_true rfl, Nat.le_of_ble_eq_true rfl⟩ hP hK hl rfl rfl (Nat.le_of_ble_eq_true rfl) ⟨Nat.zero_le _, Nat.zero_le _⟩ dL_weeks_52 ?_
          refine n_beq S (tgt := 76) dL_weeks_55 (by decide) (fun c55 => ?_) (fun c55 => ?_)
          · refine lv_iload S.1 S.2.1 dL_weeks_76 (lv_at hl 9 rfl) ?_
            refine lv_bipush (v := (nI 6)) S.1 S.2.1 dL_weeks_78 (by decide) ?_
            refine n_cne S (tgt := 15) (by omega) dL_weeks_80 (by decide) (fun c80 => ?_) (fun c80 => ?_)
            · rw [show nI (t - 1) = nI t - nI 1 from (sx_sub ht1).symm] at hl
              exact ih15 f le t u (c + 1) (x + 4 ^ (7 - t)) (upd W1 (t - 1) ((nI c))) B1 (wq_next hq ht1 c33) (by rw [hf]; exact (cs_skip (P := (fun w => prL (we i) (wi i) lk w)) (F := fe sk mo fx la da fb rn i) (4 ^ (7 - t)) (fun w h1 h2 => fe_n (by omega) (wq_skip hq ht1 c33 c55 hM w h1 h2))).1.symm) (by rw [hle]; exact (congrArg Prod.snd (cs_skip (P := (fun w => prL (we i) (wi i) lk w)) (F := fe sk mo fx la da fb rn i) (4 ^ (7 - t)) (fun w h1 h2 => fe_n (by omega) (wq_skip hq ht1 c33 c55 hM w h1 h2))).2).symm) (by rw [(cs_skip (P := (fun w => prL (we i) (wi i) lk w)) (F := fe sk mo fx la da fb rn i) (4 ^ (7 - t)) (fun w h1 h2 => fe_n (by omega) (wq_skip hq ht1 c33 c55 hM w h1 h2))).2]; exact hB) (wq_mnext (wq_next hq ht1 c33) hm) _ _ hP hD hS ls (lv_sub hl [0, 1, 2, 3, 4, 5, 6, 7, 8, 9] rfl)
            · refine lv_iload_n S.1 S.2.1 dL_weeks_83 rfl (lv_at hl 0 rfl) ?_
              refine lv_iload S.1 S.2.1 dL_weeks_84 (lv_at hl 9 rfl) ?_
              refine lv_aload_n S.1 S.2.1 dL_weeks_86 rfl (lv_at hl 2 rfl) ?_
              refine lv_aload S.1 S.2.1 dL_weeks_87 (lv_at hl 4 rfl) ?_
              refine lv_aload S.1 S.2.1 dL_weeks_89 (lv_at hl 5 rfl) ?_
              refine lv_aload S.1 S.2.1 dL_weeks_91 (lv_at hl 6 rfl) ?_
              refine rd_callS (rest := []) S (r_L_may l D cT z bd n ro cl fb rn nd sk mo wk fx wi la da we (upd W1 (t - 1) ((nI c))) B1 i (t - 1) x (hwf) (hz) (hi) (by omega) (he.1) (he.2)) gL_weeks_L_may rfl pd_L_may ⟨rfl, rfl, Nat.le_of_ble_eq_true rfl, Nat.le_of_ble_eq_true rfl⟩ hP hK hl rfl rfl (Nat.le_of_ble_eq_true rfl) ⟨Nat.zero_le _, Nat.zero_le _⟩ dL_weeks_93 ?_
              refine n_beq S (tgt := 15) dL_weeks_96 (by decide) (fun c96 => ?_) (fun c96 => ?_)
              · rw [show nI (t - 1) = nI t - nI 1 from (sx_sub ht1).symm] at hl
                exact ih15 f le t u (c + 1) (x + 4 ^ (7 - t)) (upd W1 (t - 1) ((nI c))) B1 (wq_next hq ht1 c33) (by rw [hf]; exact (cs_skip (P := (fun w => prL (we i) (wi i) lk w)) (F := fe sk mo fx la da fb rn i) (4 ^ (7 - t)) (fun w h1 h2 => fe_n (by omega) (wq_skip hq ht1 c33 c55 hM w h1 h2))).1.symm) (by rw [hle]; exact (congrArg Prod.snd (cs_skip (P := (fun w => prL (we i) (wi i) lk w)) (F := fe sk mo fx la da fb rn i) (4 ^ (7 - t)) (fun w h1 h2 => fe_n (by omega) (wq_skip hq ht1 c33 c55 hM w h1 h2))).2).symm) (by rw [(cs_skip (P := (fun w => prL (we i) (wi i) lk w)) (F := fe sk mo fx la da fb rn i) (4 ^ (7 - t)) (fun w h1 h2 => fe_n (by omega) (wq_skip hq ht1 c33 c55 hM w h1 h2))).2]; exact hB) (wq_mnext (wq_next hq ht1 c33) hm) _ _ hP hD hS ls (lv_sub hl [0, 1, 2, 3, 4, 5, 6, 7, 8, 9] rfl)
              · exact absurd (c55.symm.trans c96) (by decide)
          · refine lv_iload S.1 S.2.1 dL_weeks_58 (lv_at hl 9 rfl) ?_
            refine lv_bipush (v := (nI 6)) S.1 S.2.1 dL_weeks_60 (by decide) ?_
            refine n_cge S (tgt := 76) (by omega) dL_weeks_62 (by decide) (fun c62 => ?_) (fun c62 => ?_)
            · refine lv_iload S.1 S.2.1 dL_weeks_76 (lv_at hl 9 rfl) ?_
              refine lv_bipush (v := (nI 6)) S.1 S.2.1 dL_weeks_78 (by decide) ?_
              refine n_cne S (tgt := 15) (by omega) dL_weeks_80 (by decide) (fun c80 => ?_) (fun c80 => ?_)
              · exact absurd c80 (by omega)
              · refine lv_iload_n S.1 S.2.1 dL_weeks_83 rfl (lv_at hl 0 rfl) ?_
                refine lv_iload S.1 S.2.1 dL_weeks_84 (lv_at hl 9 rfl) ?_
                refine lv_aload_n S.1 S.2.1 dL_weeks_86 rfl (lv_at hl 2 rfl) ?_
                refine lv_aload S.1 S.2.1 dL_weeks_87 (lv_at hl 4 rfl) ?_
                refine lv_aload S.1 S.2.1 dL_weeks_89 (lv_at hl 5 rfl) ?_
                refine lv_aload S.1 S.2.1 dL_weeks_91 (lv_at hl 6 rfl) ?_
                refine rd_callS (rest := []) S (r_L_may l D cT z bd n ro cl fb rn nd sk mo wk fx wi la da we (upd W1 (t - 1) ((nI c))) B1 i (t - 1) x (hwf) (hz) (hi) (by omega) (he.1) (he.2)) gL_weeks_L_may rfl pd_L_may ⟨rfl, rfl, Nat.le_of_ble_eq_true rfl, Nat.le_of_ble_eq_true rfl⟩ hP hK hl rfl rfl (Nat.le_of_ble_eq_true rfl) ⟨Nat.zero_le _, Nat.zero_le _⟩ dL_weeks_93 ?_
                refine n_beq S (tgt := 15) dL_weeks_96 (by decide) (fun c96 => ?_) (fun c96 => ?_)
                · exact absurd (c55.symm.trans c96) (by decide)
                · have ht7e : t = 7 := by omega
                  have hx1 : x + 4 ^ (7 - t) = x + 1 := by rw [ht7e]
                  have hFx : fe sk mo fx la da fb rn i x = true := fe_y (fun d hd => by by_cases e : d = t - 1; (rw [e]; exact c96); exact wq_anc hq ht1 c33 hM d (by omega))
                  have hlb : le ≤ 2 ^ 30 := by rw [hle]; exact cst_bd hPb x
                  have hpx : prL (we i) (wi i) lk x < 2 ^ 30 := hPb x
                  refine lv_iinc (v := (nI (f + 1))) (lv' := [(7, .int (nI (f + 1))), (0, .int (nI i)), (1, .int (nI lk)), (2, .ref (z 4)), (3, .ref (z 5)), (4, .ref (z 0)), (5, .ref (z 2)), (6, .ref (z 3)), (8, .long (lN le - lN 1)), (10, .int (nI (t - 1)))]) S.1 S.2.1 dL_weeks_99 hl (k := 7) rfl (nI_1 _) (by decide) rfl (fun ls hl => ?_)
                  refine lv_iload_n S.1 S.2.1 dL_weeks_102 rfl (lv_at hl 1 rfl) ?_
                  refine lv_aload_n S.1 S.2.1 dL_weeks_103 rfl (lv_at hl 3 rfl) ?_
                  refine lv_aload S.1 S.2.1 dL_weeks_104 (lv_at hl 5 rfl) ?_
                  refine lv_iload_n S.1 S.2.1 dL_weeks_106 rfl (lv_at hl 2 rfl) ?_
                  refine rd_callSl (rest := []) S (r_L_worth l D cT z bd n ro cl fb rn nd sk mo wk fx wi la da we (upd W1 (t - 1) ((nI c))) B1 i lk x (hwf) (hi) (he.1) (fun j hj => he.2 j (by omega)) (hlk)) gL_weeks_L_worth rfl pd_L_worth ⟨rfl, rfl, Nat.le_of_ble_eq_true rfl, Nat.le_of_ble_eq_true rfl⟩ hP hK hl rfl rfl (Nat.le_of_ble_eq_true rfl) ⟨Nat.zero_le _, Nat.zero_le _⟩ dL_weeks_107 ?_
                  refine lv_lstore (lv' := [(11, .long (lN (prL (we i) (wi i) lk x))), (7, .int (nI (f + 1))), (0, .int (nI i)), (1, .int (nI lk)), (2, .ref (z 4)), (3, .ref (z 5)), (4, .ref (z 0)), (5, .ref (z 2)), (6, .ref (z 3)), (8, .long (lN le - lN 1)), (10, .int (nI (t - 1)))]) S.1 S.2.1 dL_weeks_110 hl (by decide) rfl (fun ls hl => ?_)
                  have jn151 : ∀ (B3 : Nat → Int32) , (((le = 0 ∨ prL (we i) (wi i) lk x + 1 < le) ∧ ∀ j, j < 7 → B3 j = nI (ent x j)) ∨ (le ≠ 0 ∧ le ≤ prL (we i) (wi i) lk x + 1 ∧ B3 = B1)) → ∀ (H : Heap) (locs : List Loc), va_P D vwCl (lX cT z n ro cl fb rn nd sk mo wk fx wi la da we (upd W1 (t - 1) ((nI c))) B3) H → va_D A (lX cT z n ro cl fb rn nd sk mo wk fx wi la da we (upd W1 (t - 1) ((nI c))) B3) → va_S A s0.heap H locs → ∀ ls : Array Slot, lv_has ls 14 [(0, .int (nI i)), (1, .int (nI lk)), (2, .ref (z 4)), (3, .ref (z 5)), (4, .ref (z 0)), (5, .ref (z 2)), (6, .ref (z 3)), (7, .int (nI (f + 1))), (8, .long (lN le - lN 1)), (10, .int (nI (t - 1))), (11, .long (lN (prL (we i) (wi i) lk x)))] → W p0 l e0 ({ frames := 1, cells := 0, slots := 0, locals := 31 } : Room) s0 m0 a0 b0 t0 c0 H locs 0 0 (MQ b0 (wQi (fun (r_ : Int32) (u_ : (Nat → Int32) × (Nat → Int32)) => r_ = nI (cnw (fe sk mo fx la da fb rn i) 16384) ∧ ∀ j, j < 7 → u_.2 j = nI (ent (cst (fun w => prL (we i) (wi i) lk w) (fe sk mo fx la da fb rn i) 16384).1 j)) D (fun (u_ : (Nat → Int32) × (Nat → Int32)) => lX cT z n ro cl fb rn nd sk mo wk fx wi la da we u_.1 u_.2) A) a0 s0 0 0 A) (F0 m0 151 ls []) := by
                    intro B3 hB3 H locs hP hD hS ls hl
                    refine lv_lload S.1 S.2.1 dL_weeks_151 (lv_at hl 8 rfl) ?_
                    refine lv_lconst (v := 0) S.1 S.2.1 dL_weeks_153 (by decide) ?_
                    refine n_llt S (tgt := 166) dL_weeks_154 dL_weeks_155 (by decide) (fun c155 => ?_) (fun c155 => ?_)
                    · refine lv_lload S.1 S.2.1 dL_weeks_166 (lv_at hl 10 rfl) ?_
                      refine lv_goto (tgt := 173) S.1 S.2.1 dL_weeks_168 (by decide) ?_
                      refine n_topl (show lN (prL (we i) (wi i) lk x) = lN (prL (we i) (wi i) lk x + 1) - lN 1 from by rw [lN_sub (by omega), Nat.add_sub_cancel]) ?_
                      refine lv_lstore (lv' := [(8, .long (lN (prL (we i) (wi i) lk x + 1) - lN 1)), (0, .int (nI i)), (1, .int (nI lk)), (2, .ref (z 4)), (3, .ref (z 5)), (4, .ref (z 0)), (5, .ref (z 2)), (6, .ref (z 3)), (7, .int (nI (f + 1))), (10, .int (nI (t - 1))), (11, .long (lN (prL (we i) (wi i) lk x)))]) S.1 S.2.1 dL_weeks_173 hl (by decide) rfl (fun ls hl => ?_)
                      refine lv_goto (tgt := 15) S.1 S.2.1 dL_weeks_175 (by decide) ?_
                      rw [show nI (t - 1) = nI t - nI 1 from (sx_sub ht1).symm] at hl
                      exact ih15 (f + 1) (prL (we i) (wi i) lk x + 1) t u (c + 1) (x + 4 ^ (7 - t)) (upd W1 (t - 1) ((nI c))) B3 (wq_next hq ht1 c33) (by rw [hx1, hf]; exact (cnw_1 hFx).symm) (by rw [hx1]; exact (lf_y hFx hle (P := (fun w => prL (we i) (wi i) lk w)) hB3 (Or.inl ((ll_0 hlb).mp c155))).1) (fun _ => by rw [hx1]; exact (lf_y hFx hle (P := (fun w => prL (we i) (wi i) lk w)) hB3 (Or.inl ((ll_0 hlb).mp c155))).2) (wq_mnext (wq_next hq ht1 c33) hm) _ _ hP hD hS ls (lv_sub hl [1, 2, 3, 4, 5, 6, 7, 8, 0, 9] rfl)
                    · refine lv_lload S.1 S.2.1 dL_weeks_158 (lv_at hl 10 rfl) ?_
                      refine lv_lload S.1 S.2.1 dL_weeks_160 (lv_at hl 8 rfl) ?_
                      refine n_lge S (tgt := 171) dL_weeks_162 dL_weeks_163 (by decide) (fun c163 => ?_) (fun c163 => ?_)
                      · refine lv_lload S.1 S.2.1 dL_weeks_171 (lv_at hl 8 rfl) ?_
                        refine lv_lstore (lv' := [(8, .long (lN le - lN 1)), (0, .int (nI i)), (1, .int (nI lk)), (2, .ref (z 4)), (3, .ref (z 5)), (4, .ref (z 0)), (5, .ref (z 2)), (6, .ref (z 3)), (7, .int (nI (f + 1))), (10, .int (nI (t - 1))), (11, .long (lN (prL (we i) (wi i) lk x)))]) S.1 S.2.1 dL_weeks_173 hl (by decide) rfl (fun ls hl => ?_)
                        refine lv_goto (tgt := 15) S.1 S.2.1 dL_weeks_175 (by decide) ?_
                        rw [show nI (t - 1) = nI t - nI 1 from (sx_sub ht1).symm] at hl
                        exact ih15 (f + 1) le t u (c + 1) (x + 4 ^ (7 - t)) (upd W1 (t - 1) ((nI c))) B3 (wq_next hq ht1 c33) (by rw [hx1, hf]; exact (cnw_1 hFx).symm) (by rw [hx1]; exact (lf_n hFx hle (P := (fun w => prL (we i) (wi i) lk w)) hB hB3 ((not_congr (ll_0 hlb)).mp c155) (by have := (not_congr (ll_p hpx hlb ((not_congr (ll_0 hlb)).mp c155))).mp c163; exact Nat.le_of_not_lt this)).1) (fun _ => by rw [hx1]; exact (lf_n hFx hle (P := (fun w => prL (we i) (wi i) lk w)) hB hB3 ((not_congr (ll_0 hlb)).mp c155) (by have := (not_congr (ll_p hpx hlb ((not_congr (ll_0 hlb)).mp c155))).mp c163; exact Nat.le_of_not_lt this)).2) (wq_mnext (wq_next hq ht1 c33) hm) _ _ hP hD hS ls (lv_sub hl [1, 2, 3, 4, 5, 6, 7, 8, 0, 9] rfl)
                      · refine lv_lload S.1 S.2.1 dL_weeks_166 (lv_at hl 10 rfl) ?_
                        refine lv_goto (tgt := 173) S.1 S.2.1 dL_weeks_168 (by decide) ?_
                        refine n_topl (show lN (prL (we i) (wi i) lk x) = lN (prL (we i) (wi i) lk x + 1) - lN 1 from by rw [lN_sub (by omega), Nat.add_sub_cancel]) ?_
                        refine lv_lstore (lv' := [(8, .long (lN (prL (we i) (wi i) lk x + 1) - lN 1)), (0, .int (nI i)), (1, .int (nI lk)), (2, .ref (z 4)), (3, .ref (z 5)), (4, .ref (z 0)), (5, .ref (z 2)), (6, .ref (z 3)), (7, .int (nI (f + 1))), (10, .int (nI (t - 1))), (11, .long (lN (prL (we i) (wi i) lk x)))]) S.1 S.2.1 dL_weeks_173 hl (by decide) rfl (fun ls hl => ?_)
                        refine lv_goto (tgt := 15) S.1 S.2.1 dL_weeks_175 (by decide) ?_
                        rw [show nI (t - 1) = nI t - nI 1 from (sx_sub ht1).symm] at hl
                        exact ih15 (f + 1) (prL (we i) (wi i) lk x + 1) t u (c + 1) (x + 4 ^ (7 - t)) (upd W1 (t - 1) ((nI c))) B3 (wq_next hq ht1 c33) (by rw [hx1, hf]; exact (cnw_1 hFx).symm) (by rw [hx1]; exact (lf_y hFx hle (P := (fun w => prL (we i) (wi i) lk w)) hB3 (Or.inr ((ll_p hpx hlb ((not_congr (ll_0 hlb)).mp c155)).mp c163))).1) (fun _ => by rw [hx1]; exact (lf_y hFx hle (P := (fun w => prL (we i) (wi i) lk w)) hB3 (Or.inr ((ll_p hpx hlb ((not_congr (ll_0 hlb)).mp c155)).mp c163))).2) (wq_mnext (wq_next hq ht1 c33) hm) _ _ hP hD hS ls (lv_sub hl [1, 2, 3, 4, 5, 6, 7, 8, 0, 9] rfl)
                  refine lv_iconst (v := (nI 0)) S.1 S.2.1 dL_weeks_112 (by decide) ?_
                  refine lv_istore (lv' := [(13, .int (nI 0)), (11, .long (lN (prL (we i) (wi i) lk x))), (7, .int (nI (f + 1))), (0, .int (nI i)), (1, .int (nI lk)), (2, .ref (z 4)), (3, .ref (z 5)), (4, .ref (z 0)), (5, .ref (z 2)), (6, .ref (z 3)), (8, .long (lN le - lN 1)), (10, .int (nI (t - 1)))]) S.1 S.2.1 dL_weeks_113 hl (by decide) rfl (fun ls hl => ?_)
                  have lp115 : ∀ (fu : Nat) (B2 : Nat → Int32) (k : Nat), (k ≤ 7) → (B2 = cpy (upd W1 (t - 1) (nI c)) B1 k) → (k = 0 ∨ (le = 0 ∨ prL (we i) (wi i) lk x + 1 < le)) → (7 - k) < fu → ∀ (H : Heap) (locs : List Loc), va_P D vwCl (lX cT z n ro cl fb rn nd sk mo wk fx wi la da we (upd W1 (t - 1) ((nI c))) B2) H → va_D A (lX cT z n ro cl fb rn nd sk mo wk fx wi la da we (upd W1 (t - 1) ((nI c))) B2) → va_S A s0.heap H locs → ∀ ls : Array Slot, lv_has ls 14 [(0, .int (nI i)), (1, .int (nI lk)), (2, .ref (z 4)), (3, .ref (z 5)), (4, .ref (z 0)), (5, .ref (z 2)), (6, .ref (z 3)), (7, .int (nI (f + 1))), (8, .long (lN le - lN 1)), (10, .int (nI (t - 1))), (11, .long (lN (prL (we i) (wi i) lk x))), (13, .int (nI k))] → W p0 l e0 ({ frames := 1, cells := 0, slots := 0, locals := 31 } : Room) s0 m0 a0 b0 t0 c0 H locs 0 0 (MQ b0 (wQi (fun (r_ : Int32) (u_ : (Nat → Int32) × (Nat → Int32)) => r_ = nI (cnw (fe sk mo fx la da fb rn i) 16384) ∧ ∀ j, j < 7 → u_.2 j = nI (ent (cst (fun w => prL (we i) (wi i) lk w) (fe sk mo fx la da fb rn i) 16384).1 j)) D (fun (u_ : (Nat → Int32) × (Nat → Int32)) => lX cT z n ro cl fb rn nd sk mo wk fx wi la da we u_.1 u_.2) A) a0 s0 0 0 A) (F0 m0 115 ls []) := by
                    intro fu
                    induction fu with
                    | zero =>
                      intro B2 k h7 hB2 hkc hm
                      exact absurd hm (Nat.not_lt_zero _)
                    | succ fu ih115 =>
                      intro B2 k h7 hB2 hkc hm H locs hP hD hS ls hl
                      refine lv_iload S.1 S.2.1 dL_weeks_115 (lv_at hl 11 rfl) ?_
                      refine lv_bipush (v := (nI 7)) S.1 S.2.1 dL_weeks_117 (by decide) ?_
                      refine n_cge S (tgt := 151) (by omega) dL_weeks_119 (by decide) (fun c119 => ?_) (fun c119 => ?_)
                      · exact jn151 B2 (Or.inl ⟨hkc.resolve_left (by omega), fun j hj => by rw [hB2]; show (if j < k then _ else _) = _; rw [if_pos (by omega)]; exact he.2 j (by omega)⟩) _ _ hP hD hS ls (lv_sub hl [0, 1, 2, 3, 4, 5, 6, 7, 8, 9, 10] rfl)
                      · refine lv_lload S.1 S.2.1 dL_weeks_122 (lv_at hl 8 rfl) ?_
                        refine lv_lconst (v := 0) S.1 S.2.1 dL_weeks_124 (by decide) ?_
                        refine n_llt S (tgt := 137) dL_weeks_125 dL_weeks_126 (by decide) (fun c126 => ?_) (fun c126 => ?_)
                        · refine lv_aload_n S.1 S.2.1 dL_weeks_137 rfl (lv_at hl 3 rfl) ?_
                          refine lv_iload S.1 S.2.1 dL_weeks_138 (lv_at hl 11 rfl) ?_
                          refine lv_aload_n S.1 S.2.1 dL_weeks_140 rfl (lv_at hl 2 rfl) ?_
                          refine lv_iload S.1 S.2.1 dL_weeks_141 (lv_at hl 11 rfl) ?_
                          refine g_ialdR S 4 hK hP rfl (by omega) dL_weeks_143 ?_
                          refine w_iastR S 5 hK hP hD hS rfl (by omega) dL_weeks_144 (fun H locs hP hD hS => ?_)
                          have hP : va_P D vwCl (lX cT z n ro cl fb rn nd sk mo wk fx wi la da we (upd W1 (t - 1) ((nI c))) (upd B2 k (((upd W1 (t - 1) ((nI c))) k)))) H := hP
                          have hD : va_D A (lX cT z n ro cl fb rn nd sk mo wk fx wi la da we (upd W1 (t - 1) ((nI c))) (upd B2 k (((upd W1 (t - 1) ((nI c))) k)))) := hD
                          refine lv_iinc (v := (nI (k + 1))) (lv' := [(13, .int (nI (k + 1))), (0, .int (nI i)), (1, .int (nI lk)), (2, .ref (z 4)), (3, .ref (z 5)), (4, .ref (z 0)), (5, .ref (z 2)), (6, .ref (z 3)), (7, .int (nI (f + 1))), (8, .long (lN le - lN 1)), (10, .int (nI (t - 1))), (11, .long (lN (prL (we i) (wi i) lk x)))]) S.1 S.2.1 dL_weeks_145 hl (k := 11) rfl (nI_1 _) (by decide) rfl (fun ls hl => ?_)
                          refine lv_goto (tgt := 115) S.1 S.2.1 dL_weeks_148 (by decide) ?_
                          exact ih115 (upd B2 k (((upd W1 (t - 1) ((nI c))) k))) (k + 1) (by omega) (by rw [hB2]; exact cpy_s) (Or.inr (Or.inl ((ll_0 hlb).mp c126))) (by omega) _ _ hP hD hS ls (lv_sub hl [1, 2, 3, 4, 5, 6, 7, 8, 9, 10, 11, 0] rfl)
                        · refine lv_lload S.1 S.2.1 dL_weeks_129 (lv_at hl 10 rfl) ?_
                          refine lv_lload S.1 S.2.1 dL_weeks_131 (lv_at hl 8 rfl) ?_
                          refine n_lge S (tgt := 151) dL_weeks_133 dL_weeks_134 (by decide) (fun c134 => ?_) (fun c134 => ?_)
                          · exact jn151 B2 (by have h0 := (not_congr (ll_0 hlb)).mp c126; have h1 := (not_congr (ll_p hpx hlb h0)).mp c134; exact Or.inr ⟨h0, by omega, by rw [hB2, show k = 0 by omega]; rfl⟩) _ _ hP hD hS ls (lv_sub hl [0, 1, 2, 3, 4, 5, 6, 7, 8, 9, 10] rfl)
                          · refine lv_aload_n S.1 S.2.1 dL_weeks_137 rfl (lv_at hl 3 rfl) ?_
                            refine lv_iload S.1 S.2.1 dL_weeks_138 (lv_at hl 11 rfl) ?_
                            refine lv_aload_n S.1 S.2.1 dL_weeks_140 rfl (lv_at hl 2 rfl) ?_
                            refine lv_iload S.1 S.2.1 dL_weeks_141 (lv_at hl 11 rfl) ?_
                            refine g_ialdR S 4 hK hP rfl (by omega) dL_weeks_143 ?_
                            refine w_iastR S 5 hK hP hD hS rfl (by omega) dL_weeks_144 (fun H locs hP hD hS => ?_)
                            have hP : va_P D vwCl (lX cT z n ro cl fb rn nd sk mo wk fx wi la da we (upd W1 (t - 1) ((nI c))) (upd B2 k (((upd W1 (t - 1) ((nI c))) k)))) H := hP
                            have hD : va_D A (lX cT z n ro cl fb rn nd sk mo wk fx wi la da we (upd W1 (t - 1) ((nI c))) (upd B2 k (((upd W1 (t - 1) ((nI c))) k)))) := hD
                            refine lv_iinc (v := (nI (k + 1))) (lv' := [(13, .int (nI (k + 1))), (0, .int (nI i)), (1, .int (nI lk)), (2, .ref (z 4)), (3, .ref (z 5)), (4, .ref (z 0)), (5, .ref (z 2)), (6, .ref (z 3)), (7, .int (nI (f + 1))), (8, .long (lN le - lN 1)), (10, .int (nI (t - 1))), (11, .long (lN (prL (we i) (wi i) lk x)))]) S.1 S.2.1 dL_weeks_145 hl (k := 11) rfl (nI_1 _) (by decide) rfl (fun ls hl => ?_)
                            refine lv_goto (tgt := 115) S.1 S.2.1 dL_weeks_148 (by decide) ?_
                            exact ih115 (upd B2 k (((upd W1 (t - 1) ((nI c))) k))) (k + 1) (by omega) (by rw [hB2]; exact cpy_s) (Or.inr (Or.inr ((ll_p hpx hlb ((not_congr (ll_0 hlb)).mp c126)).mp c134))) (by omega) _ _ hP hD hS ls (lv_sub hl [1, 2, 3, 4, 5, 6, 7, 8, 9, 10, 11, 0] rfl)
                  exact lp115 _ B1 0 (Nat.zero_le _) (cpy_0.symm) (Or.inl rfl) (Nat.lt_succ_self _) _ _ hP hD hS ls (lv_sub hl [3, 4, 5, 6, 7, 8, 9, 2, 10, 11, 1, 0] rfl)
            · refine lv_iinc (v := (nI t)) (lv' := [(10, .int (nI t)), (0, .int (nI i)), (1, .int (nI lk)), (2, .ref (z 4)), (3, .ref (z 5)), (4, .ref (z 0)), (5, .ref (z 2)), (6, .ref (z 3)), (7, .int (nI f)), (8, .long (lN le - lN 1))]) S.1 S.2.1 dL_weeks_65 hl (k := 9) rfl ((nI_1 _).trans (congrArg nI (Nat.sub_add_cancel ht1))) (by decide) rfl (fun ls hl => ?_)
              refine lv_aload_n S.1 S.2.1 dL_weeks_68 rfl (lv_at hl 3 rfl) ?_
              refine lv_iload S.1 S.2.1 dL_weeks_69 (lv_at hl 0 rfl) ?_
              refine lv_iconst (v := (-1)) S.1 S.2.1 dL_weeks_71 (by decide) ?_
              refine n_top (show (-1 : Int32) = nI 0 - nI 1 from by decide) ?_
              refine w_iastR S 4 hK hP hD hS rfl (by omega) dL_weeks_72 (fun H locs hP hD hS => ?_)
              have hP : va_P D vwCl (lX cT z n ro cl fb rn nd sk mo wk fx wi la da we (upd (upd W1 (t - 1) ((nI c))) t ((nI 0 - nI 1))) B1) H := hP
              have hD : va_D A (lX cT z n ro cl fb rn nd sk mo wk fx wi la da we (upd (upd W1 (t - 1) ((nI c))) t ((nI 0 - nI 1))) B1) := hD
              rw [show nI t = nI (t + 1) - nI 1 from by rw [sx_sub (by omega), Nat.add_sub_cancel]] at hl
              refine lv_goto (tgt := 15) S.1 S.2.1 dL_weeks_73 (by decide) ?_
              exact ih15 f le (t + 1) (4 * u + c) 0 x (upd (upd W1 (t - 1) ((nI c))) t ((nI 0 - nI 1))) B1 (wq_down hq ht1 c33 c62 c55 hM) (hf) (hle) (hB) (by have := mq_down (t := t) c33 (by omega); omega) _ _ hP hD hS ls (lv_sub hl [1, 2, 3, 4, 5, 6, 7, 8, 9, 0] rfl)
        · refine lv_iinc (v := (nI (t - 1) - nI 1)) (lv' := [(10, .int (nI (t - 1) - nI 1)), (0, .int (nI i)), (1, .int (nI lk)), (2, .ref (z 4)), (3, .ref (z 5)), (4, .ref (z 0)), (5, .ref (z 2)), (6, .ref (z 3)), (7, .int (nI f)), (8, .long (lN le - lN 1))]) S.1 S.2.1 dL_weeks_36 hl (k := 9) rfl (dec_I _) (by decide) rfl (fun ls hl => ?_)
          refine lv_goto (tgt := 15) S.1 S.2.1 dL_weeks_39 (by decide) ?_
          exact ih15 f le (t - 1) (u / 4) (u % 4 + 1) x (upd W1 (t - 1) ((nI c))) B1 (wq_pop hq ht1 c33 hM) (hf) (hle) (hB) (by have := mq_pop (c := u % 4 + 1) ht1 ht7; rw [show c = 4 by omega] at hm; omega) _ _ hP hD hS ls (lv_sub hl [1, 2, 3, 4, 5, 6, 7, 8, 9, 0] rfl)
  exact lp15 _ 0 0 1 0 0 0 (upd Wv 0 ((nI 0 - nI 1))) Bv (wq_init (if_pos rfl)) (rfl) (rfl) (fun h => absurd rfl h) (Nat.lt_succ_self _) _ _ hP hD hS ls (lv_sub hl [3, 4, 5, 6, 7, 8, 9, 2, 1, 0] rfl)

