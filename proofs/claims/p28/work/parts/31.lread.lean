/-! the law's methods that only read -/
theorem bef_p {v la d : Nat} (h : 1 ≤ d) : ent v (d - 1) = bef v la d := by
  match d, h with
  | d + 1, _ => rfl
theorem row_all {v da d t r : Nat} (h0 : t = 0) (hr : r = d + 1 - t) (hru : ∀ j, t ≤ j → j ≤ d → ent v j ≠ 0) : (r = d + 1 ∧ ∀ j, j ≤ d → ent v j ≠ 0) ∨ (r ≤ d ∧ rnb v da (d + 1) = r) := by
  subst h0
  exact Or.inl ⟨hr, fun j hj => hru j (Nat.zero_le _) hj⟩
theorem row_cut {v da d t r : Nat} (ht : 1 ≤ t) (h2 : t ≤ d + 1) (hr : r = d + 1 - t) (hru : ∀ j, t ≤ j → j ≤ d → ent v j ≠ 0) (h0 : ent v (t - 1) = 0) : (r = d + 1 ∧ ∀ j, j ≤ d → ent v j ≠ 0) ∨ (r ≤ d ∧ rnb v da (d + 1) = r) := by
  refine Or.inr ⟨by omega, ?_⟩
  have e := rnb_run (v := v) (da := da) (t := t) (d + 1 - t) (fun j h1 h2 => hru j h1 (by omega))
  have e2 : rnb v da t = 0 := by have := rnb_00 (v := v) (da := da) h0; rw [show t - 1 + 1 = t by omega] at this; exact this
  rw [show t + (d + 1 - t) = d + 1 by omega, e2] at e
  rw [e, hr]; omega
theorem row_y {v da d r : Nat} (h : (r = d + 1 ∧ ∀ j, j ≤ d → ent v j ≠ 0) ∨ (r ≤ d ∧ rnb v da (d + 1) = r)) (c : r = d + 1) : r + da = rnb v da (d + 1) := by
  rcases h with h | h
  · have e := rnb_run (v := v) (da := da) (t := 0) (d + 1) (fun j h1 h2 => h.2 j (by omega))
    rw [Nat.zero_add] at e
    rw [e, c, Nat.add_comm]; rfl
  · omega
theorem row_n {v da d r : Nat} (h : (r = d + 1 ∧ ∀ j, j ≤ d → ent v j ≠ 0) ∨ (r ≤ d ∧ rnb v da (d + 1) = r)) (c : r ≠ d + 1) : r + 0 = rnb v da (d + 1) := by
  rcases h with h | h
  · exact absurd h.1 c
  · exact h.2.symm
theorem pd_L_low : yL_low.cls ≠ "java/lang/invoke/MethodHandle" ∧ yL_low.cls ≠ "java/lang/invoke/VarHandle" ∧ (parseMethodDescriptor yL_low.desc).map (fun d => d.parameters.length) = some 2 := by decide +kernel
theorem w_L_low_0 : Cond.constant RL 9 ((nI 2147483647)) ∈ wsL_low := by decide +kernel
set_option maxHeartbeats 4000000 in
set_option maxRecDepth 100000 in
theorem r_L_low (l : Launch) (D : va_G) (cT : ClassId × ClassId × ClassId) (x : Int32) (m : Nat) (hm : 0 < m ∧ m < 2 ^ 31) : Met l yL_low wsL_low ({ frames := 0, cells := 0, slots := 0, locals := 0 }) (va_Pc [.int x, .int (nI m)] (sx_R D (TY cT) ([]))) (vp_Si (fun r_ => r_ = (nI (lowb x % m)))) 0 0 (fun _ => False) := by
  refine rd_start (cc := cL_low) (maxL := 2) (ret := (some .int)) RL ⟨by decide +kernel, rfl⟩ rfl (Nat.le_of_ble_eq_true rfl) ?_
  intro p0 e0 s0 m0 a0 b0 t0 c0 S hr hlocks hP hK ls hl
  have hl : lv_has ls 2 [(0, .int x), (1, .int (nI m))] := hl
  have hlx := lowb_lt x
  refine lv_iload_n S.1 S.2.1 dL_low_0 rfl (lv_at hl 0 rfl) ?_
  refine lv_ldc S.1 S.2.1 (own := RL) S.2.2.2.1 (S.2.2.2.2 _ w_L_low_0) dL_low_1 ?_
  refine lv_iand S.1 S.2.1 dL_low_3 ?_
  refine n_top (show (x &&& (nI 2147483647)) = (nI (lowb x)) from low_and x) ?_
  refine lv_iload_n S.1 S.2.1 dL_low_4 rfl (lv_at hl 1 rfl) ?_
  refine n_rem S (by omega) dL_low_5 ?_
  exact rd_iret S hr rfl hlocks (rfl) dL_low_6

theorem pd_L_may : yL_may.cls ≠ "java/lang/invoke/MethodHandle" ∧ yL_may.cls ≠ "java/lang/invoke/VarHandle" ∧ (parseMethodDescriptor yL_may.desc).map (fun d => d.parameters.length) = some 6 := by decide +kernel
set_option maxHeartbeats 4000000 in
set_option maxRecDepth 100000 in
theorem r_L_may (l : Launch) (D : va_G) (cT : ClassId × ClassId × ClassId) (z : Nat → Nat) (bd n ro cl fb rn : Nat) (nd sk mo wk fx wi la da we : Nat → Nat) (Wv Bv : Nat → Int32) (i d v : Nat) (hwf : wfC n bd fb rn nd sk mo wk fx wi la da we) (hz : ∀ k, k < 4 → bit fb k = 0) (hi : i < 8) (hd : d < 7) (hv : v < 16384) (hW : ∀ j, j ≤ d → Wv j = nI (ent v j)) : Met l yL_may wsL_may ({ frames := 0, cells := 0, slots := 0, locals := 0 }) (va_Pc [.int (nI i), .int (nI d), .ref (z 4), .ref (z 0), .ref (z 2), .ref (z 3)] (sx_R D (TY cT) (lX cT z n ro cl fb rn nd sk mo wk fx wi la da we Wv Bv))) (vp_Si (fun r_ => r_ = (nI (lmay sk mo fx la da fb rn i v d).toNat))) 0 0 (fun _ => False) := by
  refine rd_start (cc := cL_may) (maxL := 10) (ret := (some .boolean)) RL ⟨by decide +kernel, rfl⟩ rfl (Nat.le_of_ble_eq_true rfl) ?_
  intro p0 e0 s0 m0 a0 b0 t0 c0 S hr hlocks hP hK ls hl
  have hl : lv_has ls 10 [(0, .int (nI i)), (1, .int (nI d)), (2, .ref (z 4)), (3, .ref (z 0)), (4, .ref (z 2)), (5, .ref (z 3))] := hl
  obtain ⟨hn, hcl, hfb, hrn, hnd, hper⟩ := id hwf
  have hpi := hper i
  have hel := ent_lt v d
  have hbl := bef_lt (w := v) hpi.2.2.2.2.2.1 d
  have hrl := rnb_le v (da i) (d + 1)
  have hsl := shc_le v 0 (d + 1)
  have hml : da i ≤ 28672 := by omega
  have jn101 : ∀ (y : Nat) , (y = bef v (la i) d) → ((ent v d = 0 ∨ bit (sk i) (ent v d) = 1) ∧ (nib (fx i) d = 0 ∨ nib (fx i) d = ent v d + 1) ∧ (y = 0 ∨ ent v d = 0 ∨ bit fb (4 * y + ent v d) ≠ 1)) → ∀ ls : Array Slot, lv_has ls 10 [(0, .int (nI i)), (1, .int (nI d)), (2, .ref (z 4)), (3, .ref (z 0)), (4, .ref (z 2)), (5, .ref (z 3)), (6, .int (nI y))] → W p0 l e0 ({ frames := 0, cells := 0, slots := 0, locals := 0 } : Room) s0 m0 a0 b0 t0 c0 s0.heap [] 0 0 (MQ b0 (vp_Si (fun r_ => r_ = (nI (lmay sk mo fx la da fb rn i v d).toNat))) a0 s0 0 0 (fun _ => False)) (F0 m0 101 ls []) := by
    intro y hy0 hk ls hl
    refine lv_iconst (v := (nI 0)) S.1 S.2.1 dL_may_101 (by decide) ?_
    have jn165 : ∀ (r1 : Nat) , (r1 = rnb v (da i) (d + 1)) → ∀ ls : Array Slot, lv_has ls 10 [(0, .int (nI i)), (1, .int (nI d)), (2, .ref (z 4)), (3, .ref (z 0)), (4, .ref (z 2)), (5, .ref (z 3)), (6, .int (nI y)), (7, .int (nI r1)), (8, .int (nI 0))] → W p0 l e0 ({ frames := 0, cells := 0, slots := 0, locals := 0 } : Room) s0 m0 a0 b0 t0 c0 s0.heap [] 0 0 (MQ b0 (vp_Si (fun r_ => r_ = (nI (lmay sk mo fx la da fb rn i v d).toNat))) a0 s0 0 0 (fun _ => False)) (F0 m0 165 ls []) := by
      intro r1 hr1 ls hl
      refine lv_iconst (v := (nI 0)) S.1 S.2.1 dL_may_165 (by decide) ?_
      refine lv_istore (lv' := [(9, .int (nI 0)), (0, .int (nI i)), (1, .int (nI d)), (2, .ref (z 4)), (3, .ref (z 0)), (4, .ref (z 2)), (5, .ref (z 3)), (6, .int (nI y)), (7, .int (nI r1)), (8, .int (nI 0))]) S.1 S.2.1 dL_may_166 hl (by decide) rfl (fun ls hl => ?_)
      have lp168 : ∀ (fu : Nat) (k8 : Nat) (j9 : Nat), (j9 ≤ d + 1) → (k8 = shc v 0 j9) → (d + 1 - j9) < fu → ∀ ls : Array Slot, lv_has ls 10 [(0, .int (nI i)), (1, .int (nI d)), (2, .ref (z 4)), (3, .ref (z 0)), (4, .ref (z 2)), (5, .ref (z 3)), (6, .int (nI y)), (7, .int (nI r1)), (8, .int (nI k8)), (9, .int (nI j9))] → W p0 l e0 ({ frames := 0, cells := 0, slots := 0, locals := 0 } : Room) s0 m0 a0 b0 t0 c0 s0.heap [] 0 0 (MQ b0 (vp_Si (fun r_ => r_ = (nI (lmay sk mo fx la da fb rn i v d).toNat))) a0 s0 0 0 (fun _ => False)) (F0 m0 168 ls []) := by
        intro fu
        induction fu with
        | zero =>
          intro k8 j9 h3 hk8 hm
          exact absurd hm (Nat.not_lt_zero _)
        | succ fu ih168 =>
          intro k8 j9 h3 hk8 hm ls hl
          have hkl := shc_le v 0 j9
          refine lv_iload S.1 S.2.1 dL_may_168 (lv_at hl 9 rfl) ?_
          refine lv_iload_n S.1 S.2.1 dL_may_170 rfl (lv_at hl 1 rfl) ?_
          refine n_cgt S (tgt := 197) (by omega) dL_may_171 (by decide) (fun c171 => ?_) (fun c171 => ?_)
          · have hk8e : k8 = shc v 0 (d + 1) := by rw [hk8, show j9 = d + 1 by omega]
            refine lv_iload S.1 S.2.1 dL_may_197 (lv_at hl 8 rfl) ?_
            refine lv_aload_n S.1 S.2.1 dL_may_199 rfl (lv_at hl 3 rfl) ?_
            refine lv_bipush (v := (nI 8)) S.1 S.2.1 dL_may_200 (by decide) ?_
            refine lv_iload_n S.1 S.2.1 dL_may_202 rfl (lv_at hl 0 rfl) ?_
            refine n_mul S dL_may_203 ?_
            refine lv_iconst (v := (nI 1)) S.1 S.2.1 dL_may_204 (by decide) ?_
            refine n_add S dL_may_205 ?_
            refine g_iald S 0 hK hP rfl (by omega) dL_may_206 ?_
            refine n_top (show (nI ((hfn sk mo wi la da we) ((8 * i) + 1))) = (nI (mo i)) from congrArg nI hf_1) ?_
            refine n_cgt S (tgt := 230) (by omega) dL_may_207 (by decide) (fun c207 => ?_) (fun c207 => ?_)
            · refine lv_iconst (v := (nI 0)) S.1 S.2.1 dL_may_230 (by decide) ?_
              exact rd_iret S hr (by decide) hlocks (r_f (fun h => by have h2 := ((lm_iff hz).mp h).2.2.2.1; rw [← hk8e] at h2; omega)) dL_may_231
            · refine lv_aload_n S.1 S.2.1 dL_may_210 rfl (lv_at hl 2 rfl) ?_
              refine lv_iload_n S.1 S.2.1 dL_may_211 rfl (lv_at hl 1 rfl) ?_
              refine g_ialdR S 4 hK hP rfl (by omega) dL_may_212 ?_
              refine n_top (show (Wv d) = (nI (ent v d)) from hW d (Nat.le_refl _)) ?_
              refine n_zeq S (tgt := 226) (Nat.lt_trans (ent_lt _ _) (by decide)) dL_may_213 (by decide) (fun c213 => ?_) (fun c213 => ?_)
              · refine lv_iconst (v := (nI 1)) S.1 S.2.1 dL_may_226 (by decide) ?_
                refine lv_goto (tgt := 231) S.1 S.2.1 dL_may_227 (by decide) ?_
                exact rd_iret S hr (by decide) hlocks (r_t ((lm_iff hz).mpr ⟨hk.1, hk.2.1, by rw [← hy0]; exact hk.2.2, by rw [← hk8e]; exact c207, Or.inl c213⟩)) dL_may_231
              · refine lv_iload S.1 S.2.1 dL_may_216 (lv_at hl 7 rfl) ?_
                refine lv_aload S.1 S.2.1 dL_may_218 (lv_at hl 5 rfl) ?_
                refine lv_bipush (v := (nI 44)) S.1 S.2.1 dL_may_220 (by decide) ?_
                refine g_iald S 3 hK hP rfl (by omega) dL_may_222 ?_
                refine n_top (show (nI ((nfn fb rn nd) 44)) = (nI rn) from congrArg nI nf_r) ?_
                refine n_cgt S (tgt := 230) (by omega) dL_may_223 (by decide) (fun c223 => ?_) (fun c223 => ?_)
                · refine lv_iconst (v := (nI 0)) S.1 S.2.1 dL_may_230 (by decide) ?_
                  exact rd_iret S hr (by decide) hlocks (r_f (fun h => by have h2 := ((lm_iff hz).mp h).2.2.2.2; rw [← hr1] at h2; omega)) dL_may_231
                · refine lv_iconst (v := (nI 1)) S.1 S.2.1 dL_may_226 (by decide) ?_
                  refine lv_goto (tgt := 231) S.1 S.2.1 dL_may_227 (by decide) ?_
                  exact rd_iret S hr (by decide) hlocks (r_t ((lm_iff hz).mpr ⟨hk.1, hk.2.1, by rw [← hy0]; exact hk.2.2, by rw [← hk8e]; exact c207, Or.inr (by rw [← hr1]; exact c223)⟩)) dL_may_231
          · refine lv_iload S.1 S.2.1 dL_may_174 (lv_at hl 8 rfl) ?_
            refine lv_aload_n S.1 S.2.1 dL_may_176 rfl (lv_at hl 2 rfl) ?_
            refine lv_iload S.1 S.2.1 dL_may_177 (lv_at hl 9 rfl) ?_
            refine g_ialdR S 4 hK hP rfl (by omega) dL_may_179 ?_
            refine n_top (show (Wv j9) = (nI (ent v j9)) from hW j9 (by omega)) ?_
            refine n_zle S (tgt := 187) (Nat.lt_trans (ent_lt _ _) (by decide)) dL_may_180 (by decide) (fun c180 => ?_) (fun c180 => ?_)
            · refine lv_iconst (v := (nI 0)) S.1 S.2.1 dL_may_187 (by decide) ?_
              refine n_add S dL_may_188 ?_
              refine lv_istore (lv' := [(8, .int (nI (k8 + 0))), (0, .int (nI i)), (1, .int (nI d)), (2, .ref (z 4)), (3, .ref (z 0)), (4, .ref (z 2)), (5, .ref (z 3)), (6, .int (nI y)), (7, .int (nI r1)), (9, .int (nI j9))]) S.1 S.2.1 dL_may_189 hl (by decide) rfl (fun ls hl => ?_)
              refine lv_iinc (v := (nI (j9 + 1))) (lv' := [(9, .int (nI (j9 + 1))), (8, .int (nI (k8 + 0))), (0, .int (nI i)), (1, .int (nI d)), (2, .ref (z 4)), (3, .ref (z 0)), (4, .ref (z 2)), (5, .ref (z 3)), (6, .int (nI y)), (7, .int (nI r1))]) S.1 S.2.1 dL_may_191 hl (k := 9) rfl (nI_1 _) (by decide) rfl (fun ls hl => ?_)
              refine lv_goto (tgt := 168) S.1 S.2.1 dL_may_194 (by decide) ?_
              exact ih168 (k8 + 0) (j9 + 1) (by omega) (by first | (rw [hk8]; exact (shc_1 c180).symm) | (rw [hk8]; exact (shc_0 c180).symm)) (by omega) ls (lv_sub hl [2, 3, 4, 5, 6, 7, 8, 9, 1, 0] rfl)
            · refine lv_iconst (v := (nI 1)) S.1 S.2.1 dL_may_183 (by decide) ?_
              refine lv_goto (tgt := 188) S.1 S.2.1 dL_may_184 (by decide) ?_
              refine n_add S dL_may_188 ?_
              refine lv_istore (lv' := [(8, .int (nI (k8 + 1))), (0, .int (nI i)), (1, .int (nI d)), (2, .ref (z 4)), (3, .ref (z 0)), (4, .ref (z 2)), (5, .ref (z 3)), (6, .int (nI y)), (7, .int (nI r1)), (9, .int (nI j9))]) S.1 S.2.1 dL_may_189 hl (by decide) rfl (fun ls hl => ?_)
              refine lv_iinc (v := (nI (j9 + 1))) (lv' := [(9, .int (nI (j9 + 1))), (8, .int (nI (k8 + 1))), (0, .int (nI i)), (1, .int (nI d)), (2, .ref (z 4)), (3, .ref (z 0)), (4, .ref (z 2)), (5, .ref (z 3)), (6, .int (nI y)), (7, .int (nI r1))]) S.1 S.2.1 dL_may_191 hl (k := 9) rfl (nI_1 _) (by decide) rfl (fun ls hl => ?_)
              refine lv_goto (tgt := 168) S.1 S.2.1 dL_may_194 (by decide) ?_
              exact ih168 (k8 + 1) (j9 + 1) (by omega) (by first | (rw [hk8]; exact (shc_1 c180).symm) | (rw [hk8]; exact (shc_0 c180).symm)) (by omega) ls (lv_sub hl [2, 3, 4, 5, 6, 7, 8, 9, 1, 0] rfl)
      exact lp168 _ 0 0 (Nat.zero_le _) (rfl) (Nat.lt_succ_self _) ls (lv_sub hl [1, 2, 3, 4, 5, 6, 7, 8, 9, 0] rfl)
    have jn140 : ∀ (r : Nat) , ((r = d + 1 ∧ ∀ j, j ≤ d → ent v j ≠ 0) ∨ (r ≤ d ∧ rnb v (da i) (d + 1) = r)) → ∀ ls : Array Slot, lv_has ls 10 [(0, .int (nI i)), (1, .int (nI d)), (2, .ref (z 4)), (3, .ref (z 0)), (4, .ref (z 2)), (5, .ref (z 3)), (6, .int (nI y)), (7, .int (nI r)), (8, .int (nI 0))] → W p0 l e0 ({ frames := 0, cells := 0, slots := 0, locals := 0 } : Room) s0 m0 a0 b0 t0 c0 s0.heap [] 0 0 (MQ b0 (vp_Si (fun r_ => r_ = (nI (lmay sk mo fx la da fb rn i v d).toNat))) a0 s0 0 0 (fun _ => False)) (F0 m0 140 ls []) := by
      intro r hrr ls hl
      refine lv_iload S.1 S.2.1 dL_may_140 (lv_at hl 7 rfl) ?_
      refine lv_iload S.1 S.2.1 dL_may_142 (lv_at hl 7 rfl) ?_
      refine lv_iload_n S.1 S.2.1 dL_may_144 rfl (lv_at hl 1 rfl) ?_
      refine lv_iconst (v := (nI 1)) S.1 S.2.1 dL_may_145 (by decide) ?_
      refine n_add S dL_may_146 ?_
      refine n_cne S (tgt := 161) (by omega) dL_may_147 (by decide) (fun c147 => ?_) (fun c147 => ?_)
      · refine lv_iconst (v := (nI 0)) S.1 S.2.1 dL_may_161 (by decide) ?_
        refine n_add S dL_may_162 ?_
        refine lv_istore (lv' := [(7, .int (nI (r + 0))), (0, .int (nI i)), (1, .int (nI d)), (2, .ref (z 4)), (3, .ref (z 0)), (4, .ref (z 2)), (5, .ref (z 3)), (6, .int (nI y)), (8, .int (nI 0))]) S.1 S.2.1 dL_may_163 hl (by decide) rfl (fun ls hl => ?_)
        exact jn165 (r + 0) (row_n hrr c147) ls (lv_sub hl [1, 2, 3, 4, 5, 6, 7, 0, 8] rfl)
      · refine lv_aload_n S.1 S.2.1 dL_may_150 rfl (lv_at hl 3 rfl) ?_
        refine lv_bipush (v := (nI 8)) S.1 S.2.1 dL_may_151 (by decide) ?_
        refine lv_iload_n S.1 S.2.1 dL_may_153 rfl (lv_at hl 0 rfl) ?_
        refine n_mul S dL_may_154 ?_
        refine lv_iconst (v := (nI 4)) S.1 S.2.1 dL_may_155 (by decide) ?_
        refine n_add S dL_may_156 ?_
        refine g_iald S 0 hK hP rfl (by omega) dL_may_157 ?_
        refine n_top (show (nI ((hfn sk mo wi la da we) ((8 * i) + 4))) = (nI (da i)) from congrArg nI hf_4) ?_
        refine lv_goto (tgt := 162) S.1 S.2.1 dL_may_158 (by decide) ?_
        refine n_add S dL_may_162 ?_
        refine lv_istore (lv' := [(7, .int (nI (r + (da i)))), (0, .int (nI i)), (1, .int (nI d)), (2, .ref (z 4)), (3, .ref (z 0)), (4, .ref (z 2)), (5, .ref (z 3)), (6, .int (nI y)), (8, .int (nI 0))]) S.1 S.2.1 dL_may_163 hl (by decide) rfl (fun ls hl => ?_)
        exact jn165 (r + (da i)) (row_y hrr c147) ls (lv_sub hl [1, 2, 3, 4, 5, 6, 7, 0, 8] rfl)
    refine lv_istore (lv' := [(7, .int (nI 0)), (0, .int (nI i)), (1, .int (nI d)), (2, .ref (z 4)), (3, .ref (z 0)), (4, .ref (z 2)), (5, .ref (z 3)), (6, .int (nI y))]) S.1 S.2.1 dL_may_102 hl (by decide) rfl (fun ls hl => ?_)
    refine lv_iconst (v := (nI 0)) S.1 S.2.1 dL_may_104 (by decide) ?_
    refine lv_istore (lv' := [(8, .int (nI 0)), (7, .int (nI 0)), (0, .int (nI i)), (1, .int (nI d)), (2, .ref (z 4)), (3, .ref (z 0)), (4, .ref (z 2)), (5, .ref (z 3)), (6, .int (nI y))]) S.1 S.2.1 dL_may_105 hl (by decide) rfl (fun ls hl => ?_)
    refine lv_iload_n S.1 S.2.1 dL_may_107 rfl (lv_at hl 3 rfl) ?_
    refine n_top (show nI d = nI (d + 1) - nI 1 from by rw [sx_sub (by omega), Nat.add_sub_cancel]) ?_
    refine lv_istore (lv' := [(9, .int (nI (d + 1) - nI 1)), (8, .int (nI 0)), (7, .int (nI 0)), (0, .int (nI i)), (1, .int (nI d)), (2, .ref (z 4)), (3, .ref (z 0)), (4, .ref (z 2)), (5, .ref (z 3)), (6, .int (nI y))]) S.1 S.2.1 dL_may_108 hl (by decide) rfl (fun ls hl => ?_)
    have lp110 : ∀ (fu : Nat) (t : Nat) (r : Nat), (t ≤ d + 1) → (r = d + 1 - t) → (∀ j, t ≤ j → j ≤ d → ent v j ≠ 0) → (t) < fu → ∀ ls : Array Slot, lv_has ls 10 [(0, .int (nI i)), (1, .int (nI d)), (2, .ref (z 4)), (3, .ref (z 0)), (4, .ref (z 2)), (5, .ref (z 3)), (6, .int (nI y)), (7, .int (nI r)), (8, .int (nI 0)), (9, .int (nI t - nI 1))] → W p0 l e0 ({ frames := 0, cells := 0, slots := 0, locals := 0 } : Room) s0 m0 a0 b0 t0 c0 s0.heap [] 0 0 (MQ b0 (vp_Si (fun r_ => r_ = (nI (lmay sk mo fx la da fb rn i v d).toNat))) a0 s0 0 0 (fun _ => False)) (F0 m0 110 ls []) := by
      intro fu
      induction fu with
      | zero =>
        intro t r h2 hr hru hm
        exact absurd hm (Nat.not_lt_zero _)
      | succ fu ih110 =>
        intro t r h2 hr hru hm ls hl
        refine lv_iload S.1 S.2.1 dL_may_110 (lv_at hl 9 rfl) ?_
        refine lv_if_lt (tgt := 140) S.1 S.2.1 dL_may_112 (by decide) (fun c112 => ?_) (fun c112 => ?_)
        · exact jn140 r (row_all (by rw [fx_lt0 (by omega)] at c112; exact c112) hr hru) ls (lv_sub hl [0, 1, 2, 3, 4, 5, 6, 7, 8] rfl)
        · have ht1 : 1 ≤ t := by have := (not_congr (fx_lt0 (n := t) (by omega))).mp c112; omega
          rw [sx_sub ht1] at hl
          refine lv_aload_n S.1 S.2.1 dL_may_115 rfl (lv_at hl 2 rfl) ?_
          refine lv_iload S.1 S.2.1 dL_may_116 (lv_at hl 9 rfl) ?_
          refine g_ialdR S 4 hK hP rfl (by omega) dL_may_118 ?_
          refine n_top (show (Wv (t - 1)) = (nI (ent v (t - 1))) from hW (t - 1) (by omega)) ?_
          refine n_zle S (tgt := 140) (Nat.lt_trans (ent_lt _ _) (by decide)) dL_may_119 (by decide) (fun c119 => ?_) (fun c119 => ?_)
          · exact jn140 r (row_cut ht1 h2 hr hru c119) ls (lv_sub hl [0, 1, 2, 3, 4, 5, 6, 7, 8] rfl)
          · refine lv_iload S.1 S.2.1 dL_may_122 (lv_at hl 7 rfl) ?_
            refine lv_iload_n S.1 S.2.1 dL_may_124 rfl (lv_at hl 1 rfl) ?_
            refine lv_iload S.1 S.2.1 dL_may_125 (lv_at hl 9 rfl) ?_
            refine n_sub S (by omega) dL_may_127 ?_
            refine n_cne S (tgt := 140) (by omega) dL_may_128 (by decide) (fun c128 => ?_) (fun c128 => ?_)
            · exact absurd c128 (by omega)
            refine lv_iinc (v := (nI (r + 1))) (lv' := [(7, .int (nI (r + 1))), (0, .int (nI i)), (1, .int (nI d)), (2, .ref (z 4)), (3, .ref (z 0)), (4, .ref (z 2)), (5, .ref (z 3)), (6, .int (nI y)), (8, .int (nI 0)), (9, .int (nI (t - 1)))]) S.1 S.2.1 dL_may_131 hl (k := 7) rfl (nI_1 _) (by decide) rfl (fun ls hl => ?_)
            refine lv_iinc (v := (nI (t - 1) - nI 1)) (lv' := [(9, .int (nI (t - 1) - nI 1)), (7, .int (nI (r + 1))), (0, .int (nI i)), (1, .int (nI d)), (2, .ref (z 4)), (3, .ref (z 0)), (4, .ref (z 2)), (5, .ref (z 3)), (6, .int (nI y)), (8, .int (nI 0))]) S.1 S.2.1 dL_may_134 hl (k := 9) rfl (dec_I _) (by decide) rfl (fun ls hl => ?_)
            refine lv_goto (tgt := 110) S.1 S.2.1 dL_may_137 (by decide) ?_
            exact ih110 (t - 1) (r + 1) (by omega) (by omega) (fun j h1 h2 => by by_cases e : j = t - 1; rw [e]; omega; exact hru j (by omega) h2) (by omega) ls (lv_sub hl [2, 3, 4, 5, 6, 7, 8, 1, 9, 0] rfl)
    exact lp110 _ (d + 1) 0 (Nat.le_refl _) ((Nat.sub_self _).symm) (fun j h1 h2 => by omega) (Nat.lt_succ_self _) ls (lv_sub hl [3, 4, 5, 6, 7, 8, 9, 2, 1, 0] rfl)
  have jn70 : ∀ (y : Nat) , (y = bef v (la i) d) → ((ent v d = 0 ∨ bit (sk i) (ent v d) = 1) ∧ (nib (fx i) d = 0 ∨ nib (fx i) d = ent v d + 1)) → ∀ ls : Array Slot, lv_has ls 10 [(0, .int (nI i)), (1, .int (nI d)), (2, .ref (z 4)), (3, .ref (z 0)), (4, .ref (z 2)), (5, .ref (z 3)), (6, .int (nI y))] → W p0 l e0 ({ frames := 0, cells := 0, slots := 0, locals := 0 } : Room) s0 m0 a0 b0 t0 c0 s0.heap [] 0 0 (MQ b0 (vp_Si (fun r_ => r_ = (nI (lmay sk mo fx la da fb rn i v d).toNat))) a0 s0 0 0 (fun _ => False)) (F0 m0 70 ls []) := by
    intro y hy0 hk1 ls hl
    refine lv_iload S.1 S.2.1 dL_may_70 (lv_at hl 6 rfl) ?_
    refine n_zle S (tgt := 101) (by omega) dL_may_72 (by decide) (fun c72 => ?_) (fun c72 => ?_)
    · exact jn101 y (hy0) (⟨hk1.1, hk1.2, Or.inl c72⟩) ls (lv_sub hl [0, 1, 2, 3, 4, 5, 6] rfl)
    · refine lv_aload_n S.1 S.2.1 dL_may_75 rfl (lv_at hl 2 rfl) ?_
      refine lv_iload_n S.1 S.2.1 dL_may_76 rfl (lv_at hl 1 rfl) ?_
      refine g_ialdR S 4 hK hP rfl (by omega) dL_may_77 ?_
      refine n_top (show (Wv d) = (nI (ent v d)) from hW d (Nat.le_refl _)) ?_
      refine n_zle S (tgt := 101) (Nat.lt_trans (ent_lt _ _) (by decide)) dL_may_78 (by decide) (fun c78 => ?_) (fun c78 => ?_)
      · exact jn101 y (hy0) (⟨hk1.1, hk1.2, Or.inr (Or.inl c78)⟩) ls (lv_sub hl [0, 1, 2, 3, 4, 5, 6] rfl)
      · refine lv_aload S.1 S.2.1 dL_may_81 (lv_at hl 5 rfl) ?_
        refine lv_bipush (v := (nI 28)) S.1 S.2.1 dL_may_83 (by decide) ?_
        refine lv_iconst (v := (nI 4)) S.1 S.2.1 dL_may_85 (by decide) ?_
        refine lv_iload S.1 S.2.1 dL_may_86 (lv_at hl 6 rfl) ?_
        refine n_mul S dL_may_88 ?_
        refine n_add S dL_may_89 ?_
        refine lv_aload_n S.1 S.2.1 dL_may_90 rfl (lv_at hl 2 rfl) ?_
        refine lv_iload_n S.1 S.2.1 dL_may_91 rfl (lv_at hl 1 rfl) ?_
        refine g_ialdR S 4 hK hP rfl (by omega) dL_may_92 ?_
        refine n_top (show (Wv d) = (nI (ent v d)) from hW d (Nat.le_refl _)) ?_
        refine n_add S dL_may_93 ?_
        refine g_iald S 3 hK hP rfl (by omega) dL_may_94 ?_
        refine n_top (show (nI ((nfn fb rn nd) ((28 + (4 * y)) + (ent v d)))) = (nI (bit fb (4 * y + ent v d))) from congrArg nI (by rw [show 28 + 4 * y + ent v d = 28 + (4 * y + ent v d) by omega]; exact nf_f (by omega))) ?_
        refine lv_iconst (v := (nI 1)) S.1 S.2.1 dL_may_95 (by decide) ?_
        refine n_cne S (tgt := 101) (⟨Nat.lt_trans (bit_lt _ _) (by decide), by decide⟩) dL_may_96 (by decide) (fun c96 => ?_) (fun c96 => ?_)
        · exact jn101 y (hy0) (⟨hk1.1, hk1.2, Or.inr (Or.inr c96)⟩) ls (lv_sub hl [0, 1, 2, 3, 4, 5, 6] rfl)
        · refine lv_iconst (v := (nI 0)) S.1 S.2.1 dL_may_99 (by decide) ?_
          exact rd_iret S hr (by decide) hlocks (r_f (fun h => by have h2 := ((lm_iff hz).mp h).2.2.1; rw [← hy0] at h2; omega)) dL_may_100
  have jn43 : ∀ (y : Nat) , (y = bef v (la i) d) → (ent v d = 0 ∨ bit (sk i) (ent v d) = 1) → ∀ ls : Array Slot, lv_has ls 10 [(0, .int (nI i)), (1, .int (nI d)), (2, .ref (z 4)), (3, .ref (z 0)), (4, .ref (z 2)), (5, .ref (z 3)), (6, .int (nI y))] → W p0 l e0 ({ frames := 0, cells := 0, slots := 0, locals := 0 } : Room) s0 m0 a0 b0 t0 c0 s0.heap [] 0 0 (MQ b0 (vp_Si (fun r_ => r_ = (nI (lmay sk mo fx la da fb rn i v d).toNat))) a0 s0 0 0 (fun _ => False)) (F0 m0 43 ls []) := by
    intro y hy0 hk0 ls hl
    refine lv_aload S.1 S.2.1 dL_may_43 (lv_at hl 4 rfl) ?_
    refine lv_bipush (v := (nI 7)) S.1 S.2.1 dL_may_45 (by decide) ?_
    refine lv_iload_n S.1 S.2.1 dL_may_47 rfl (lv_at hl 0 rfl) ?_
    refine n_mul S dL_may_48 ?_
    refine lv_iload_n S.1 S.2.1 dL_may_49 rfl (lv_at hl 1 rfl) ?_
    refine n_add S dL_may_50 ?_
    refine g_ialdR S 2 hK hP rfl (by omega) dL_may_51 ?_
    refine n_top (show ((fun k => nI (fxf fx k) - nI 1) ((7 * i) + d)) = (nI (nib (fx i) d) - nI 1) from by show nI (fxf fx (7 * i + d)) - nI 1 = _; rw [fx_at hd]) ?_
    refine lv_if_lt (tgt := 70) S.1 S.2.1 dL_may_52 (by decide) (fun c52 => ?_) (fun c52 => ?_)
    · exact jn70 y (hy0) (⟨hk0, Or.inl ((fx_neg (nib_lt _ _)).mp c52)⟩) ls (lv_sub hl [0, 1, 2, 3, 4, 5, 6] rfl)
    · refine lv_aload S.1 S.2.1 dL_may_55 (lv_at hl 4 rfl) ?_
      refine lv_bipush (v := (nI 7)) S.1 S.2.1 dL_may_57 (by decide) ?_
      refine lv_iload_n S.1 S.2.1 dL_may_59 rfl (lv_at hl 0 rfl) ?_
      refine n_mul S dL_may_60 ?_
      refine lv_iload_n S.1 S.2.1 dL_may_61 rfl (lv_at hl 1 rfl) ?_
      refine n_add S dL_may_62 ?_
      refine g_ialdR S 2 hK hP rfl (by omega) dL_may_63 ?_
      refine n_top (show ((fun k => nI (fxf fx k) - nI 1) ((7 * i) + d)) = (nI (nib (fx i) d) - nI 1) from by show nI (fxf fx (7 * i + d)) - nI 1 = _; rw [fx_at hd]) ?_
      refine lv_aload_n S.1 S.2.1 dL_may_64 rfl (lv_at hl 2 rfl) ?_
      refine lv_iload_n S.1 S.2.1 dL_may_65 rfl (lv_at hl 1 rfl) ?_
      refine g_ialdR S 4 hK hP rfl (by omega) dL_may_66 ?_
      refine n_top (show (Wv d) = (nI (ent v d)) from hW d (Nat.le_refl _)) ?_
      refine lv_icmp_ne (tgt := 99) S.1 S.2.1 dL_may_67 (by decide) (fun c67 => ?_) (fun c67 => ?_)
      · refine lv_iconst (v := (nI 0)) S.1 S.2.1 dL_may_99 (by decide) ?_
        exact rd_iret S hr (by decide) hlocks (r_f (fun h => by have h2 := ((lm_iff hz).mp h).2.1; have hnl := nib_lt (fx i) d; have hel := ent_lt v d; rw [fx_ev hnl hel] at c67; have := (not_congr (fx_neg hnl)).mp c52; omega)) dL_may_100
      · exact jn70 y (hy0) (⟨hk0, Or.inr ((fx_ev (nib_lt _ _) (ent_lt _ _)).mp c67)⟩) ls (lv_sub hl [0, 1, 2, 3, 4, 5, 6] rfl)
  have jn20 : ∀ (y : Nat) , (y = bef v (la i) d) → ∀ ls : Array Slot, lv_has ls 10 [(0, .int (nI i)), (1, .int (nI d)), (2, .ref (z 4)), (3, .ref (z 0)), (4, .ref (z 2)), (5, .ref (z 3))] → W p0 l e0 ({ frames := 0, cells := 0, slots := 0, locals := 0 } : Room) s0 m0 a0 b0 t0 c0 s0.heap [] 0 0 (MQ b0 (vp_Si (fun r_ => r_ = (nI (lmay sk mo fx la da fb rn i v d).toNat))) a0 s0 0 0 (fun _ => False)) (F0 m0 20 ls [.int (nI y)]) := by
    intro y hy0 ls hl
    refine lv_istore (lv' := [(6, .int (nI y)), (0, .int (nI i)), (1, .int (nI d)), (2, .ref (z 4)), (3, .ref (z 0)), (4, .ref (z 2)), (5, .ref (z 3))]) S.1 S.2.1 dL_may_20 hl (by decide) rfl (fun ls hl => ?_)
    refine lv_aload_n S.1 S.2.1 dL_may_22 rfl (lv_at hl 3 rfl) ?_
    refine lv_iload_n S.1 S.2.1 dL_may_23 rfl (lv_at hl 2 rfl) ?_
    refine g_ialdR S 4 hK hP rfl (by omega) dL_may_24 ?_
    refine n_top (show (Wv d) = (nI (ent v d)) from hW d (Nat.le_refl _)) ?_
    refine n_zle S (tgt := 43) (Nat.lt_trans (ent_lt _ _) (by decide)) dL_may_25 (by decide) (fun c25 => ?_) (fun c25 => ?_)
    · exact jn43 y (hy0) (Or.inl c25) ls (lv_sub hl [1, 2, 3, 4, 5, 6, 0] rfl)
    · refine lv_aload_n S.1 S.2.1 dL_may_28 rfl (lv_at hl 4 rfl) ?_
      refine lv_bipush (v := (nI 8)) S.1 S.2.1 dL_may_29 (by decide) ?_
      refine lv_iload_n S.1 S.2.1 dL_may_31 rfl (lv_at hl 1 rfl) ?_
      refine n_mul S dL_may_32 ?_
      refine g_iald S 0 hK hP rfl (by omega) dL_may_33 ?_
      refine n_top (show (nI ((hfn sk mo wi la da we) (8 * i))) = (nI (sk i)) from congrArg nI hf_0) ?_
      refine lv_aload_n S.1 S.2.1 dL_may_34 rfl (lv_at hl 3 rfl) ?_
      refine lv_iload_n S.1 S.2.1 dL_may_35 rfl (lv_at hl 2 rfl) ?_
      refine g_ialdR S 4 hK hP rfl (by omega) dL_may_36 ?_
      refine n_top (show (Wv d) = (nI (ent v d)) from hW d (Nat.le_refl _)) ?_
      refine n_shr S (⟨Nat.lt_trans (ent_lt _ _) (by decide), by omega⟩) dL_may_37 ?_
      refine lv_iconst (v := (nI 1)) S.1 S.2.1 dL_may_38 (by decide) ?_
      refine n_and S dL_may_39 ?_
      refine n_top (show (nI (((sk i) / 2 ^ (ent v d)) &&& 1)) = (nI (bit (sk i) (ent v d))) from congrArg nI (Nat.and_one_is_mod _)) ?_
      refine n_zeq S (tgt := 99) (Nat.lt_trans (bit_lt _ _) (by decide)) dL_may_40 (by decide) (fun c40 => ?_) (fun c40 => ?_)
      · refine lv_iconst (v := (nI 0)) S.1 S.2.1 dL_may_99 (by decide) ?_
        exact rd_iret S hr (by decide) hlocks (r_f (fun h => by have h2 := ((lm_iff hz).mp h).1; omega)) dL_may_100
      · exact jn43 y (hy0) (Or.inr (by have := bit_lt (sk i) (ent v d); omega)) ls (lv_sub hl [1, 2, 3, 4, 5, 6, 0] rfl)
  refine lv_iload_n S.1 S.2.1 dL_may_0 rfl (lv_at hl 1 rfl) ?_
  refine n_zne S (tgt := 15) (by omega) dL_may_1 (by decide) (fun c1 => ?_) (fun c1 => ?_)
  · refine lv_aload_n S.1 S.2.1 dL_may_15 rfl (lv_at hl 2 rfl) ?_
    refine lv_iload_n S.1 S.2.1 dL_may_16 rfl (lv_at hl 1 rfl) ?_
    refine lv_iconst (v := (nI 1)) S.1 S.2.1 dL_may_17 (by decide) ?_
    refine n_sub S (by omega) dL_may_18 ?_
    refine g_ialdR S 4 hK hP rfl (by omega) dL_may_19 ?_
    refine n_top (show (Wv (d - 1)) = (nI (ent v (d - 1))) from hW (d - 1) (by omega)) ?_
    exact jn20 (ent v (d - 1)) (bef_p (by omega)) ls (lv_sub hl [0, 1, 2, 3, 4, 5] rfl)
  · refine lv_aload_n S.1 S.2.1 dL_may_4 rfl (lv_at hl 3 rfl) ?_
    refine lv_bipush (v := (nI 8)) S.1 S.2.1 dL_may_5 (by decide) ?_
    refine lv_iload_n S.1 S.2.1 dL_may_7 rfl (lv_at hl 0 rfl) ?_
    refine n_mul S dL_may_8 ?_
    refine lv_iconst (v := (nI 3)) S.1 S.2.1 dL_may_9 (by decide) ?_
    refine n_add S dL_may_10 ?_
    refine g_iald S 0 hK hP rfl (by omega) dL_may_11 ?_
    refine n_top (show (nI ((hfn sk mo wi la da we) ((8 * i) + 3))) = (nI (la i)) from congrArg nI hf_3) ?_
    refine lv_goto (tgt := 20) S.1 S.2.1 dL_may_12 (by decide) ?_
    exact jn20 (la i) (by rw [c1]; rfl) ls (lv_sub hl [0, 1, 2, 3, 4, 5] rfl)

theorem pd_L_isWeek : yL_isWeek.cls ≠ "java/lang/invoke/MethodHandle" ∧ yL_isWeek.cls ≠ "java/lang/invoke/VarHandle" ∧ (parseMethodDescriptor yL_isWeek.desc).map (fun d => d.parameters.length) = some 5 := by decide +kernel
set_option maxHeartbeats 4000000 in
set_option maxRecDepth 100000 in
theorem r_L_isWeek (l : Launch) (D : va_G) (cT : ClassId × ClassId × ClassId) (z : Nat → Nat) (bd n ro cl fb rn : Nat) (nd sk mo wk fx wi la da we : Nat → Nat) (Wv Bv : Nat → Int32) (i v : Nat) (hwf : wfC n bd fb rn nd sk mo wk fx wi la da we) (hz : ∀ k, k < 4 → bit fb k = 0) (hi : i < 8) (hv : v < 16384) (hW : ∀ j, j < 7 → Wv j = nI (ent v j)) : Met l yL_isWeek wsL_isWeek ({ frames := 1, cells := 0, slots := 0, locals := 29 }) (va_Pc [.int (nI i), .ref (z 4), .ref (z 0), .ref (z 2), .ref (z 3)] (sx_R D (TY cT) (lX cT z n ro cl fb rn nd sk mo wk fx wi la da we Wv Bv))) (vp_Si (fun r_ => r_ = (nI (fe sk mo fx la da fb rn i v).toNat))) 0 0 (fun _ => False) := by
  refine rd_start (cc := cL_isWeek) (maxL := 7) (ret := (some .boolean)) RL ⟨by decide +kernel, rfl⟩ rfl (Nat.le_of_ble_eq_true rfl) ?_
  intro p0 e0 s0 m0 a0 b0 t0 c0 S hr hlocks hP hK ls hl
  have hl : lv_has ls 7 [(0, .int (nI i)), (1, .ref (z 4)), (2, .ref (z 0)), (3, .ref (z 2)), (4, .ref (z 3))] := hl
  obtain ⟨hn, hcl, hfb, hrn, hnd, hper⟩ := id hwf
  refine lv_iconst (v := (nI 1)) S.1 S.2.1 dL_isWeek_0 (by decide) ?_
  refine lv_istore (lv' := [(5, .int (nI 1)), (0, .int (nI i)), (1, .ref (z 4)), (2, .ref (z 0)), (3, .ref (z 2)), (4, .ref (z 3))]) S.1 S.2.1 dL_isWeek_1 hl (by decide) rfl (fun ls hl => ?_)
  refine lv_iconst (v := (nI 0)) S.1 S.2.1 dL_isWeek_3 (by decide) ?_
  refine lv_istore (lv' := [(6, .int (nI 0)), (5, .int (nI 1)), (0, .int (nI i)), (1, .ref (z 4)), (2, .ref (z 0)), (3, .ref (z 2)), (4, .ref (z 3))]) S.1 S.2.1 dL_isWeek_4 hl (by decide) rfl (fun ls hl => ?_)
  have lp6 : ∀ (fu : Nat) (b : Bool) (d : Nat), (d ≤ 7) → (b = lal sk mo fx la da fb rn i v d) → (7 - d) < fu → ∀ ls : Array Slot, lv_has ls 7 [(0, .int (nI i)), (1, .ref (z 4)), (2, .ref (z 0)), (3, .ref (z 2)), (4, .ref (z 3)), (5, .int (nI b.toNat)), (6, .int (nI d))] → W p0 l e0 ({ frames := 1, cells := 0, slots := 0, locals := 29 } : Room) s0 m0 a0 b0 t0 c0 s0.heap [] 0 0 (MQ b0 (vp_Si (fun r_ => r_ = (nI (fe sk mo fx la da fb rn i v).toNat))) a0 s0 0 0 (fun _ => False)) (F0 m0 6 ls []) := by
    intro fu
    induction fu with
    | zero =>
      intro b d h2 hb hm
      exact absurd hm (Nat.not_lt_zero _)
    | succ fu ih6 =>
      intro b d h2 hb hm ls hl
      refine lv_iload S.1 S.2.1 dL_isWeek_6 (lv_at hl 6 rfl) ?_
      refine lv_bipush (v := (nI 7)) S.1 S.2.1 dL_isWeek_8 (by decide) ?_
      refine n_cge S (tgt := 45) (by omega) dL_isWeek_10 (by decide) (fun c10 => ?_) (fun c10 => ?_)
      · refine lv_iload S.1 S.2.1 dL_isWeek_45 (lv_at hl 5 rfl) ?_
        exact rd_iret S hr (sx_bt _) hlocks (by rw [hb, show d = 7 by omega, lal_7]) dL_isWeek_47
      · refine lv_iload S.1 S.2.1 dL_isWeek_13 (lv_at hl 5 rfl) ?_
        refine n_beq S (tgt := 36) dL_isWeek_15 (by decide) (fun c15 => ?_) (fun c15 => ?_)
        · refine lv_iconst (v := (nI 0)) S.1 S.2.1 dL_isWeek_36 (by decide) ?_
          refine lv_istore (lv' := [(5, .int (nI 0)), (0, .int (nI i)), (1, .ref (z 4)), (2, .ref (z 0)), (3, .ref (z 2)), (4, .ref (z 3)), (6, .int (nI d))]) S.1 S.2.1 dL_isWeek_37 hl (by decide) rfl (fun ls hl => ?_)
          refine lv_iinc (v := (nI (d + 1))) (lv' := [(6, .int (nI (d + 1))), (5, .int (nI 0)), (0, .int (nI i)), (1, .ref (z 4)), (2, .ref (z 0)), (3, .ref (z 2)), (4, .ref (z 3))]) S.1 S.2.1 dL_isWeek_39 hl (k := 6) rfl (nI_1 _) (by decide) rfl (fun ls hl => ?_)
          refine lv_goto (tgt := 6) S.1 S.2.1 dL_isWeek_42 (by decide) ?_
          exact ih6 false (d + 1) (by omega) (by show _ = (_ && _); rw [← hb, c15]; rfl) (by omega) ls (lv_sub hl [2, 3, 4, 5, 6, 1, 0] rfl)
        · refine lv_iload_n S.1 S.2.1 dL_isWeek_18 rfl (lv_at hl 0 rfl) ?_
          refine lv_iload S.1 S.2.1 dL_isWeek_19 (lv_at hl 6 rfl) ?_
          refine lv_aload_n S.1 S.2.1 dL_isWeek_21 rfl (lv_at hl 1 rfl) ?_
          refine lv_aload_n S.1 S.2.1 dL_isWeek_22 rfl (lv_at hl 2 rfl) ?_
          refine lv_aload_n S.1 S.2.1 dL_isWeek_23 rfl (lv_at hl 3 rfl) ?_
          refine lv_aload S.1 S.2.1 dL_isWeek_24 (lv_at hl 4 rfl) ?_
          refine rd_callS (rest := []) S (r_L_may l D cT z bd n ro cl fb rn nd sk mo wk fx wi la da we Wv Bv i d v (hwf) (hz) (by omega) (by omega) (hv) (fun j hj => hW j (by omega))) gL_isWeek_L_may rfl pd_L_may ⟨rfl, rfl, Nat.le_of_ble_eq_true rfl, Nat.le_of_ble_eq_true rfl⟩ hP hK hl rfl rfl (Nat.le_of_ble_eq_true rfl) ⟨Nat.zero_le _, Nat.zero_le _⟩ dL_isWeek_26 ?_
          refine n_beq S (tgt := 36) dL_isWeek_29 (by decide) (fun c29 => ?_) (fun c29 => ?_)
          · refine lv_iconst (v := (nI 0)) S.1 S.2.1 dL_isWeek_36 (by decide) ?_
            refine lv_istore (lv' := [(5, .int (nI 0)), (0, .int (nI i)), (1, .ref (z 4)), (2, .ref (z 0)), (3, .ref (z 2)), (4, .ref (z 3)), (6, .int (nI d))]) S.1 S.2.1 dL_isWeek_37 hl (by decide) rfl (fun ls hl => ?_)
            refine lv_iinc (v := (nI (d + 1))) (lv' := [(6, .int (nI (d + 1))), (5, .int (nI 0)), (0, .int (nI i)), (1, .ref (z 4)), (2, .ref (z 0)), (3, .ref (z 2)), (4, .ref (z 3))]) S.1 S.2.1 dL_isWeek_39 hl (k := 6) rfl (nI_1 _) (by decide) rfl (fun ls hl => ?_)
            refine lv_goto (tgt := 6) S.1 S.2.1 dL_isWeek_42 (by decide) ?_
            exact ih6 false (d + 1) (by omega) (by show _ = (_ && _); rw [← hb, c29, Bool.and_false]) (by omega) ls (lv_sub hl [2, 3, 4, 5, 6, 1, 0] rfl)
          · refine lv_iconst (v := (nI 1)) S.1 S.2.1 dL_isWeek_32 (by decide) ?_
            refine lv_goto (tgt := 37) S.1 S.2.1 dL_isWeek_33 (by decide) ?_
            refine lv_istore (lv' := [(5, .int (nI 1)), (0, .int (nI i)), (1, .ref (z 4)), (2, .ref (z 0)), (3, .ref (z 2)), (4, .ref (z 3)), (6, .int (nI d))]) S.1 S.2.1 dL_isWeek_37 hl (by decide) rfl (fun ls hl => ?_)
            refine lv_iinc (v := (nI (d + 1))) (lv' := [(6, .int (nI (d + 1))), (5, .int (nI 1)), (0, .int (nI i)), (1, .ref (z 4)), (2, .ref (z 0)), (3, .ref (z 2)), (4, .ref (z 3))]) S.1 S.2.1 dL_isWeek_39 hl (k := 6) rfl (nI_1 _) (by decide) rfl (fun ls hl => ?_)
            refine lv_goto (tgt := 6) S.1 S.2.1 dL_isWeek_42 (by decide) ?_
            exact ih6 true (d + 1) (by omega) (by show _ = (_ && _); rw [← hb, c15, c29]; rfl) (by omega) ls (lv_sub hl [2, 3, 4, 5, 6, 1, 0] rfl)
  exact lp6 _ true 0 (Nat.zero_le _) (rfl) (Nat.lt_succ_self _) ls (lv_sub hl [2, 3, 4, 5, 6, 1, 0] rfl)

theorem pd_L_count : yL_count.cls ≠ "java/lang/invoke/MethodHandle" ∧ yL_count.cls ≠ "java/lang/invoke/VarHandle" ∧ (parseMethodDescriptor yL_count.desc).map (fun d => d.parameters.length) = some 5 := by decide +kernel
set_option maxHeartbeats 4000000 in
set_option maxRecDepth 100000 in
theorem r_L_count (l : Launch) (D : va_G) (cT : ClassId × ClassId × ClassId) (z : Nat → Nat) (bd n ro cl fb rn : Nat) (nd sk mo wk fx wi la da we : Nat → Nat) (Wv Bv : Nat → Int32) (d e : Nat) (hwf : wfC n bd fb rn nd sk mo wk fx wi la da we) (hd : d < 7) (he : 1 ≤ e ∧ e < 4) : Met l yL_count wsL_count ({ frames := 0, cells := 0, slots := 0, locals := 0 }) (va_Pc [.int (nI d), .int (nI e), .int (-1), .ref (z 1), .ref (z 6)] (sx_R D (TY cT) (lX cT z n ro cl fb rn nd sk mo wk fx wi la da we Wv Bv))) (vp_Si (fun r_ => r_ = (nI (cg n wk 99 d e 8)))) 0 0 (fun _ => False) := by
  refine rd_start (cc := cL_count) (maxL := 7) (ret := (some .int)) RL ⟨by decide +kernel, rfl⟩ rfl (Nat.le_of_ble_eq_true rfl) ?_
  intro p0 e0 s0 m0 a0 b0 t0 c0 S hr hlocks hP hK ls hl
  have hl : lv_has ls 7 [(0, .int (nI d)), (1, .int (nI e)), (2, .int (-1)), (3, .ref (z 1)), (4, .ref (z 6))] := hl
  obtain ⟨hn, hcl, hfb, hrn, hnd, hper⟩ := id hwf
  refine lv_iconst (v := (nI 0)) S.1 S.2.1 dL_count_0 (by decide) ?_
  refine lv_istore (lv' := [(5, .int (nI 0)), (0, .int (nI d)), (1, .int (nI e)), (2, .int (-1)), (3, .ref (z 1)), (4, .ref (z 6))]) S.1 S.2.1 dL_count_1 hl (by decide) rfl (fun ls hl => ?_)
  refine lv_iconst (v := (nI 0)) S.1 S.2.1 dL_count_3 (by decide) ?_
  refine lv_istore (lv' := [(6, .int (nI 0)), (5, .int (nI 0)), (0, .int (nI d)), (1, .int (nI e)), (2, .int (-1)), (3, .ref (z 1)), (4, .ref (z 6))]) S.1 S.2.1 dL_count_4 hl (by decide) rfl (fun ls hl => ?_)
  have lp6 : ∀ (fu : Nat) (k : Nat) (i : Nat), (i ≤ n) → (k = cg n wk 99 d e i) → (n - i) < fu → ∀ ls : Array Slot, lv_has ls 7 [(0, .int (nI d)), (1, .int (nI e)), (2, .int (-1)), (3, .ref (z 1)), (4, .ref (z 6)), (5, .int (nI k)), (6, .int (nI i))] → W p0 l e0 ({ frames := 0, cells := 0, slots := 0, locals := 0 } : Room) s0 m0 a0 b0 t0 c0 s0.heap [] 0 0 (MQ b0 (vp_Si (fun r_ => r_ = (nI (cg n wk 99 d e 8)))) a0 s0 0 0 (fun _ => False)) (F0 m0 6 ls []) := by
    intro fu
    induction fu with
    | zero =>
      intro k i h2 hk hm
      exact absurd hm (Nat.not_lt_zero _)
    | succ fu ih6 =>
      intro k i h2 hk hm ls hl
      refine lv_iload S.1 S.2.1 dL_count_6 (lv_at hl 6 rfl) ?_
      refine lv_aload S.1 S.2.1 dL_count_8 (lv_at hl 4 rfl) ?_
      refine lv_iconst (v := (nI 0)) S.1 S.2.1 dL_count_10 (by decide) ?_
      refine g_iald S 6 hK hP rfl (by omega) dL_count_11 ?_
      refine n_top (show (nI ((qfn n cl ro) 0)) = (nI n) from rfl) ?_
      refine n_cge S (tgt := 50) (by omega) dL_count_12 (by decide) (fun c12 => ?_) (fun c12 => ?_)
      · refine lv_iload S.1 S.2.1 dL_count_50 (lv_at hl 5 rfl) ?_
        exact rd_iret S hr rfl hlocks (by rw [hk, show i = n by omega, cg_8 hn]) dL_count_52
      · refine lv_iload S.1 S.2.1 dL_count_15 (lv_at hl 5 rfl) ?_
        refine lv_iload S.1 S.2.1 dL_count_17 (lv_at hl 6 rfl) ?_
        refine lv_iload_n S.1 S.2.1 dL_count_19 rfl (lv_at hl 2 rfl) ?_
        refine lv_icmp_eq (tgt := 40) S.1 S.2.1 dL_count_20 (by decide) (fun c20 => ?_) (fun c20 => ?_)
        · exact absurd c20 (nI_m1 (by omega))
        refine lv_aload_n S.1 S.2.1 dL_count_23 rfl (lv_at hl 3 rfl) ?_
        refine lv_bipush (v := (nI 7)) S.1 S.2.1 dL_count_24 (by decide) ?_
        refine lv_iload S.1 S.2.1 dL_count_26 (lv_at hl 6 rfl) ?_
        refine n_mul S dL_count_28 ?_
        refine lv_iload_n S.1 S.2.1 dL_count_29 rfl (lv_at hl 0 rfl) ?_
        refine n_add S dL_count_30 ?_
        refine g_iald S 1 hK hP rfl (by omega) dL_count_31 ?_
        refine n_top (show (nI ((enf wk) ((7 * i) + d))) = (nI (ent (wk i) d)) from congrArg nI (en_at (by omega))) ?_
        refine lv_iload_n S.1 S.2.1 dL_count_32 rfl (lv_at hl 1 rfl) ?_
        refine n_cne S (tgt := 40) (⟨Nat.lt_trans (ent_lt _ _) (by decide), by omega⟩) dL_count_33 (by decide) (fun c33 => ?_) (fun c33 => ?_)
        · refine lv_iconst (v := (nI 0)) S.1 S.2.1 dL_count_40 (by decide) ?_
          refine n_add S dL_count_41 ?_
          refine lv_istore (lv' := [(5, .int (nI (k + 0))), (0, .int (nI d)), (1, .int (nI e)), (2, .int (-1)), (3, .ref (z 1)), (4, .ref (z 6)), (6, .int (nI i))]) S.1 S.2.1 dL_count_42 hl (by decide) rfl (fun ls hl => ?_)
          refine lv_iinc (v := (nI (i + 1))) (lv' := [(6, .int (nI (i + 1))), (5, .int (nI (k + 0))), (0, .int (nI d)), (1, .int (nI e)), (2, .int (-1)), (3, .ref (z 1)), (4, .ref (z 6))]) S.1 S.2.1 dL_count_44 hl (k := 6) rfl (nI_1 _) (by decide) rfl (fun ls hl => ?_)
          refine lv_goto (tgt := 6) S.1 S.2.1 dL_count_47 (by decide) ?_
          exact ih6 (k + 0) (i + 1) (by omega) (by first | (rw [hk]; exact (cg_1 ⟨c12, by omega, c33⟩).symm) | (rw [hk]; exact (cg_0 (fun q => c33 q.2.2)).symm)) (by omega) ls (lv_sub hl [2, 3, 4, 5, 6, 1, 0] rfl)
        · refine lv_iconst (v := (nI 1)) S.1 S.2.1 dL_count_36 (by decide) ?_
          refine lv_goto (tgt := 41) S.1 S.2.1 dL_count_37 (by decide) ?_
          refine n_add S dL_count_41 ?_
          refine lv_istore (lv' := [(5, .int (nI (k + 1))), (0, .int (nI d)), (1, .int (nI e)), (2, .int (-1)), (3, .ref (z 1)), (4, .ref (z 6)), (6, .int (nI i))]) S.1 S.2.1 dL_count_42 hl (by decide) rfl (fun ls hl => ?_)
          refine lv_iinc (v := (nI (i + 1))) (lv' := [(6, .int (nI (i + 1))), (5, .int (nI (k + 1))), (0, .int (nI d)), (1, .int (nI e)), (2, .int (-1)), (3, .ref (z 1)), (4, .ref (z 6))]) S.1 S.2.1 dL_count_44 hl (k := 6) rfl (nI_1 _) (by decide) rfl (fun ls hl => ?_)
          refine lv_goto (tgt := 6) S.1 S.2.1 dL_count_47 (by decide) ?_
          exact ih6 (k + 1) (i + 1) (by omega) (by first | (rw [hk]; exact (cg_1 ⟨c12, by omega, c33⟩).symm) | (rw [hk]; exact (cg_0 (fun q => c33 q.2.2)).symm)) (by omega) ls (lv_sub hl [2, 3, 4, 5, 6, 1, 0] rfl)
  exact lp6 _ 0 0 (Nat.zero_le _) (rfl) (Nat.lt_succ_self _) ls (lv_sub hl [2, 3, 4, 5, 6, 1, 0] rfl)

set_option maxHeartbeats 4000000 in
set_option maxRecDepth 100000 in
theorem r_L_count_w (l : Launch) (D : va_G) (cT : ClassId × ClassId × ClassId) (z : Nat → Nat) (bd n ro cl fb rn : Nat) (nd sk mo wk fx wi la da we : Nat → Nat) (Wv Bv : Nat → Int32) (w d e : Nat) (hwf : wfC n bd fb rn nd sk mo wk fx wi la da we) (hd : d < 7) (he : 1 ≤ e ∧ e < 4) (hw : w < n) : Met l yL_count wsL_count ({ frames := 0, cells := 0, slots := 0, locals := 0 }) (va_Pc [.int (nI d), .int (nI e), .int (nI w), .ref (z 1), .ref (z 6)] (sx_R D (TY cT) (lX cT z n ro cl fb rn nd sk mo wk fx wi la da we Wv Bv))) (vp_Si (fun r_ => r_ = (nI (cg n wk w d e 8)))) 0 0 (fun _ => False) := by
  refine rd_start (cc := cL_count) (maxL := 7) (ret := (some .int)) RL ⟨by decide +kernel, rfl⟩ rfl (Nat.le_of_ble_eq_true rfl) ?_
  intro p0 e0 s0 m0 a0 b0 t0 c0 S hr hlocks hP hK ls hl
  have hl : lv_has ls 7 [(0, .int (nI d)), (1, .int (nI e)), (2, .int (nI w)), (3, .ref (z 1)), (4, .ref (z 6))] := hl
  obtain ⟨hn, hcl, hfb, hrn, hnd, hper⟩ := id hwf
  refine lv_iconst (v := (nI 0)) S.1 S.2.1 dL_count_0 (by decide) ?_
  refine lv_istore (lv' := [(5, .int (nI 0)), (0, .int (nI d)), (1, .int (nI e)), (2, .int (nI w)), (3, .ref (z 1)), (4, .ref (z 6))]) S.1 S.2.1 dL_count_1 hl (by decide) rfl (fun ls hl => ?_)
  refine lv_iconst (v := (nI 0)) S.1 S.2.1 dL_count_3 (by decide) ?_
  refine lv_istore (lv' := [(6, .int (nI 0)), (5, .int (nI 0)), (0, .int (nI d)), (1, .int (nI e)), (2, .int (nI w)), (3, .ref (z 1)), (4, .ref (z 6))]) S.1 S.2.1 dL_count_4 hl (by decide) rfl (fun ls hl => ?_)
  have lp6 : ∀ (fu : Nat) (k : Nat) (i : Nat), (i ≤ n) → (k = cg n wk w d e i) → (n - i) < fu → ∀ ls : Array Slot, lv_has ls 7 [(0, .int (nI d)), (1, .int (nI e)), (2, .int (nI w)), (3, .ref (z 1)), (4, .ref (z 6)), (5, .int (nI k)), (6, .int (nI i))] → W p0 l e0 ({ frames := 0, cells := 0, slots := 0, locals := 0 } : Room) s0 m0 a0 b0 t0 c0 s0.heap [] 0 0 (MQ b0 (vp_Si (fun r_ => r_ = (nI (cg n wk w d e 8)))) a0 s0 0 0 (fun _ => False)) (F0 m0 6 ls []) := by
    intro fu
    induction fu with
    | zero =>
      intro k i h2 hk hm
      exact absurd hm (Nat.not_lt_zero _)
    | succ fu ih6 =>
      intro k i h2 hk hm ls hl
      refine lv_iload S.1 S.2.1 dL_count_6 (lv_at hl 6 rfl) ?_
      refine lv_aload S.1 S.2.1 dL_count_8 (lv_at hl 4 rfl) ?_
      refine lv_iconst (v := (nI 0)) S.1 S.2.1 dL_count_10 (by decide) ?_
      refine g_iald S 6 hK hP rfl (by omega) dL_count_11 ?_
      refine n_top (show (nI ((qfn n cl ro) 0)) = (nI n) from rfl) ?_
      refine n_cge S (tgt := 50) (by omega) dL_count_12 (by decide) (fun c12 => ?_) (fun c12 => ?_)
      · refine lv_iload S.1 S.2.1 dL_count_50 (lv_at hl 5 rfl) ?_
        exact rd_iret S hr rfl hlocks (by rw [hk, show i = n by omega, cg_8 hn]) dL_count_52
      · refine lv_iload S.1 S.2.1 dL_count_15 (lv_at hl 5 rfl) ?_
        refine lv_iload S.1 S.2.1 dL_count_17 (lv_at hl 6 rfl) ?_
        refine lv_iload_n S.1 S.2.1 dL_count_19 rfl (lv_at hl 2 rfl) ?_
        refine n_ceq S (tgt := 40) (by omega) dL_count_20 (by decide) (fun c20 => ?_) (fun c20 => ?_)
        · refine lv_iconst (v := (nI 0)) S.1 S.2.1 dL_count_40 (by decide) ?_
          refine n_add S dL_count_41 ?_
          refine lv_istore (lv' := [(5, .int (nI (k + 0))), (0, .int (nI d)), (1, .int (nI e)), (2, .int (nI w)), (3, .ref (z 1)), (4, .ref (z 6)), (6, .int (nI i))]) S.1 S.2.1 dL_count_42 hl (by decide) rfl (fun ls hl => ?_)
          refine lv_iinc (v := (nI (i + 1))) (lv' := [(6, .int (nI (i + 1))), (5, .int (nI (k + 0))), (0, .int (nI d)), (1, .int (nI e)), (2, .int (nI w)), (3, .ref (z 1)), (4, .ref (z 6))]) S.1 S.2.1 dL_count_44 hl (k := 6) rfl (nI_1 _) (by decide) rfl (fun ls hl => ?_)
          refine lv_goto (tgt := 6) S.1 S.2.1 dL_count_47 (by decide) ?_
          exact ih6 (k + 0) (i + 1) (by omega) (by first | (rw [hk]; exact (cg_1 ⟨c12, c20, c33⟩).symm) | (rw [hk]; exact (cg_0 (fun q => c33 q.2.2)).symm) | (rw [hk]; exact (cg_0 (fun q => q.2.1 c20)).symm)) (by omega) ls (lv_sub hl [2, 3, 4, 5, 6, 1, 0] rfl)
        · refine lv_aload_n S.1 S.2.1 dL_count_23 rfl (lv_at hl 3 rfl) ?_
          refine lv_bipush (v := (nI 7)) S.1 S.2.1 dL_count_24 (by decide) ?_
          refine lv_iload S.1 S.2.1 dL_count_26 (lv_at hl 6 rfl) ?_
          refine n_mul S dL_count_28 ?_
          refine lv_iload_n S.1 S.2.1 dL_count_29 rfl (lv_at hl 0 rfl) ?_
          refine n_add S dL_count_30 ?_
          refine g_iald S 1 hK hP rfl (by omega) dL_count_31 ?_
          refine n_top (show (nI ((enf wk) ((7 * i) + d))) = (nI (ent (wk i) d)) from congrArg nI (en_at (by omega))) ?_
          refine lv_iload_n S.1 S.2.1 dL_count_32 rfl (lv_at hl 1 rfl) ?_
          refine n_cne S (tgt := 40) (⟨Nat.lt_trans (ent_lt _ _) (by decide), by omega⟩) dL_count_33 (by decide) (fun c33 => ?_) (fun c33 => ?_)
          · refine lv_iconst (v := (nI 0)) S.1 S.2.1 dL_count_40 (by decide) ?_
            refine n_add S dL_count_41 ?_
            refine lv_istore (lv' := [(5, .int (nI (k + 0))), (0, .int (nI d)), (1, .int (nI e)), (2, .int (nI w)), (3, .ref (z 1)), (4, .ref (z 6)), (6, .int (nI i))]) S.1 S.2.1 dL_count_42 hl (by decide) rfl (fun ls hl => ?_)
            refine lv_iinc (v := (nI (i + 1))) (lv' := [(6, .int (nI (i + 1))), (5, .int (nI (k + 0))), (0, .int (nI d)), (1, .int (nI e)), (2, .int (nI w)), (3, .ref (z 1)), (4, .ref (z 6))]) S.1 S.2.1 dL_count_44 hl (k := 6) rfl (nI_1 _) (by decide) rfl (fun ls hl => ?_)
            refine lv_goto (tgt := 6) S.1 S.2.1 dL_count_47 (by decide) ?_
            exact ih6 (k + 0) (i + 1) (by omega) (by first | (rw [hk]; exact (cg_1 ⟨c12, c20, c33⟩).symm) | (rw [hk]; exact (cg_0 (fun q => c33 q.2.2)).symm) | (rw [hk]; exact (cg_0 (fun q => q.2.1 c20)).symm)) (by omega) ls (lv_sub hl [2, 3, 4, 5, 6, 1, 0] rfl)
          · refine lv_iconst (v := (nI 1)) S.1 S.2.1 dL_count_36 (by decide) ?_
            refine lv_goto (tgt := 41) S.1 S.2.1 dL_count_37 (by decide) ?_
            refine n_add S dL_count_41 ?_
            refine lv_istore (lv' := [(5, .int (nI (k + 1))), (0, .int (nI d)), (1, .int (nI e)), (2, .int (nI w)), (3, .ref (z 1)), (4, .ref (z 6)), (6, .int (nI i))]) S.1 S.2.1 dL_count_42 hl (by decide) rfl (fun ls hl => ?_)
            refine lv_iinc (v := (nI (i + 1))) (lv' := [(6, .int (nI (i + 1))), (5, .int (nI (k + 1))), (0, .int (nI d)), (1, .int (nI e)), (2, .int (nI w)), (3, .ref (z 1)), (4, .ref (z 6))]) S.1 S.2.1 dL_count_44 hl (k := 6) rfl (nI_1 _) (by decide) rfl (fun ls hl => ?_)
            refine lv_goto (tgt := 6) S.1 S.2.1 dL_count_47 (by decide) ?_
            exact ih6 (k + 1) (i + 1) (by omega) (by first | (rw [hk]; exact (cg_1 ⟨c12, c20, c33⟩).symm) | (rw [hk]; exact (cg_0 (fun q => c33 q.2.2)).symm) | (rw [hk]; exact (cg_0 (fun q => q.2.1 c20)).symm)) (by omega) ls (lv_sub hl [2, 3, 4, 5, 6, 1, 0] rfl)
  exact lp6 _ 0 0 (Nat.zero_le _) (rfl) (Nat.lt_succ_self _) ls (lv_sub hl [2, 3, 4, 5, 6, 1, 0] rfl)

theorem pd_L_gaps : yL_gaps.cls ≠ "java/lang/invoke/MethodHandle" ∧ yL_gaps.cls ≠ "java/lang/invoke/VarHandle" ∧ (parseMethodDescriptor yL_gaps.desc).map (fun d => d.parameters.length) = some 3 := by decide +kernel
set_option maxHeartbeats 4000000 in
set_option maxRecDepth 100000 in
theorem r_L_gaps (l : Launch) (D : va_G) (cT : ClassId × ClassId × ClassId) (z : Nat → Nat) (bd n ro cl fb rn : Nat) (nd sk mo wk fx wi la da we : Nat → Nat) (Wv Bv : Nat → Int32) (hwf : wfC n bd fb rn nd sk mo wk fx wi la da we) : Met l yL_gaps wsL_gaps ({ frames := 1, cells := 0, slots := 0, locals := 26 }) (va_Pc [.ref (z 1), .ref (z 3), .ref (z 6)] (sx_R D (TY cT) (lX cT z n ro cl fb rn nd sk mo wk fx wi la da we Wv Bv))) (vp_Si (fun r_ => r_ = (nI (gpd n nd wk 7)))) 0 0 (fun _ => False) := by
  refine rd_start (cc := cL_gaps) (maxL := 7) (ret := (some .int)) RL ⟨by decide +kernel, rfl⟩ rfl (Nat.le_of_ble_eq_true rfl) ?_
  intro p0 e0 s0 m0 a0 b0 t0 c0 S hr hlocks hP hK ls hl
  have hl : lv_has ls 7 [(0, .ref (z 1)), (1, .ref (z 3)), (2, .ref (z 6))] := hl
  obtain ⟨hn, hcl, hfb, hrn, hnd, hper⟩ := id hwf
  refine lv_iconst (v := (nI 0)) S.1 S.2.1 dL_gaps_0 (by decide) ?_
  refine lv_istore_n (lv' := [(3, .int (nI 0)), (0, .ref (z 1)), (1, .ref (z 3)), (2, .ref (z 6))]) S.1 S.2.1 dL_gaps_1 rfl hl (by decide) rfl (fun ls hl => ?_)
  refine lv_iconst (v := (nI 0)) S.1 S.2.1 dL_gaps_2 (by decide) ?_
  refine lv_istore (lv' := [(4, .int (nI 0)), (3, .int (nI 0)), (0, .ref (z 1)), (1, .ref (z 3)), (2, .ref (z 6))]) S.1 S.2.1 dL_gaps_3 hl (by decide) rfl (fun ls hl => ?_)
  have lp5 : ∀ (fu : Nat) (su : Nat) (d : Nat), (d ≤ 7) → (su = gpd n nd wk d) → (7 - d) < fu → ∀ ls : Array Slot, lv_has ls 7 [(0, .ref (z 1)), (1, .ref (z 3)), (2, .ref (z 6)), (3, .int (nI su)), (4, .int (nI d))] → W p0 l e0 ({ frames := 1, cells := 0, slots := 0, locals := 26 } : Room) s0 m0 a0 b0 t0 c0 s0.heap [] 0 0 (MQ b0 (vp_Si (fun r_ => r_ = (nI (gpd n nd wk 7)))) a0 s0 0 0 (fun _ => False)) (F0 m0 5 ls []) := by
    intro fu
    induction fu with
    | zero =>
      intro su d h2 hs hm
      exact absurd hm (Nat.not_lt_zero _)
    | succ fu ih5 =>
      intro su d h2 hs hm ls hl
      refine lv_iload S.1 S.2.1 dL_gaps_5 (lv_at hl 4 rfl) ?_
      refine lv_bipush (v := (nI 7)) S.1 S.2.1 dL_gaps_7 (by decide) ?_
      refine n_cge S (tgt := 69) (by omega) dL_gaps_9 (by decide) (fun c9 => ?_) (fun c9 => ?_)
      · refine lv_iload_n S.1 S.2.1 dL_gaps_69 rfl (lv_at hl 3 rfl) ?_
        exact rd_iret S hr rfl hlocks (by rw [hs, show d = 7 by omega]) dL_gaps_70
      · refine lv_iconst (v := (nI 1)) S.1 S.2.1 dL_gaps_12 (by decide) ?_
        refine lv_istore (lv' := [(5, .int (nI 1)), (0, .ref (z 1)), (1, .ref (z 3)), (2, .ref (z 6)), (3, .int (nI su)), (4, .int (nI d))]) S.1 S.2.1 dL_gaps_13 hl (by decide) rfl (fun ls hl => ?_)
        have lp15 : ∀ (fu : Nat) (sv : Nat) (j : Nat), (j ≤ 3) → (sv = gpd n nd wk d + gpk n nd wk d j) → (3 - j) < fu → ∀ ls : Array Slot, lv_has ls 7 [(0, .ref (z 1)), (1, .ref (z 3)), (2, .ref (z 6)), (3, .int (nI sv)), (4, .int (nI d)), (5, .int (nI (j + 1)))] → W p0 l e0 ({ frames := 1, cells := 0, slots := 0, locals := 26 } : Room) s0 m0 a0 b0 t0 c0 s0.heap [] 0 0 (MQ b0 (vp_Si (fun r_ => r_ = (nI (gpd n nd wk 7)))) a0 s0 0 0 (fun _ => False)) (F0 m0 15 ls []) := by
          intro fu
          induction fu with
          | zero =>
            intro sv j h3 hs2 hm
            exact absurd hm (Nat.not_lt_zero _)
          | succ fu ih15 =>
            intro sv j h3 hs2 hm ls hl
            have hcg := cg_le n wk 99 d (j + 1) 8
            have hq := hnd (d * 4 + (j + 1))
            refine lv_iload S.1 S.2.1 dL_gaps_15 (lv_at hl 5 rfl) ?_
            refine lv_iconst (v := (nI 4)) S.1 S.2.1 dL_gaps_17 (by decide) ?_
            refine n_cge S (tgt := 63) (by omega) dL_gaps_18 (by decide) (fun c18 => ?_) (fun c18 => ?_)
            · refine lv_iinc (v := (nI (d + 1))) (lv' := [(4, .int (nI (d + 1))), (0, .ref (z 1)), (1, .ref (z 3)), (2, .ref (z 6)), (3, .int (nI sv)), (5, .int (nI (j + 1)))]) S.1 S.2.1 dL_gaps_63 hl (k := 4) rfl (nI_1 _) (by decide) rfl (fun ls hl => ?_)
              refine lv_goto (tgt := 5) S.1 S.2.1 dL_gaps_66 (by decide) ?_
              exact ih5 sv (d + 1) (by omega) (by rw [hs2, show j = 3 by omega]; rfl) (by omega) ls (lv_sub hl [1, 2, 3, 4, 0] rfl)
            · refine lv_aload_n S.1 S.2.1 dL_gaps_21 rfl (lv_at hl 1 rfl) ?_
              refine lv_iconst (v := (nI 4)) S.1 S.2.1 dL_gaps_22 (by decide) ?_
              refine lv_iload S.1 S.2.1 dL_gaps_23 (lv_at hl 4 rfl) ?_
              refine n_mul S dL_gaps_25 ?_
              refine lv_iload S.1 S.2.1 dL_gaps_26 (lv_at hl 5 rfl) ?_
              refine n_add S dL_gaps_28 ?_
              refine g_iald S 3 hK hP rfl (by omega) dL_gaps_29 ?_
              refine n_top (show (nI ((nfn fb rn nd) ((4 * d) + (j + 1)))) = (nI (nd (d * 4 + (j + 1)))) from congrArg nI (by rw [nf_n (by omega), Nat.mul_comm 4 d])) ?_
              refine lv_iload S.1 S.2.1 dL_gaps_30 (lv_at hl 4 rfl) ?_
              refine lv_iload S.1 S.2.1 dL_gaps_32 (lv_at hl 5 rfl) ?_
              refine lv_iconst (v := (-1)) S.1 S.2.1 dL_gaps_34 (by decide) ?_
              refine lv_aload_n S.1 S.2.1 dL_gaps_35 rfl (lv_at hl 0 rfl) ?_
              refine lv_aload_n S.1 S.2.1 dL_gaps_36 rfl (lv_at hl 2 rfl) ?_
              refine rd_callS (rest := [.int (nI (nd (d * 4 + (j + 1))))]) S (r_L_count l D cT z bd n ro cl fb rn nd sk mo wk fx wi la da we Wv Bv d (j + 1) (hwf) (by omega) (by omega)) gL_gaps_L_count rfl pd_L_count ⟨rfl, rfl, Nat.le_of_ble_eq_true rfl, Nat.le_of_ble_eq_true rfl⟩ hP hK hl rfl rfl (Nat.le_of_ble_eq_true rfl) ⟨Nat.zero_le _, Nat.zero_le _⟩ dL_gaps_37 ?_
              refine lv_isub S.1 S.2.1 dL_gaps_40 ?_
              refine lv_istore (lv' := [(6, .int ((nI (nd (d * 4 + (j + 1)))) - (nI (cg n wk 99 d (j + 1) 8)))), (0, .ref (z 1)), (1, .ref (z 3)), (2, .ref (z 6)), (3, .int (nI sv)), (4, .int (nI d)), (5, .int (nI (j + 1)))]) S.1 S.2.1 dL_gaps_41 hl (by decide) rfl (fun ls hl => ?_)
              refine lv_iload_n S.1 S.2.1 dL_gaps_43 rfl (lv_at hl 4 rfl) ?_
              refine lv_iload S.1 S.2.1 dL_gaps_44 (lv_at hl 0 rfl) ?_
              refine lv_if_le (tgt := 54) S.1 S.2.1 dL_gaps_46 (by decide) (fun c46 => ?_) (fun c46 => ?_)
              · refine lv_iconst (v := (nI 0)) S.1 S.2.1 dL_gaps_54 (by decide) ?_
                refine n_top (show nI 0 = nI (gpw n nd wk 99 d (j + 1)) from by show nI 0 = nI (nd (d * 4 + (j + 1)) - cg n wk 99 d (j + 1) 8); rw [Nat.sub_eq_zero_of_le ((dif_le0 ⟨by omega, by omega⟩).mp c46)]) ?_
                refine n_add S dL_gaps_55 ?_
                refine lv_istore_n (lv' := [(3, .int (nI (sv + (gpw n nd wk 99 d (j + 1))))), (6, .int ((nI (nd (d * 4 + (j + 1)))) - (nI (cg n wk 99 d (j + 1) 8)))), (0, .ref (z 1)), (1, .ref (z 3)), (2, .ref (z 6)), (4, .int (nI d)), (5, .int (nI (j + 1)))]) S.1 S.2.1 dL_gaps_56 rfl hl (by decide) rfl (fun ls hl => ?_)
                refine lv_iinc (v := (nI (j + 1 + 1))) (lv' := [(5, .int (nI (j + 1 + 1))), (3, .int (nI (sv + (gpw n nd wk 99 d (j + 1))))), (6, .int ((nI (nd (d * 4 + (j + 1)))) - (nI (cg n wk 99 d (j + 1) 8)))), (0, .ref (z 1)), (1, .ref (z 3)), (2, .ref (z 6)), (4, .int (nI d))]) S.1 S.2.1 dL_gaps_57 hl (k := 6) rfl (nI_1 _) (by decide) rfl (fun ls hl => ?_)
                refine lv_goto (tgt := 15) S.1 S.2.1 dL_gaps_60 (by decide) ?_
                exact ih15 (sv + (gpw n nd wk 99 d (j + 1))) (j + 1) (by omega) (by rw [hs2, Nat.add_assoc]; rfl) (by omega) ls (lv_sub hl [3, 4, 5, 1, 6, 0] rfl)
              · refine lv_iload S.1 S.2.1 dL_gaps_49 (lv_at hl 0 rfl) ?_
                refine lv_goto (tgt := 55) S.1 S.2.1 dL_gaps_51 (by decide) ?_
                refine n_top (show ((nI (nd (d * 4 + (j + 1)))) - (nI (cg n wk 99 d (j + 1) 8))) = nI (gpw n nd wk 99 d (j + 1)) from sx_sub (Nat.le_of_lt (Nat.lt_of_not_le (fun z => c46 ((dif_le0 ⟨by omega, by omega⟩).mpr z))))) ?_
                refine n_add S dL_gaps_55 ?_
                refine lv_istore_n (lv' := [(3, .int (nI (sv + (gpw n nd wk 99 d (j + 1))))), (6, .int ((nI (nd (d * 4 + (j + 1)))) - (nI (cg n wk 99 d (j + 1) 8)))), (0, .ref (z 1)), (1, .ref (z 3)), (2, .ref (z 6)), (4, .int (nI d)), (5, .int (nI (j + 1)))]) S.1 S.2.1 dL_gaps_56 rfl hl (by decide) rfl (fun ls hl => ?_)
                refine lv_iinc (v := (nI (j + 1 + 1))) (lv' := [(5, .int (nI (j + 1 + 1))), (3, .int (nI (sv + (gpw n nd wk 99 d (j + 1))))), (6, .int ((nI (nd (d * 4 + (j + 1)))) - (nI (cg n wk 99 d (j + 1) 8)))), (0, .ref (z 1)), (1, .ref (z 3)), (2, .ref (z 6)), (4, .int (nI d))]) S.1 S.2.1 dL_gaps_57 hl (k := 6) rfl (nI_1 _) (by decide) rfl (fun ls hl => ?_)
                refine lv_goto (tgt := 15) S.1 S.2.1 dL_gaps_60 (by decide) ?_
                exact ih15 (sv + (gpw n nd wk 99 d (j + 1))) (j + 1) (by omega) (by rw [hs2, Nat.add_assoc]; rfl) (by omega) ls (lv_sub hl [3, 4, 5, 1, 6, 0] rfl)
        exact lp15 _ su 0 (Nat.zero_le _) (hs) (Nat.lt_succ_self _) ls (lv_sub hl [1, 2, 3, 4, 5, 0] rfl)
  exact lp5 _ 0 0 (Nat.zero_le _) (rfl) (Nat.lt_succ_self _) ls (lv_sub hl [2, 3, 4, 1, 0] rfl)

theorem pd_L_worth : yL_worth.cls ≠ "java/lang/invoke/MethodHandle" ∧ yL_worth.cls ≠ "java/lang/invoke/VarHandle" ∧ (parseMethodDescriptor yL_worth.desc).map (fun d => d.parameters.length) = some 4 := by decide +kernel
theorem w_L_worth_0 : Cond.constantLong RL 35 7 ∈ wsL_worth := by decide +kernel
theorem w_L_worth_1 : Cond.constantLong RL 37 10 ∈ wsL_worth := by decide +kernel
theorem w_L_worth_2 : Cond.constantLong RL 39 1000000 ∈ wsL_worth := by decide +kernel
set_option maxHeartbeats 4000000 in
set_option maxRecDepth 100000 in
theorem r_L_worth (l : Launch) (D : va_G) (cT : ClassId × ClassId × ClassId) (z : Nat → Nat) (bd n ro cl fb rn : Nat) (nd sk mo wk fx wi la da we : Nat → Nat) (Wv Bv : Nat → Int32) (i lk v : Nat) (hwf : wfC n bd fb rn nd sk mo wk fx wi la da we) (hi : i < 8) (hv : v < 16384) (hW : ∀ j, j < 7 → Wv j = nI (ent v j)) (hlk : lk < 2 ^ 28) : Met l yL_worth wsL_worth ({ frames := 0, cells := 0, slots := 0, locals := 0 }) (va_Pc [.int (nI i), .ref (z 4), .ref (z 0), .int (nI lk)] (sx_R D (TY cT) (lX cT z n ro cl fb rn nd sk mo wk fx wi la da we Wv Bv))) (vp_Sl (fun r_ => r_ = (lN (prL (we i) (wi i) lk v)))) 0 0 (fun _ => False) := by
  refine rd_start (cc := cL_worth) (maxL := 12) (ret := (some .long)) RL ⟨by decide +kernel, rfl⟩ rfl (Nat.le_of_ble_eq_true rfl) ?_
  intro p0 e0 s0 m0 a0 b0 t0 c0 S hr hlocks hP hK ls hl
  have hl : lv_has ls 12 [(0, .int (nI i)), (1, .ref (z 4)), (2, .ref (z 0)), (3, .int (nI lk))] := hl
  obtain ⟨hn, hcl, hfb, hrn, hnd, hper⟩ := id hwf
  have hpi := hper i
  have hfc := fc_le lk v
  refine lv_ldc2 S.1 S.2.1 (own := RL) S.2.2.2.1 (S.2.2.2.2 _ w_L_worth_0) dL_worth_0 ?_
  refine n_topl (show (7 : Int64) = lN 7 from rfl) ?_
  refine n_topl (show (lN 7) = (lN (7 - 0)) from rfl) ?_
  refine lv_lstore (lv' := [(4, .long (lN (7 - 0))), (0, .int (nI i)), (1, .ref (z 4)), (2, .ref (z 0)), (3, .int (nI lk))]) S.1 S.2.1 dL_worth_3 hl (by decide) rfl (fun ls hl => ?_)
  refine lv_lconst (v := lN 0) S.1 S.2.1 dL_worth_5 (by decide) ?_
  refine lv_lstore (lv' := [(6, .long (lN 0)), (4, .long (lN (7 - 0))), (0, .int (nI i)), (1, .ref (z 4)), (2, .ref (z 0)), (3, .int (nI lk))]) S.1 S.2.1 dL_worth_6 hl (by decide) rfl (fun ls hl => ?_)
  refine lv_lconst (v := lN 0) S.1 S.2.1 dL_worth_8 (by decide) ?_
  refine lv_lstore (lv' := [(8, .long (lN 0)), (6, .long (lN 0)), (4, .long (lN (7 - 0))), (0, .int (nI i)), (1, .ref (z 4)), (2, .ref (z 0)), (3, .int (nI lk))]) S.1 S.2.1 dL_worth_9 hl (by decide) rfl (fun ls hl => ?_)
  refine lv_iconst (v := (nI 0)) S.1 S.2.1 dL_worth_11 (by decide) ?_
  refine lv_istore (lv' := [(10, .int (nI 0)), (8, .long (lN 0)), (6, .long (lN 0)), (4, .long (lN (7 - 0))), (0, .int (nI i)), (1, .ref (z 4)), (2, .ref (z 0)), (3, .int (nI lk))]) S.1 S.2.1 dL_worth_12 hl (by decide) rfl (fun ls hl => ?_)
  have lp14 : ∀ (fu : Nat) (k : Nat) (sh : Nat) (br : Nat) (d : Nat), (d ≤ 7) → (k = fc lk v d) → (sh = shc v 0 d) → (br = brc (wi i) v d) → (7 - d) < fu → ∀ ls : Array Slot, lv_has ls 12 [(0, .int (nI i)), (1, .ref (z 4)), (2, .ref (z 0)), (3, .int (nI lk)), (4, .long (lN (7 - k))), (6, .long (lN sh)), (8, .long (lN br)), (10, .int (nI d))] → W p0 l e0 ({ frames := 0, cells := 0, slots := 0, locals := 0 } : Room) s0 m0 a0 b0 t0 c0 s0.heap [] 0 0 (MQ b0 (vp_Sl (fun r_ => r_ = (lN (prL (we i) (wi i) lk v)))) a0 s0 0 0 (fun _ => False)) (F0 m0 14 ls []) := by
    intro fu
    induction fu with
    | zero =>
      intro k sh br d h2 hk hsh hbr hm
      exact absurd hm (Nat.not_lt_zero _)
    | succ fu ih14 =>
      intro k sh br d h2 hk hsh hbr hm ls hl
      have hfd := fc_le lk v d
      refine lv_iload S.1 S.2.1 dL_worth_14 (lv_at hl 7 rfl) ?_
      refine lv_bipush (v := (nI 7)) S.1 S.2.1 dL_worth_16 (by decide) ?_
      refine n_cge S (tgt := 112) (by omega) dL_worth_18 (by decide) (fun c18 => ?_) (fun c18 => ?_)
      · refine lv_aload_n S.1 S.2.1 dL_worth_112 rfl (lv_at hl 1 rfl) ?_
        refine lv_iconst (v := (nI 5)) S.1 S.2.1 dL_worth_113 (by decide) ?_
        refine g_ialdR S 4 hK hP rfl (by omega) dL_worth_114 ?_
        refine n_top (show (Wv 5) = (nI (ent v 5)) from hW 5 (by omega)) ?_
        refine n_zle S (tgt := 122) (Nat.lt_trans (ent_lt _ _) (by decide)) dL_worth_115 (by decide) (fun c115 => ?_) (fun c115 => ?_)
        · refine lv_lconst (v := lN 0) S.1 S.2.1 dL_worth_122 (by decide) ?_
          refine lv_aload_n S.1 S.2.1 dL_worth_123 rfl (lv_at hl 1 rfl) ?_
          refine lv_bipush (v := (nI 6)) S.1 S.2.1 dL_worth_124 (by decide) ?_
          refine g_ialdR S 4 hK hP rfl (by omega) dL_worth_126 ?_
          refine n_top (show (Wv 6) = (nI (ent v 6)) from hW 6 (by omega)) ?_
          refine n_zle S (tgt := 134) (Nat.lt_trans (ent_lt _ _) (by decide)) dL_worth_127 (by decide) (fun c127 => ?_) (fun c127 => ?_)
          · refine lv_lconst (v := lN 0) S.1 S.2.1 dL_worth_134 (by decide) ?_
            refine lv_ladd S.1 S.2.1 dL_worth_135 ?_
            refine n_topl (lN_add _ _) ?_
            refine n_topl (show (lN (0 + 0)) = (lN (shc v 5 2)) from congrArg lN (by rw [wke]; (first | rw [if_pos c115] | rw [if_neg (Nat.ne_of_gt c115)]) <;> (first | rw [if_pos c127] | rw [if_neg (Nat.ne_of_gt c127)]))) ?_
            refine lv_aload_n S.1 S.2.1 dL_worth_136 rfl (lv_at hl 2 rfl) ?_
            refine lv_bipush (v := (nI 8)) S.1 S.2.1 dL_worth_137 (by decide) ?_
            refine lv_iload_n S.1 S.2.1 dL_worth_139 rfl (lv_at hl 0 rfl) ?_
            refine n_mul S dL_worth_140 ?_
            refine lv_iconst (v := (nI 5)) S.1 S.2.1 dL_worth_141 (by decide) ?_
            refine n_add S dL_worth_142 ?_
            refine g_iald S 0 hK hP rfl (by omega) dL_worth_143 ?_
            refine n_top (show (nI ((hfn sk mo wi la da we) ((8 * i) + 5))) = (nI (we i)) from congrArg nI hf_5) ?_
            refine lv_i2l (v := lN (we i)) S.1 S.2.1 dL_worth_144 (nI_l (by omega)) ?_
            refine lv_lmul S.1 S.2.1 dL_worth_145 ?_
            refine n_topl (lN_mul _ _) ?_
            refine lv_lstore (lv' := [(10, .long (lN ((shc v 5 2) * (we i)))), (0, .int (nI i)), (1, .ref (z 4)), (2, .ref (z 0)), (3, .int (nI lk)), (4, .long (lN (7 - k))), (6, .long (lN sh)), (8, .long (lN br))]) S.1 S.2.1 dL_worth_146 hl (by decide) rfl (fun ls hl => ?_)
            refine lv_lload S.1 S.2.1 dL_worth_148 (lv_at hl 5 rfl) ?_
            refine lv_ldc2 S.1 S.2.1 (own := RL) S.2.2.2.1 (S.2.2.2.2 _ w_L_worth_1) dL_worth_150 ?_
            refine n_topl (show (10 : Int64) = lN 10 from rfl) ?_
            refine lv_lmul S.1 S.2.1 dL_worth_153 ?_
            refine n_topl (lN_mul _ _) ?_
            refine lv_lload S.1 S.2.1 dL_worth_154 (lv_at hl 6 rfl) ?_
            refine lv_ladd S.1 S.2.1 dL_worth_156 ?_
            refine n_topl (lN_add _ _) ?_
            refine lv_ldc2 S.1 S.2.1 (own := RL) S.2.2.2.1 (S.2.2.2.2 _ w_L_worth_2) dL_worth_157 ?_
            refine n_topl (show (1000000 : Int64) = lN 1000000 from rfl) ?_
            refine lv_lmul S.1 S.2.1 dL_worth_160 ?_
            refine n_topl (lN_mul _ _) ?_
            refine lv_lload S.1 S.2.1 dL_worth_161 (lv_at hl 0 rfl) ?_
            refine lv_ladd S.1 S.2.1 dL_worth_163 ?_
            refine n_topl (lN_add _ _) ?_
            refine lv_ldc2 S.1 S.2.1 (own := RL) S.2.2.2.1 (S.2.2.2.2 _ w_L_worth_1) dL_worth_164 ?_
            refine n_topl (show (10 : Int64) = lN 10 from rfl) ?_
            refine lv_lmul S.1 S.2.1 dL_worth_167 ?_
            refine n_topl (lN_mul _ _) ?_
            refine lv_lload S.1 S.2.1 dL_worth_168 (lv_at hl 7 rfl) ?_
            refine lv_ladd S.1 S.2.1 dL_worth_170 ?_
            refine n_topl (lN_add _ _) ?_
            exact rd_lret S hr hlocks (by rw [hk, hsh, hbr, show d = 7 by omega]; rfl) dL_worth_171
          · refine lv_lconst (v := lN 1) S.1 S.2.1 dL_worth_130 (by decide) ?_
            refine lv_goto (tgt := 135) S.1 S.2.1 dL_worth_131 (by decide) ?_
            refine lv_ladd S.1 S.2.1 dL_worth_135 ?_
            refine n_topl (lN_add _ _) ?_
            refine n_topl (show (lN (0 + 1)) = (lN (shc v 5 2)) from congrArg lN (by rw [wke]; (first | rw [if_pos c115] | rw [if_neg (Nat.ne_of_gt c115)]) <;> (first | rw [if_pos c127] | rw [if_neg (Nat.ne_of_gt c127)]))) ?_
            refine lv_aload_n S.1 S.2.1 dL_worth_136 rfl (lv_at hl 2 rfl) ?_
            refine lv_bipush (v := (nI 8)) S.1 S.2.1 dL_worth_137 (by decide) ?_
            refine lv_iload_n S.1 S.2.1 dL_worth_139 rfl (lv_at hl 0 rfl) ?_
            refine n_mul S dL_worth_140 ?_
            refine lv_iconst (v := (nI 5)) S.1 S.2.1 dL_worth_141 (by decide) ?_
            refine n_add S dL_worth_142 ?_
            refine g_iald S 0 hK hP rfl (by omega) dL_worth_143 ?_
            refine n_top (show (nI ((hfn sk mo wi la da we) ((8 * i) + 5))) = (nI (we i)) from congrArg nI hf_5) ?_
            refine lv_i2l (v := lN (we i)) S.1 S.2.1 dL_worth_144 (nI_l (by omega)) ?_
            refine lv_lmul S.1 S.2.1 dL_worth_145 ?_
            refine n_topl (lN_mul _ _) ?_
            refine lv_lstore (lv' := [(10, .long (lN ((shc v 5 2) * (we i)))), (0, .int (nI i)), (1, .ref (z 4)), (2, .ref (z 0)), (3, .int (nI lk)), (4, .long (lN (7 - k))), (6, .long (lN sh)), (8, .long (lN br))]) S.1 S.2.1 dL_worth_146 hl (by decide) rfl (fun ls hl => ?_)
            refine lv_lload S.1 S.2.1 dL_worth_148 (lv_at hl 5 rfl) ?_
            refine lv_ldc2 S.1 S.2.1 (own := RL) S.2.2.2.1 (S.2.2.2.2 _ w_L_worth_1) dL_worth_150 ?_
            refine n_topl (show (10 : Int64) = lN 10 from rfl) ?_
            refine lv_lmul S.1 S.2.1 dL_worth_153 ?_
            refine n_topl (lN_mul _ _) ?_
            refine lv_lload S.1 S.2.1 dL_worth_154 (lv_at hl 6 rfl) ?_
            refine lv_ladd S.1 S.2.1 dL_worth_156 ?_
            refine n_topl (lN_add _ _) ?_
            refine lv_ldc2 S.1 S.2.1 (own := RL) S.2.2.2.1 (S.2.2.2.2 _ w_L_worth_2) dL_worth_157 ?_
            refine n_topl (show (1000000 : Int64) = lN 1000000 from rfl) ?_
            refine lv_lmul S.1 S.2.1 dL_worth_160 ?_
            refine n_topl (lN_mul _ _) ?_
            refine lv_lload S.1 S.2.1 dL_worth_161 (lv_at hl 0 rfl) ?_
            refine lv_ladd S.1 S.2.1 dL_worth_163 ?_
            refine n_topl (lN_add _ _) ?_
            refine lv_ldc2 S.1 S.2.1 (own := RL) S.2.2.2.1 (S.2.2.2.2 _ w_L_worth_1) dL_worth_164 ?_
            refine n_topl (show (10 : Int64) = lN 10 from rfl) ?_
            refine lv_lmul S.1 S.2.1 dL_worth_167 ?_
            refine n_topl (lN_mul _ _) ?_
            refine lv_lload S.1 S.2.1 dL_worth_168 (lv_at hl 7 rfl) ?_
            refine lv_ladd S.1 S.2.1 dL_worth_170 ?_
            refine n_topl (lN_add _ _) ?_
            exact rd_lret S hr hlocks (by rw [hk, hsh, hbr, show d = 7 by omega]; rfl) dL_worth_171
        · refine lv_lconst (v := lN 1) S.1 S.2.1 dL_worth_118 (by decide) ?_
          refine lv_goto (tgt := 123) S.1 S.2.1 dL_worth_119 (by decide) ?_
          refine lv_aload_n S.1 S.2.1 dL_worth_123 rfl (lv_at hl 1 rfl) ?_
          refine lv_bipush (v := (nI 6)) S.1 S.2.1 dL_worth_124 (by decide) ?_
          refine g_ialdR S 4 hK hP rfl (by omega) dL_worth_126 ?_
          refine n_top (show (Wv 6) = (nI (ent v 6)) from hW 6 (by omega)) ?_
          refine n_zle S (tgt := 134) (Nat.lt_trans (ent_lt _ _) (by decide)) dL_worth_127 (by decide) (fun c127 => ?_) (fun c127 => ?_)
          · refine lv_lconst (v := lN 0) S.1 S.2.1 dL_worth_134 (by decide) ?_
            refine lv_ladd S.1 S.2.1 dL_worth_135 ?_
            refine n_topl (lN_add _ _) ?_
            refine n_topl (show (lN (1 + 0)) = (lN (shc v 5 2)) from congrArg lN (by rw [wke]; (first | rw [if_pos c115] | rw [if_neg (Nat.ne_of_gt c115)]) <;> (first | rw [if_pos c127] | rw [if_neg (Nat.ne_of_gt c127)]))) ?_
            refine lv_aload_n S.1 S.2.1 dL_worth_136 rfl (lv_at hl 2 rfl) ?_
            refine lv_bipush (v := (nI 8)) S.1 S.2.1 dL_worth_137 (by decide) ?_
            refine lv_iload_n S.1 S.2.1 dL_worth_139 rfl (lv_at hl 0 rfl) ?_
            refine n_mul S dL_worth_140 ?_
            refine lv_iconst (v := (nI 5)) S.1 S.2.1 dL_worth_141 (by decide) ?_
            refine n_add S dL_worth_142 ?_
            refine g_iald S 0 hK hP rfl (by omega) dL_worth_143 ?_
            refine n_top (show (nI ((hfn sk mo wi la da we) ((8 * i) + 5))) = (nI (we i)) from congrArg nI hf_5) ?_
            refine lv_i2l (v := lN (we i)) S.1 S.2.1 dL_worth_144 (nI_l (by omega)) ?_
            refine lv_lmul S.1 S.2.1 dL_worth_145 ?_
            refine n_topl (lN_mul _ _) ?_
            refine lv_lstore (lv' := [(10, .long (lN ((shc v 5 2) * (we i)))), (0, .int (nI i)), (1, .ref (z 4)), (2, .ref (z 0)), (3, .int (nI lk)), (4, .long (lN (7 - k))), (6, .long (lN sh)), (8, .long (lN br))]) S.1 S.2.1 dL_worth_146 hl (by decide) rfl (fun ls hl => ?_)
            refine lv_lload S.1 S.2.1 dL_worth_148 (lv_at hl 5 rfl) ?_
            refine lv_ldc2 S.1 S.2.1 (own := RL) S.2.2.2.1 (S.2.2.2.2 _ w_L_worth_1) dL_worth_150 ?_
            refine n_topl (show (10 : Int64) = lN 10 from rfl) ?_
            refine lv_lmul S.1 S.2.1 dL_worth_153 ?_
            refine n_topl (lN_mul _ _) ?_
            refine lv_lload S.1 S.2.1 dL_worth_154 (lv_at hl 6 rfl) ?_
            refine lv_ladd S.1 S.2.1 dL_worth_156 ?_
            refine n_topl (lN_add _ _) ?_
            refine lv_ldc2 S.1 S.2.1 (own := RL) S.2.2.2.1 (S.2.2.2.2 _ w_L_worth_2) dL_worth_157 ?_
            refine n_topl (show (1000000 : Int64) = lN 1000000 from rfl) ?_
            refine lv_lmul S.1 S.2.1 dL_worth_160 ?_
            refine n_topl (lN_mul _ _) ?_
            refine lv_lload S.1 S.2.1 dL_worth_161 (lv_at hl 0 rfl) ?_
            refine lv_ladd S.1 S.2.1 dL_worth_163 ?_
            refine n_topl (lN_add _ _) ?_
            refine lv_ldc2 S.1 S.2.1 (own := RL) S.2.2.2.1 (S.2.2.2.2 _ w_L_worth_1) dL_worth_164 ?_
            refine n_topl (show (10 : Int64) = lN 10 from rfl) ?_
            refine lv_lmul S.1 S.2.1 dL_worth_167 ?_
            refine n_topl (lN_mul _ _) ?_
            refine lv_lload S.1 S.2.1 dL_worth_168 (lv_at hl 7 rfl) ?_
            refine lv_ladd S.1 S.2.1 dL_worth_170 ?_
            refine n_topl (lN_add _ _) ?_
            exact rd_lret S hr hlocks (by rw [hk, hsh, hbr, show d = 7 by omega]; rfl) dL_worth_171
          · refine lv_lconst (v := lN 1) S.1 S.2.1 dL_worth_130 (by decide) ?_
            refine lv_goto (tgt := 135) S.1 S.2.1 dL_worth_131 (by decide) ?_
            refine lv_ladd S.1 S.2.1 dL_worth_135 ?_
            refine n_topl (lN_add _ _) ?_
            refine n_topl (show (lN (1 + 1)) = (lN (shc v 5 2)) from congrArg lN (by rw [wke]; (first | rw [if_pos c115] | rw [if_neg (Nat.ne_of_gt c115)]) <;> (first | rw [if_pos c127] | rw [if_neg (Nat.ne_of_gt c127)]))) ?_
            refine lv_aload_n S.1 S.2.1 dL_worth_136 rfl (lv_at hl 2 rfl) ?_
            refine lv_bipush (v := (nI 8)) S.1 S.2.1 dL_worth_137 (by decide) ?_
            refine lv_iload_n S.1 S.2.1 dL_worth_139 rfl (lv_at hl 0 rfl) ?_
            refine n_mul S dL_worth_140 ?_
            refine lv_iconst (v := (nI 5)) S.1 S.2.1 dL_worth_141 (by decide) ?_
            refine n_add S dL_worth_142 ?_
            refine g_iald S 0 hK hP rfl (by omega) dL_worth_143 ?_
            refine n_top (show (nI ((hfn sk mo wi la da we) ((8 * i) + 5))) = (nI (we i)) from congrArg nI hf_5) ?_
            refine lv_i2l (v := lN (we i)) S.1 S.2.1 dL_worth_144 (nI_l (by omega)) ?_
            refine lv_lmul S.1 S.2.1 dL_worth_145 ?_
            refine n_topl (lN_mul _ _) ?_
            refine lv_lstore (lv' := [(10, .long (lN ((shc v 5 2) * (we i)))), (0, .int (nI i)), (1, .ref (z 4)), (2, .ref (z 0)), (3, .int (nI lk)), (4, .long (lN (7 - k))), (6, .long (lN sh)), (8, .long (lN br))]) S.1 S.2.1 dL_worth_146 hl (by decide) rfl (fun ls hl => ?_)
            refine lv_lload S.1 S.2.1 dL_worth_148 (lv_at hl 5 rfl) ?_
            refine lv_ldc2 S.1 S.2.1 (own := RL) S.2.2.2.1 (S.2.2.2.2 _ w_L_worth_1) dL_worth_150 ?_
            refine n_topl (show (10 : Int64) = lN 10 from rfl) ?_
            refine lv_lmul S.1 S.2.1 dL_worth_153 ?_
            refine n_topl (lN_mul _ _) ?_
            refine lv_lload S.1 S.2.1 dL_worth_154 (lv_at hl 6 rfl) ?_
            refine lv_ladd S.1 S.2.1 dL_worth_156 ?_
            refine n_topl (lN_add _ _) ?_
            refine lv_ldc2 S.1 S.2.1 (own := RL) S.2.2.2.1 (S.2.2.2.2 _ w_L_worth_2) dL_worth_157 ?_
            refine n_topl (show (1000000 : Int64) = lN 1000000 from rfl) ?_
            refine lv_lmul S.1 S.2.1 dL_worth_160 ?_
            refine n_topl (lN_mul _ _) ?_
            refine lv_lload S.1 S.2.1 dL_worth_161 (lv_at hl 0 rfl) ?_
            refine lv_ladd S.1 S.2.1 dL_worth_163 ?_
            refine n_topl (lN_add _ _) ?_
            refine lv_ldc2 S.1 S.2.1 (own := RL) S.2.2.2.1 (S.2.2.2.2 _ w_L_worth_1) dL_worth_164 ?_
            refine n_topl (show (10 : Int64) = lN 10 from rfl) ?_
            refine lv_lmul S.1 S.2.1 dL_worth_167 ?_
            refine n_topl (lN_mul _ _) ?_
            refine lv_lload S.1 S.2.1 dL_worth_168 (lv_at hl 7 rfl) ?_
            refine lv_ladd S.1 S.2.1 dL_worth_170 ?_
            refine n_topl (lN_add _ _) ?_
            exact rd_lret S hr hlocks (by rw [hk, hsh, hbr, show d = 7 by omega]; rfl) dL_worth_171
      · have jn103 : ∀ (b3 : Nat) , (br + b3 = brc (wi i) v (d + 1)) → ∀ ls : Array Slot, lv_has ls 12 [(0, .int (nI i)), (1, .ref (z 4)), (2, .ref (z 0)), (3, .int (nI lk)), (4, .long (lN (7 - fc lk v (d + 1)))), (6, .long (lN (shc v 0 (d + 1)))), (8, .long (lN br)), (10, .int (nI d))] → W p0 l e0 ({ frames := 0, cells := 0, slots := 0, locals := 0 } : Room) s0 m0 a0 b0 t0 c0 s0.heap [] 0 0 (MQ b0 (vp_Sl (fun r_ => r_ = (lN (prL (we i) (wi i) lk v)))) a0 s0 0 0 (fun _ => False)) (F0 m0 103 ls [.long (lN b3), .long (lN br)]) := by
          intro b3 hb3 ls hl
          refine lv_ladd S.1 S.2.1 dL_worth_103 ?_
          refine n_topl (lN_add _ _) ?_
          refine n_topl (show (lN (br + b3)) = (lN (brc (wi i) v (d + 1))) from congrArg lN hb3) ?_
          refine lv_lstore (lv' := [(8, .long (lN (brc (wi i) v (d + 1)))), (0, .int (nI i)), (1, .ref (z 4)), (2, .ref (z 0)), (3, .int (nI lk)), (4, .long (lN (7 - fc lk v (d + 1)))), (6, .long (lN (shc v 0 (d + 1)))), (10, .int (nI d))]) S.1 S.2.1 dL_worth_104 hl (by decide) rfl (fun ls hl => ?_)
          refine lv_iinc (v := (nI (d + 1))) (lv' := [(10, .int (nI (d + 1))), (8, .long (lN (brc (wi i) v (d + 1)))), (0, .int (nI i)), (1, .ref (z 4)), (2, .ref (z 0)), (3, .int (nI lk)), (4, .long (lN (7 - fc lk v (d + 1)))), (6, .long (lN (shc v 0 (d + 1))))]) S.1 S.2.1 dL_worth_106 hl (k := 7) rfl (nI_1 _) (by decide) rfl (fun ls hl => ?_)
          refine lv_goto (tgt := 14) S.1 S.2.1 dL_worth_109 (by decide) ?_
          exact ih14 (fc lk v (d + 1)) (shc v 0 (d + 1)) (brc (wi i) v (d + 1)) (d + 1) (by omega) (rfl) (rfl) (rfl) (by omega) ls (lv_sub hl [2, 3, 4, 5, 6, 7, 1, 0] rfl)
        have jn69 : ∀ (b2 : Nat) , (sh + b2 = shc v 0 (d + 1)) → ∀ ls : Array Slot, lv_has ls 12 [(0, .int (nI i)), (1, .ref (z 4)), (2, .ref (z 0)), (3, .int (nI lk)), (4, .long (lN (7 - fc lk v (d + 1)))), (6, .long (lN sh)), (8, .long (lN br)), (10, .int (nI d))] → W p0 l e0 ({ frames := 0, cells := 0, slots := 0, locals := 0 } : Room) s0 m0 a0 b0 t0 c0 s0.heap [] 0 0 (MQ b0 (vp_Sl (fun r_ => r_ = (lN (prL (we i) (wi i) lk v)))) a0 s0 0 0 (fun _ => False)) (F0 m0 69 ls [.long (lN b2), .long (lN sh)]) := by
          intro b2 hb2 ls hl
          refine lv_ladd S.1 S.2.1 dL_worth_69 ?_
          refine n_topl (lN_add _ _) ?_
          refine n_topl (show (lN (sh + b2)) = (lN (shc v 0 (d + 1))) from congrArg lN hb2) ?_
          refine lv_lstore (lv' := [(6, .long (lN (shc v 0 (d + 1)))), (0, .int (nI i)), (1, .ref (z 4)), (2, .ref (z 0)), (3, .int (nI lk)), (4, .long (lN (7 - fc lk v (d + 1)))), (8, .long (lN br)), (10, .int (nI d))]) S.1 S.2.1 dL_worth_70 hl (by decide) rfl (fun ls hl => ?_)
          refine lv_lload S.1 S.2.1 dL_worth_72 (lv_at hl 6 rfl) ?_
          refine lv_aload_n S.1 S.2.1 dL_worth_74 rfl (lv_at hl 2 rfl) ?_
          refine lv_iload S.1 S.2.1 dL_worth_75 (lv_at hl 7 rfl) ?_
          refine g_ialdR S 4 hK hP rfl (by omega) dL_worth_77 ?_
          refine n_top (show (Wv d) = (nI (ent v d)) from hW d (by omega)) ?_
          refine n_zle S (tgt := 102) (Nat.lt_trans (ent_lt _ _) (by decide)) dL_worth_78 (by decide) (fun c78 => ?_) (fun c78 => ?_)
          · refine lv_lconst (v := lN 0) S.1 S.2.1 dL_worth_102 (by decide) ?_
            exact jn103 0 (by rw [hbr]; exact (brk_0 (Or.inl c78)).symm) ls (lv_sub hl [1, 2, 3, 4, 5, 0, 6, 7] rfl)
          · refine lv_aload_n S.1 S.2.1 dL_worth_81 rfl (lv_at hl 3 rfl) ?_
            refine lv_bipush (v := (nI 8)) S.1 S.2.1 dL_worth_82 (by decide) ?_
            refine lv_iload_n S.1 S.2.1 dL_worth_84 rfl (lv_at hl 1 rfl) ?_
            refine n_mul S dL_worth_85 ?_
            refine lv_iconst (v := (nI 2)) S.1 S.2.1 dL_worth_86 (by decide) ?_
            refine n_add S dL_worth_87 ?_
            refine g_iald S 0 hK hP rfl (by omega) dL_worth_88 ?_
            refine n_top (show (nI ((hfn sk mo wi la da we) ((8 * i) + 2))) = (nI (wi i)) from congrArg nI hf_2) ?_
            refine lv_iload S.1 S.2.1 dL_worth_89 (lv_at hl 7 rfl) ?_
            refine n_shr S (⟨by omega, by omega⟩) dL_worth_91 ?_
            refine lv_iconst (v := (nI 1)) S.1 S.2.1 dL_worth_92 (by decide) ?_
            refine n_and S dL_worth_93 ?_
            refine n_top (show (nI (((wi i) / 2 ^ d) &&& 1)) = (nI (bit (wi i) d)) from congrArg nI (Nat.and_one_is_mod _)) ?_
            refine lv_iconst (v := (nI 1)) S.1 S.2.1 dL_worth_94 (by decide) ?_
            refine n_cne S (tgt := 102) (⟨Nat.lt_trans (bit_lt _ _) (by decide), by decide⟩) dL_worth_95 (by decide) (fun c95 => ?_) (fun c95 => ?_)
            · refine lv_lconst (v := lN 0) S.1 S.2.1 dL_worth_102 (by decide) ?_
              exact jn103 0 (by rw [hbr]; exact (brk_0 (Or.inr c95)).symm) ls (lv_sub hl [1, 2, 3, 4, 5, 0, 6, 7] rfl)
            · refine lv_lconst (v := lN 1) S.1 S.2.1 dL_worth_98 (by decide) ?_
              refine lv_goto (tgt := 103) S.1 S.2.1 dL_worth_99 (by decide) ?_
              exact jn103 1 (by rw [hbr]; exact (brk_1 c78 c95).symm) ls (lv_sub hl [1, 2, 3, 4, 5, 0, 6, 7] rfl)
        have jn52 : ∀ (b1 : Nat) , (7 - k - b1 = 7 - fc lk v (d + 1) ∧ b1 ≤ 7 - k) → ∀ ls : Array Slot, lv_has ls 12 [(0, .int (nI i)), (1, .ref (z 4)), (2, .ref (z 0)), (3, .int (nI lk)), (4, .long (lN (7 - k))), (6, .long (lN sh)), (8, .long (lN br)), (10, .int (nI d))] → W p0 l e0 ({ frames := 0, cells := 0, slots := 0, locals := 0 } : Room) s0 m0 a0 b0 t0 c0 s0.heap [] 0 0 (MQ b0 (vp_Sl (fun r_ => r_ = (lN (prL (we i) (wi i) lk v)))) a0 s0 0 0 (fun _ => False)) (F0 m0 52 ls [.long (lN b1), .long (lN (7 - k))]) := by
          intro b1 hb1 ls hl
          refine lv_lsub S.1 S.2.1 dL_worth_52 ?_
          refine n_topl (lN_sub (hb1.2)) ?_
          refine n_topl (show (lN ((7 - k) - b1)) = (lN (7 - fc lk v (d + 1))) from congrArg lN hb1.1) ?_
          refine lv_lstore (lv' := [(4, .long (lN (7 - fc lk v (d + 1)))), (0, .int (nI i)), (1, .ref (z 4)), (2, .ref (z 0)), (3, .int (nI lk)), (6, .long (lN sh)), (8, .long (lN br)), (10, .int (nI d))]) S.1 S.2.1 dL_worth_53 hl (by decide) rfl (fun ls hl => ?_)
          refine lv_lload S.1 S.2.1 dL_worth_55 (lv_at hl 5 rfl) ?_
          refine lv_aload_n S.1 S.2.1 dL_worth_57 rfl (lv_at hl 2 rfl) ?_
          refine lv_iload S.1 S.2.1 dL_worth_58 (lv_at hl 7 rfl) ?_
          refine g_ialdR S 4 hK hP rfl (by omega) dL_worth_60 ?_
          refine n_top (show (Wv d) = (nI (ent v d)) from hW d (by omega)) ?_
          refine n_zle S (tgt := 68) (Nat.lt_trans (ent_lt _ _) (by decide)) dL_worth_61 (by decide) (fun c61 => ?_) (fun c61 => ?_)
          · refine lv_lconst (v := lN 0) S.1 S.2.1 dL_worth_68 (by decide) ?_
            exact jn69 0 (by rw [hsh]; exact (shc_0 c61).symm) ls (lv_sub hl [1, 2, 3, 4, 0, 5, 6, 7] rfl)
          · refine lv_lconst (v := lN 1) S.1 S.2.1 dL_worth_64 (by decide) ?_
            refine lv_goto (tgt := 69) S.1 S.2.1 dL_worth_65 (by decide) ?_
            exact jn69 1 (by rw [hsh]; exact (shc_1 c61).symm) ls (lv_sub hl [1, 2, 3, 4, 0, 5, 6, 7] rfl)
        refine lv_lload S.1 S.2.1 dL_worth_21 (lv_at hl 4 rfl) ?_
        refine lv_aload_n S.1 S.2.1 dL_worth_23 rfl (lv_at hl 1 rfl) ?_
        refine lv_iload S.1 S.2.1 dL_worth_24 (lv_at hl 7 rfl) ?_
        refine g_ialdR S 4 hK hP rfl (by omega) dL_worth_26 ?_
        refine n_top (show (Wv d) = (nI (ent v d)) from hW d (by omega)) ?_
        refine n_zle S (tgt := 51) (Nat.lt_trans (ent_lt _ _) (by decide)) dL_worth_27 (by decide) (fun c27 => ?_) (fun c27 => ?_)
        · refine lv_lconst (v := lN 0) S.1 S.2.1 dL_worth_51 (by decide) ?_
          exact jn52 0 (by rw [hk]; have := hfc d; rw [fc_0 (Or.inl c27)]; omega) ls (lv_sub hl [0, 1, 2, 3, 4, 5, 6, 7] rfl)
        · refine lv_iload_n S.1 S.2.1 dL_worth_30 rfl (lv_at hl 3 rfl) ?_
          refine lv_iconst (v := (nI 4)) S.1 S.2.1 dL_worth_31 (by decide) ?_
          refine lv_iload S.1 S.2.1 dL_worth_32 (lv_at hl 7 rfl) ?_
          refine n_mul S dL_worth_34 ?_
          refine lv_aload_n S.1 S.2.1 dL_worth_35 rfl (lv_at hl 1 rfl) ?_
          refine lv_iload S.1 S.2.1 dL_worth_36 (lv_at hl 7 rfl) ?_
          refine g_ialdR S 4 hK hP rfl (by omega) dL_worth_38 ?_
          refine n_top (show (Wv d) = (nI (ent v d)) from hW d (by omega)) ?_
          refine n_add S dL_worth_39 ?_
          refine n_shr S (⟨by have := ent_lt v d; omega, by omega⟩) dL_worth_40 ?_
          refine lv_iconst (v := (nI 1)) S.1 S.2.1 dL_worth_41 (by decide) ?_
          refine n_and S dL_worth_42 ?_
          refine n_top (show (nI ((lk / 2 ^ ((4 * d) + (ent v d))) &&& 1)) = (nI (bit lk (4 * d + ent v d))) from congrArg nI (Nat.and_one_is_mod _)) ?_
          refine lv_iconst (v := (nI 1)) S.1 S.2.1 dL_worth_43 (by decide) ?_
          refine n_cne S (tgt := 51) (⟨Nat.lt_trans (bit_lt _ _) (by decide), by decide⟩) dL_worth_44 (by decide) (fun c44 => ?_) (fun c44 => ?_)
          · refine lv_lconst (v := lN 0) S.1 S.2.1 dL_worth_51 (by decide) ?_
            exact jn52 0 (by rw [hk]; have := hfc d; rw [fc_0 (Or.inr c44)]; omega) ls (lv_sub hl [0, 1, 2, 3, 4, 5, 6, 7] rfl)
          · refine lv_lconst (v := lN 1) S.1 S.2.1 dL_worth_47 (by decide) ?_
            refine lv_goto (tgt := 52) S.1 S.2.1 dL_worth_48 (by decide) ?_
            exact jn52 1 (by rw [hk]; have := hfc d; rw [fc_1 c27 c44]; omega) ls (lv_sub hl [0, 1, 2, 3, 4, 5, 6, 7] rfl)
  exact lp14 _ 0 0 0 0 (Nat.zero_le _) (rfl) (rfl) (rfl) (Nat.lt_succ_self _) ls (lv_sub hl [4, 5, 6, 7, 3, 2, 1, 0] rfl)

theorem pd_L_broken : yL_broken.cls ≠ "java/lang/invoke/MethodHandle" ∧ yL_broken.cls ≠ "java/lang/invoke/VarHandle" ∧ (parseMethodDescriptor yL_broken.desc).map (fun d => d.parameters.length) = some 3 := by decide +kernel
set_option maxHeartbeats 4000000 in
set_option maxRecDepth 100000 in
theorem r_L_broken (l : Launch) (D : va_G) (cT : ClassId × ClassId × ClassId) (z : Nat → Nat) (bd n ro cl fb rn : Nat) (nd sk mo wk fx wi la da we : Nat → Nat) (Wv Bv : Nat → Int32) (i : Nat) (hwf : wfC n bd fb rn nd sk mo wk fx wi la da we) (hi : i < 8) : Met l yL_broken wsL_broken ({ frames := 0, cells := 0, slots := 0, locals := 0 }) (va_Pc [.int (nI i), .ref (z 0), .ref (z 1)] (sx_R D (TY cT) (lX cT z n ro cl fb rn nd sk mo wk fx wi la da we Wv Bv))) (vp_Si (fun r_ => r_ = (nI (brc (wi i) (wk i) 7)))) 0 0 (fun _ => False) := by
  refine rd_start (cc := cL_broken) (maxL := 5) (ret := (some .int)) RL ⟨by decide +kernel, rfl⟩ rfl (Nat.le_of_ble_eq_true rfl) ?_
  intro p0 e0 s0 m0 a0 b0 t0 c0 S hr hlocks hP hK ls hl
  have hl : lv_has ls 5 [(0, .int (nI i)), (1, .ref (z 0)), (2, .ref (z 1))] := hl
  obtain ⟨hn, hcl, hfb, hrn, hnd, hper⟩ := id hwf
  have hpi := hper i
  refine lv_iconst (v := (nI 0)) S.1 S.2.1 dL_broken_0 (by decide) ?_
  refine lv_istore_n (lv' := [(3, .int (nI 0)), (0, .int (nI i)), (1, .ref (z 0)), (2, .ref (z 1))]) S.1 S.2.1 dL_broken_1 rfl hl (by decide) rfl (fun ls hl => ?_)
  refine lv_iconst (v := (nI 0)) S.1 S.2.1 dL_broken_2 (by decide) ?_
  refine lv_istore (lv' := [(4, .int (nI 0)), (3, .int (nI 0)), (0, .int (nI i)), (1, .ref (z 0)), (2, .ref (z 1))]) S.1 S.2.1 dL_broken_3 hl (by decide) rfl (fun ls hl => ?_)
  have lp5 : ∀ (fu : Nat) (f : Nat) (d : Nat), (d ≤ 7) → (f = brc (wi i) (wk i) d) → (7 - d) < fu → ∀ ls : Array Slot, lv_has ls 5 [(0, .int (nI i)), (1, .ref (z 0)), (2, .ref (z 1)), (3, .int (nI f)), (4, .int (nI d))] → W p0 l e0 ({ frames := 0, cells := 0, slots := 0, locals := 0 } : Room) s0 m0 a0 b0 t0 c0 s0.heap [] 0 0 (MQ b0 (vp_Si (fun r_ => r_ = (nI (brc (wi i) (wk i) 7)))) a0 s0 0 0 (fun _ => False)) (F0 m0 5 ls []) := by
    intro fu
    induction fu with
    | zero =>
      intro f d h2 hf hm
      exact absurd hm (Nat.not_lt_zero _)
    | succ fu ih5 =>
      intro f d h2 hf hm ls hl
      refine lv_iload S.1 S.2.1 dL_broken_5 (lv_at hl 4 rfl) ?_
      refine lv_bipush (v := (nI 7)) S.1 S.2.1 dL_broken_7 (by decide) ?_
      refine n_cge S (tgt := 55) (by omega) dL_broken_9 (by decide) (fun c9 => ?_) (fun c9 => ?_)
      · refine lv_iload_n S.1 S.2.1 dL_broken_55 rfl (lv_at hl 3 rfl) ?_
        exact rd_iret S hr rfl hlocks (by rw [hf, show d = 7 by omega]) dL_broken_56
      · refine lv_iload_n S.1 S.2.1 dL_broken_12 rfl (lv_at hl 3 rfl) ?_
        refine lv_aload_n S.1 S.2.1 dL_broken_13 rfl (lv_at hl 2 rfl) ?_
        refine lv_bipush (v := (nI 7)) S.1 S.2.1 dL_broken_14 (by decide) ?_
        refine lv_iload_n S.1 S.2.1 dL_broken_16 rfl (lv_at hl 0 rfl) ?_
        refine n_mul S dL_broken_17 ?_
        refine lv_iload S.1 S.2.1 dL_broken_18 (lv_at hl 4 rfl) ?_
        refine n_add S dL_broken_20 ?_
        refine g_iald S 1 hK hP rfl (by omega) dL_broken_21 ?_
        refine n_top (show (nI ((enf wk) ((7 * i) + d))) = (nI (ent (wk i) d)) from congrArg nI (en_at (by omega))) ?_
        refine n_zle S (tgt := 46) (Nat.lt_trans (ent_lt _ _) (by decide)) dL_broken_22 (by decide) (fun c22 => ?_) (fun c22 => ?_)
        · refine lv_iconst (v := (nI 0)) S.1 S.2.1 dL_broken_46 (by decide) ?_
          refine n_add S dL_broken_47 ?_
          refine lv_istore_n (lv' := [(3, .int (nI (f + 0))), (0, .int (nI i)), (1, .ref (z 0)), (2, .ref (z 1)), (4, .int (nI d))]) S.1 S.2.1 dL_broken_48 rfl hl (by decide) rfl (fun ls hl => ?_)
          refine lv_iinc (v := (nI (d + 1))) (lv' := [(4, .int (nI (d + 1))), (3, .int (nI (f + 0))), (0, .int (nI i)), (1, .ref (z 0)), (2, .ref (z 1))]) S.1 S.2.1 dL_broken_49 hl (k := 4) rfl (nI_1 _) (by decide) rfl (fun ls hl => ?_)
          refine lv_goto (tgt := 5) S.1 S.2.1 dL_broken_52 (by decide) ?_
          exact ih5 (f + 0) (d + 1) (by omega) (by first | (rw [hf]; exact (brk_1 c22 c39).symm) | (rw [hf]; exact (brk_0 (Or.inl c22)).symm) | (rw [hf]; exact (brk_0 (Or.inr c39)).symm)) (by omega) ls (lv_sub hl [2, 3, 4, 1, 0] rfl)
        · refine lv_aload_n S.1 S.2.1 dL_broken_25 rfl (lv_at hl 1 rfl) ?_
          refine lv_bipush (v := (nI 8)) S.1 S.2.1 dL_broken_26 (by decide) ?_
          refine lv_iload_n S.1 S.2.1 dL_broken_28 rfl (lv_at hl 0 rfl) ?_
          refine n_mul S dL_broken_29 ?_
          refine lv_iconst (v := (nI 2)) S.1 S.2.1 dL_broken_30 (by decide) ?_
          refine n_add S dL_broken_31 ?_
          refine g_iald S 0 hK hP rfl (by omega) dL_broken_32 ?_
          refine n_top (show (nI ((hfn sk mo wi la da we) ((8 * i) + 2))) = (nI (wi i)) from congrArg nI hf_2) ?_
          refine lv_iload S.1 S.2.1 dL_broken_33 (lv_at hl 4 rfl) ?_
          refine n_shr S (⟨by omega, by omega⟩) dL_broken_35 ?_
          refine lv_iconst (v := (nI 1)) S.1 S.2.1 dL_broken_36 (by decide) ?_
          refine n_and S dL_broken_37 ?_
          refine n_top (show (nI (((wi i) / 2 ^ d) &&& 1)) = (nI (bit (wi i) d)) from congrArg nI (Nat.and_one_is_mod _)) ?_
          refine lv_iconst (v := (nI 1)) S.1 S.2.1 dL_broken_38 (by decide) ?_
          refine n_cne S (tgt := 46) (⟨Nat.lt_trans (bit_lt _ _) (by decide), by decide⟩) dL_broken_39 (by decide) (fun c39 => ?_) (fun c39 => ?_)
          · refine lv_iconst (v := (nI 0)) S.1 S.2.1 dL_broken_46 (by decide) ?_
            refine n_add S dL_broken_47 ?_
            refine lv_istore_n (lv' := [(3, .int (nI (f + 0))), (0, .int (nI i)), (1, .ref (z 0)), (2, .ref (z 1)), (4, .int (nI d))]) S.1 S.2.1 dL_broken_48 rfl hl (by decide) rfl (fun ls hl => ?_)
            refine lv_iinc (v := (nI (d + 1))) (lv' := [(4, .int (nI (d + 1))), (3, .int (nI (f + 0))), (0, .int (nI i)), (1, .ref (z 0)), (2, .ref (z 1))]) S.1 S.2.1 dL_broken_49 hl (k := 4) rfl (nI_1 _) (by decide) rfl (fun ls hl => ?_)
            refine lv_goto (tgt := 5) S.1 S.2.1 dL_broken_52 (by decide) ?_
            exact ih5 (f + 0) (d + 1) (by omega) (by first | (rw [hf]; exact (brk_1 c22 c39).symm) | (rw [hf]; exact (brk_0 (Or.inl c22)).symm) | (rw [hf]; exact (brk_0 (Or.inr c39)).symm)) (by omega) ls (lv_sub hl [2, 3, 4, 1, 0] rfl)
          · refine lv_iconst (v := (nI 1)) S.1 S.2.1 dL_broken_42 (by decide) ?_
            refine lv_goto (tgt := 47) S.1 S.2.1 dL_broken_43 (by decide) ?_
            refine n_add S dL_broken_47 ?_
            refine lv_istore_n (lv' := [(3, .int (nI (f + 1))), (0, .int (nI i)), (1, .ref (z 0)), (2, .ref (z 1)), (4, .int (nI d))]) S.1 S.2.1 dL_broken_48 rfl hl (by decide) rfl (fun ls hl => ?_)
            refine lv_iinc (v := (nI (d + 1))) (lv' := [(4, .int (nI (d + 1))), (3, .int (nI (f + 1))), (0, .int (nI i)), (1, .ref (z 0)), (2, .ref (z 1))]) S.1 S.2.1 dL_broken_49 hl (k := 4) rfl (nI_1 _) (by decide) rfl (fun ls hl => ?_)
            refine lv_goto (tgt := 5) S.1 S.2.1 dL_broken_52 (by decide) ?_
            exact ih5 (f + 1) (d + 1) (by omega) (by first | (rw [hf]; exact (brk_1 c22 c39).symm) | (rw [hf]; exact (brk_0 (Or.inl c22)).symm) | (rw [hf]; exact (brk_0 (Or.inr c39)).symm)) (by omega) ls (lv_sub hl [2, 3, 4, 1, 0] rfl)
  exact lp5 _ 0 0 (Nat.zero_le _) (rfl) (Nat.lt_succ_self _) ls (lv_sub hl [2, 3, 4, 1, 0] rfl)

theorem pd_L_shifts : yL_shifts.cls ≠ "java/lang/invoke/MethodHandle" ∧ yL_shifts.cls ≠ "java/lang/invoke/VarHandle" ∧ (parseMethodDescriptor yL_shifts.desc).map (fun d => d.parameters.length) = some 2 := by decide +kernel
set_option maxHeartbeats 4000000 in
set_option maxRecDepth 100000 in
theorem r_L_shifts (l : Launch) (D : va_G) (cT : ClassId × ClassId × ClassId) (z : Nat → Nat) (bd n ro cl fb rn : Nat) (nd sk mo wk fx wi la da we : Nat → Nat) (Wv Bv : Nat → Int32) (i : Nat) (hwf : wfC n bd fb rn nd sk mo wk fx wi la da we) (hi : i < 8) : Met l yL_shifts wsL_shifts ({ frames := 0, cells := 0, slots := 0, locals := 0 }) (va_Pc [.int (nI i), .ref (z 1)] (sx_R D (TY cT) (lX cT z n ro cl fb rn nd sk mo wk fx wi la da we Wv Bv))) (vp_Si (fun r_ => r_ = (nI (shc (wk i) 0 7)))) 0 0 (fun _ => False) := by
  refine rd_start (cc := cL_shifts) (maxL := 4) (ret := (some .int)) RL ⟨by decide +kernel, rfl⟩ rfl (Nat.le_of_ble_eq_true rfl) ?_
  intro p0 e0 s0 m0 a0 b0 t0 c0 S hr hlocks hP hK ls hl
  have hl : lv_has ls 4 [(0, .int (nI i)), (1, .ref (z 1))] := hl
  obtain ⟨hn, hcl, hfb, hrn, hnd, hper⟩ := id hwf
  refine lv_iconst (v := (nI 0)) S.1 S.2.1 dL_shifts_0 (by decide) ?_
  refine lv_istore_n (lv' := [(2, .int (nI 0)), (0, .int (nI i)), (1, .ref (z 1))]) S.1 S.2.1 dL_shifts_1 rfl hl (by decide) rfl (fun ls hl => ?_)
  refine lv_iconst (v := (nI 0)) S.1 S.2.1 dL_shifts_2 (by decide) ?_
  refine lv_istore_n (lv' := [(3, .int (nI 0)), (2, .int (nI 0)), (0, .int (nI i)), (1, .ref (z 1))]) S.1 S.2.1 dL_shifts_3 rfl hl (by decide) rfl (fun ls hl => ?_)
  have lp4 : ∀ (fu : Nat) (f : Nat) (d : Nat), (d ≤ 7) → (f = shc (wk i) 0 d) → (7 - d) < fu → ∀ ls : Array Slot, lv_has ls 4 [(0, .int (nI i)), (1, .ref (z 1)), (2, .int (nI f)), (3, .int (nI d))] → W p0 l e0 ({ frames := 0, cells := 0, slots := 0, locals := 0 } : Room) s0 m0 a0 b0 t0 c0 s0.heap [] 0 0 (MQ b0 (vp_Si (fun r_ => r_ = (nI (shc (wk i) 0 7)))) a0 s0 0 0 (fun _ => False)) (F0 m0 4 ls []) := by
    intro fu
    induction fu with
    | zero =>
      intro f d h2 hf hm
      exact absurd hm (Nat.not_lt_zero _)
    | succ fu ih4 =>
      intro f d h2 hf hm ls hl
      refine lv_iload_n S.1 S.2.1 dL_shifts_4 rfl (lv_at hl 3 rfl) ?_
      refine lv_bipush (v := (nI 7)) S.1 S.2.1 dL_shifts_5 (by decide) ?_
      refine n_cge S (tgt := 35) (by omega) dL_shifts_7 (by decide) (fun c7 => ?_) (fun c7 => ?_)
      · refine lv_iload_n S.1 S.2.1 dL_shifts_35 rfl (lv_at hl 2 rfl) ?_
        exact rd_iret S hr rfl hlocks (by rw [hf, show d = 7 by omega]) dL_shifts_36
      · refine lv_iload_n S.1 S.2.1 dL_shifts_10 rfl (lv_at hl 2 rfl) ?_
        refine lv_aload_n S.1 S.2.1 dL_shifts_11 rfl (lv_at hl 1 rfl) ?_
        refine lv_bipush (v := (nI 7)) S.1 S.2.1 dL_shifts_12 (by decide) ?_
        refine lv_iload_n S.1 S.2.1 dL_shifts_14 rfl (lv_at hl 0 rfl) ?_
        refine n_mul S dL_shifts_15 ?_
        refine lv_iload_n S.1 S.2.1 dL_shifts_16 rfl (lv_at hl 3 rfl) ?_
        refine n_add S dL_shifts_17 ?_
        refine g_iald S 1 hK hP rfl (by omega) dL_shifts_18 ?_
        refine n_top (show (nI ((enf wk) ((7 * i) + d))) = (nI (ent (wk i) d)) from congrArg nI (en_at (by omega))) ?_
        refine n_zle S (tgt := 26) (Nat.lt_trans (ent_lt _ _) (by decide)) dL_shifts_19 (by decide) (fun c19 => ?_) (fun c19 => ?_)
        · refine lv_iconst (v := (nI 0)) S.1 S.2.1 dL_shifts_26 (by decide) ?_
          refine n_add S dL_shifts_27 ?_
          refine lv_istore_n (lv' := [(2, .int (nI (f + 0))), (0, .int (nI i)), (1, .ref (z 1)), (3, .int (nI d))]) S.1 S.2.1 dL_shifts_28 rfl hl (by decide) rfl (fun ls hl => ?_)
          refine lv_iinc (v := (nI (d + 1))) (lv' := [(3, .int (nI (d + 1))), (2, .int (nI (f + 0))), (0, .int (nI i)), (1, .ref (z 1))]) S.1 S.2.1 dL_shifts_29 hl (k := 3) rfl (nI_1 _) (by decide) rfl (fun ls hl => ?_)
          refine lv_goto (tgt := 4) S.1 S.2.1 dL_shifts_32 (by decide) ?_
          exact ih4 (f + 0) (d + 1) (by omega) (by first | (rw [hf]; exact (shc_1 c19).symm) | (rw [hf]; exact (shc_0 c19).symm)) (by omega) ls (lv_sub hl [2, 3, 1, 0] rfl)
        · refine lv_iconst (v := (nI 1)) S.1 S.2.1 dL_shifts_22 (by decide) ?_
          refine lv_goto (tgt := 27) S.1 S.2.1 dL_shifts_23 (by decide) ?_
          refine n_add S dL_shifts_27 ?_
          refine lv_istore_n (lv' := [(2, .int (nI (f + 1))), (0, .int (nI i)), (1, .ref (z 1)), (3, .int (nI d))]) S.1 S.2.1 dL_shifts_28 rfl hl (by decide) rfl (fun ls hl => ?_)
          refine lv_iinc (v := (nI (d + 1))) (lv' := [(3, .int (nI (d + 1))), (2, .int (nI (f + 1))), (0, .int (nI i)), (1, .ref (z 1))]) S.1 S.2.1 dL_shifts_29 hl (k := 3) rfl (nI_1 _) (by decide) rfl (fun ls hl => ?_)
          refine lv_goto (tgt := 4) S.1 S.2.1 dL_shifts_32 (by decide) ?_
          exact ih4 (f + 1) (d + 1) (by omega) (by first | (rw [hf]; exact (shc_1 c19).symm) | (rw [hf]; exact (shc_0 c19).symm)) (by omega) ls (lv_sub hl [2, 3, 1, 0] rfl)
  exact lp4 _ 0 0 (Nat.zero_le _) (rfl) (Nat.lt_succ_self _) ls (lv_sub hl [2, 3, 1, 0] rfl)

theorem pd_L_bound : yL_bound.cls ≠ "java/lang/invoke/MethodHandle" ∧ yL_bound.cls ≠ "java/lang/invoke/VarHandle" ∧ (parseMethodDescriptor yL_bound.desc).map (fun d => d.parameters.length) = some 3 := by decide +kernel
set_option maxHeartbeats 4000000 in
set_option maxRecDepth 100000 in
theorem r_L_bound (l : Launch) (D : va_G) (cT : ClassId × ClassId × ClassId) (z : Nat → Nat) (bd n ro cl fb rn : Nat) (nd sk mo wk fx wi la da we : Nat → Nat) (Wv Bv : Nat → Int32) (hwf : wfC n bd fb rn nd sk mo wk fx wi la da we) : Met l yL_bound wsL_bound ({ frames := 0, cells := 0, slots := 0, locals := 0 }) (va_Pc [.ref (z 0), .ref (z 3), .ref (z 6)] (sx_R D (TY cT) (lX cT z n ro cl fb rn nd sk mo wk fx wi la da we Wv Bv))) (vp_Si (fun r_ => r_ = (nI (bnd n nd sk 7)))) 0 0 (fun _ => False) := by
  refine rd_start (cc := cL_bound) (maxL := 9) (ret := (some .int)) RL ⟨by decide +kernel, rfl⟩ rfl (Nat.le_of_ble_eq_true rfl) ?_
  intro p0 e0 s0 m0 a0 b0 t0 c0 S hr hlocks hP hK ls hl
  have hl : lv_has ls 9 [(0, .ref (z 0)), (1, .ref (z 3)), (2, .ref (z 6))] := hl
  obtain ⟨hn, hcl, hfb, hrn, hnd, hper⟩ := id hwf
  refine lv_iconst (v := (nI 0)) S.1 S.2.1 dL_bound_0 (by decide) ?_
  refine lv_istore_n (lv' := [(3, .int (nI 0)), (0, .ref (z 0)), (1, .ref (z 3)), (2, .ref (z 6))]) S.1 S.2.1 dL_bound_1 rfl hl (by decide) rfl (fun ls hl => ?_)
  refine lv_iconst (v := (nI 0)) S.1 S.2.1 dL_bound_2 (by decide) ?_
  refine lv_istore (lv' := [(4, .int (nI 0)), (3, .int (nI 0)), (0, .ref (z 0)), (1, .ref (z 3)), (2, .ref (z 6))]) S.1 S.2.1 dL_bound_3 hl (by decide) rfl (fun ls hl => ?_)
  have lp5 : ∀ (fu : Nat) (su : Nat) (d : Nat), (d ≤ 7) → (su = bnd n nd sk d) → (7 - d) < fu → ∀ ls : Array Slot, lv_has ls 9 [(0, .ref (z 0)), (1, .ref (z 3)), (2, .ref (z 6)), (3, .int (nI su)), (4, .int (nI d))] → W p0 l e0 ({ frames := 0, cells := 0, slots := 0, locals := 0 } : Room) s0 m0 a0 b0 t0 c0 s0.heap [] 0 0 (MQ b0 (vp_Si (fun r_ => r_ = (nI (bnd n nd sk 7)))) a0 s0 0 0 (fun _ => False)) (F0 m0 5 ls []) := by
    intro fu
    induction fu with
    | zero =>
      intro su d h2 hs hm
      exact absurd hm (Nat.not_lt_zero _)
    | succ fu ih5 =>
      intro su d h2 hs hm ls hl
      refine lv_iload S.1 S.2.1 dL_bound_5 (lv_at hl 4 rfl) ?_
      refine lv_bipush (v := (nI 7)) S.1 S.2.1 dL_bound_7 (by decide) ?_
      refine n_cge S (tgt := 138) (by omega) dL_bound_9 (by decide) (fun c9 => ?_) (fun c9 => ?_)
      · refine lv_iload_n S.1 S.2.1 dL_bound_138 rfl (lv_at hl 3 rfl) ?_
        exact rd_iret S hr rfl hlocks (by rw [hs, show d = 7 by omega]) dL_bound_139
      · refine lv_iconst (v := (nI 0)) S.1 S.2.1 dL_bound_12 (by decide) ?_
        refine lv_istore (lv' := [(5, .int (nI 0)), (0, .ref (z 0)), (1, .ref (z 3)), (2, .ref (z 6)), (3, .int (nI su)), (4, .int (nI d))]) S.1 S.2.1 dL_bound_13 hl (by decide) rfl (fun ls hl => ?_)
        refine lv_iconst (v := (nI 2)) S.1 S.2.1 dL_bound_15 (by decide) ?_
        refine lv_istore (lv' := [(6, .int (nI 2)), (5, .int (nI 0)), (0, .ref (z 0)), (1, .ref (z 3)), (2, .ref (z 6)), (3, .int (nI su)), (4, .int (nI d))]) S.1 S.2.1 dL_bound_16 hl (by decide) rfl (fun ls hl => ?_)
        have lp18 : ∀ (fu : Nat) (le : Nat) (j1 : Nat), (j1 ≤ 7) → (le = lks n nd sk d (j1 + 1)) → (7 - j1) < fu → ∀ ls : Array Slot, lv_has ls 9 [(0, .ref (z 0)), (1, .ref (z 3)), (2, .ref (z 6)), (3, .int (nI su)), (4, .int (nI d)), (5, .int (nI le)), (6, .int (nI (2 * (j1 + 1))))] → W p0 l e0 ({ frames := 0, cells := 0, slots := 0, locals := 0 } : Room) s0 m0 a0 b0 t0 c0 s0.heap [] 0 0 (MQ b0 (vp_Si (fun r_ => r_ = (nI (bnd n nd sk 7)))) a0 s0 0 0 (fun _ => False)) (F0 m0 18 ls []) := by
          intro fu
          induction fu with
          | zero =>
            intro le j1 h5 hle hm
            exact absurd hm (Nat.not_lt_zero _)
          | succ fu ih18 =>
            intro le j1 h5 hle hm ls hl
            have hlq := lks_le (n := n) (sk := sk) hnd d (j1 + 1)
            refine lv_iload S.1 S.2.1 dL_bound_18 (lv_at hl 6 rfl) ?_
            refine lv_bipush (v := (nI 16)) S.1 S.2.1 dL_bound_20 (by decide) ?_
            refine n_cge S (tgt := 127) (by omega) dL_bound_22 (by decide) (fun c22 => ?_) (fun c22 => ?_)
            · refine lv_iload_n S.1 S.2.1 dL_bound_127 rfl (lv_at hl 3 rfl) ?_
              refine lv_iload S.1 S.2.1 dL_bound_128 (lv_at hl 5 rfl) ?_
              refine n_add S dL_bound_130 ?_
              refine lv_istore_n (lv' := [(3, .int (nI (su + le))), (0, .ref (z 0)), (1, .ref (z 3)), (2, .ref (z 6)), (4, .int (nI d)), (5, .int (nI le)), (6, .int (nI (2 * (j1 + 1))))]) S.1 S.2.1 dL_bound_131 rfl hl (by decide) rfl (fun ls hl => ?_)
              refine lv_iinc (v := (nI (d + 1))) (lv' := [(4, .int (nI (d + 1))), (3, .int (nI (su + le))), (0, .ref (z 0)), (1, .ref (z 3)), (2, .ref (z 6)), (5, .int (nI le)), (6, .int (nI (2 * (j1 + 1))))]) S.1 S.2.1 dL_bound_132 hl (k := 4) rfl (nI_1 _) (by decide) rfl (fun ls hl => ?_)
              refine lv_goto (tgt := 5) S.1 S.2.1 dL_bound_135 (by decide) ?_
              exact ih5 (su + le) (d + 1) (by omega) (by rw [hs, hle, show j1 = 7 by omega]; rfl) (by omega) ls (lv_sub hl [2, 3, 4, 1, 0] rfl)
            · refine lv_iconst (v := (nI 0)) S.1 S.2.1 dL_bound_25 (by decide) ?_
              refine lv_istore (lv' := [(7, .int (nI 0)), (0, .ref (z 0)), (1, .ref (z 3)), (2, .ref (z 6)), (3, .int (nI su)), (4, .int (nI d)), (5, .int (nI le)), (6, .int (nI (2 * (j1 + 1))))]) S.1 S.2.1 dL_bound_26 hl (by decide) rfl (fun ls hl => ?_)
              refine lv_iconst (v := (nI 1)) S.1 S.2.1 dL_bound_28 (by decide) ?_
              refine lv_istore (lv' := [(8, .int (nI 1)), (7, .int (nI 0)), (0, .ref (z 0)), (1, .ref (z 3)), (2, .ref (z 6)), (3, .int (nI su)), (4, .int (nI d)), (5, .int (nI le)), (6, .int (nI (2 * (j1 + 1))))]) S.1 S.2.1 dL_bound_29 hl (by decide) rfl (fun ls hl => ?_)
              have lp31 : ∀ (fu : Nat) (x : Nat) (i : Nat), (i ≤ 3) → (x = nks nd d (2 * (j1 + 1)) i) → (3 - i) < fu → ∀ ls : Array Slot, lv_has ls 9 [(0, .ref (z 0)), (1, .ref (z 3)), (2, .ref (z 6)), (3, .int (nI su)), (4, .int (nI d)), (5, .int (nI le)), (6, .int (nI (2 * (j1 + 1)))), (7, .int (nI x)), (8, .int (nI (i + 1)))] → W p0 l e0 ({ frames := 0, cells := 0, slots := 0, locals := 0 } : Room) s0 m0 a0 b0 t0 c0 s0.heap [] 0 0 (MQ b0 (vp_Si (fun r_ => r_ = (nI (bnd n nd sk 7)))) a0 s0 0 0 (fun _ => False)) (F0 m0 31 ls []) := by
                intro fu
                induction fu with
                | zero =>
                  intro x i h3 hx hm
                  exact absurd hm (Nat.not_lt_zero _)
                | succ fu ih31 =>
                  intro x i h3 hx hm ls hl
                  have hnk := nks_le hnd d (2 * (j1 + 1)) i
                  refine lv_iload S.1 S.2.1 dL_bound_31 (lv_at hl 8 rfl) ?_
                  refine lv_iconst (v := (nI 4)) S.1 S.2.1 dL_bound_33 (by decide) ?_
                  refine n_cge S (tgt := 65) (by omega) dL_bound_34 (by decide) (fun c34 => ?_) (fun c34 => ?_)
                  · rw [show nI x = nI x - nI 0 from (Int32.sub_zero _).symm] at hl
                    refine lv_iconst (v := (nI 0)) S.1 S.2.1 dL_bound_65 (by decide) ?_
                    refine lv_istore (lv' := [(8, .int (nI 0)), (0, .ref (z 0)), (1, .ref (z 3)), (2, .ref (z 6)), (3, .int (nI su)), (4, .int (nI d)), (5, .int (nI le)), (6, .int (nI (2 * (j1 + 1)))), (7, .int (nI x - nI 0))]) S.1 S.2.1 dL_bound_66 hl (by decide) rfl (fun ls hl => ?_)
                    have lp68 : ∀ (fu : Nat) (k : Nat) (v : Nat), (v ≤ n) → (k = pw n sk (2 * (j1 + 1)) v) → (n - v) < fu → ∀ ls : Array Slot, lv_has ls 9 [(0, .ref (z 0)), (1, .ref (z 3)), (2, .ref (z 6)), (3, .int (nI su)), (4, .int (nI d)), (5, .int (nI le)), (6, .int (nI (2 * (j1 + 1)))), (7, .int (nI x - nI k)), (8, .int (nI v))] → W p0 l e0 ({ frames := 0, cells := 0, slots := 0, locals := 0 } : Room) s0 m0 a0 b0 t0 c0 s0.heap [] 0 0 (MQ b0 (vp_Si (fun r_ => r_ = (nI (bnd n nd sk 7)))) a0 s0 0 0 (fun _ => False)) (F0 m0 68 ls []) := by
                      intro fu
                      induction fu with
                      | zero =>
                        intro k v h4 hk hm
                        exact absurd hm (Nat.not_lt_zero _)
                      | succ fu ih68 =>
                        intro k v h4 hk hm ls hl
                        have hpv := hper v
                        have hpw := pw_le n sk (2 * (j1 + 1)) v
                        refine lv_iload S.1 S.2.1 dL_bound_68 (lv_at hl 8 rfl) ?_
                        refine lv_aload_n S.1 S.2.1 dL_bound_70 rfl (lv_at hl 2 rfl) ?_
                        refine lv_iconst (v := (nI 0)) S.1 S.2.1 dL_bound_71 (by decide) ?_
                        refine g_iald S 6 hK hP rfl (by omega) dL_bound_72 ?_
                        refine n_top (show (nI ((qfn n cl ro) 0)) = (nI n) from rfl) ?_
                        refine n_cge S (tgt := 105) (by omega) dL_bound_73 (by decide) (fun c73 => ?_) (fun c73 => ?_)
                        · refine lv_iload S.1 S.2.1 dL_bound_105 (lv_at hl 7 rfl) ?_
                          refine lv_iload S.1 S.2.1 dL_bound_107 (lv_at hl 5 rfl) ?_
                          refine lv_icmp_le (tgt := 117) S.1 S.2.1 dL_bound_109 (by decide) (fun c109 => ?_) (fun c109 => ?_)
                          · refine lv_iload S.1 S.2.1 dL_bound_117 (lv_at hl 5 rfl) ?_
                            refine n_top (show (nI le) = nI (lks n nd sk d (j1 + 1 + 1)) from by rw [mx_1 ⟨by omega, by omega, by omega⟩ c109, hk, show v = n by omega, pw_8 hn, hx, show i = 3 by omega, hle]; rfl) ?_
                            refine lv_istore (lv' := [(5, .int (nI (lks n nd sk d (j1 + 1 + 1)))), (0, .ref (z 0)), (1, .ref (z 3)), (2, .ref (z 6)), (3, .int (nI su)), (4, .int (nI d)), (6, .int (nI (2 * (j1 + 1)))), (7, .int (nI x - nI k)), (8, .int (nI v))]) S.1 S.2.1 dL_bound_119 hl (by decide) rfl (fun ls hl => ?_)
                            refine lv_iinc (v := (nI (2 * (j1 + 1 + 1)))) (lv' := [(6, .int (nI (2 * (j1 + 1 + 1)))), (5, .int (nI (lks n nd sk d (j1 + 1 + 1)))), (0, .ref (z 0)), (1, .ref (z 3)), (2, .ref (z 6)), (3, .int (nI su)), (4, .int (nI d)), (7, .int (nI x - nI k)), (8, .int (nI v))]) S.1 S.2.1 dL_bound_121 hl (k := 6) rfl (nI_add (2 * (j1 + 1)) 2) (by decide) rfl (fun ls hl => ?_)
                            refine lv_goto (tgt := 18) S.1 S.2.1 dL_bound_124 (by decide) ?_
                            exact ih18 (lks n nd sk d (j1 + 1 + 1)) (j1 + 1) (by omega) (rfl) (by omega) ls (lv_sub hl [2, 3, 4, 5, 6, 1, 0] rfl)
                          · refine lv_iload S.1 S.2.1 dL_bound_112 (lv_at hl 7 rfl) ?_
                            refine lv_goto (tgt := 119) S.1 S.2.1 dL_bound_114 (by decide) ?_
                            refine n_top (show (nI x - nI k) = nI (lks n nd sk d (j1 + 1 + 1)) from by rw [mx_2 ⟨by omega, by omega, by omega⟩ c109, hk, show v = n by omega, pw_8 hn, hx, show i = 3 by omega, hle]; rfl) ?_
                            refine lv_istore (lv' := [(5, .int (nI (lks n nd sk d (j1 + 1 + 1)))), (0, .ref (z 0)), (1, .ref (z 3)), (2, .ref (z 6)), (3, .int (nI su)), (4, .int (nI d)), (6, .int (nI (2 * (j1 + 1)))), (7, .int (nI x - nI k)), (8, .int (nI v))]) S.1 S.2.1 dL_bound_119 hl (by decide) rfl (fun ls hl => ?_)
                            refine lv_iinc (v := (nI (2 * (j1 + 1 + 1)))) (lv' := [(6, .int (nI (2 * (j1 + 1 + 1)))), (5, .int (nI (lks n nd sk d (j1 + 1 + 1)))), (0, .ref (z 0)), (1, .ref (z 3)), (2, .ref (z 6)), (3, .int (nI su)), (4, .int (nI d)), (7, .int (nI x - nI k)), (8, .int (nI v))]) S.1 S.2.1 dL_bound_121 hl (k := 6) rfl (nI_add (2 * (j1 + 1)) 2) (by decide) rfl (fun ls hl => ?_)
                            refine lv_goto (tgt := 18) S.1 S.2.1 dL_bound_124 (by decide) ?_
                            exact ih18 (lks n nd sk d (j1 + 1 + 1)) (j1 + 1) (by omega) (rfl) (by omega) ls (lv_sub hl [2, 3, 4, 5, 6, 1, 0] rfl)
                        · refine lv_iload S.1 S.2.1 dL_bound_76 (lv_at hl 7 rfl) ?_
                          refine lv_aload_n S.1 S.2.1 dL_bound_78 rfl (lv_at hl 0 rfl) ?_
                          refine lv_bipush (v := (nI 8)) S.1 S.2.1 dL_bound_79 (by decide) ?_
                          refine lv_iload S.1 S.2.1 dL_bound_81 (lv_at hl 8 rfl) ?_
                          refine n_mul S dL_bound_83 ?_
                          refine g_iald S 0 hK hP rfl (by omega) dL_bound_84 ?_
                          refine n_top (show (nI ((hfn sk mo wi la da we) (8 * v))) = (nI (sk v)) from congrArg nI hf_0) ?_
                          refine lv_iload S.1 S.2.1 dL_bound_85 (lv_at hl 6 rfl) ?_
                          refine n_and S dL_bound_87 ?_
                          refine n_zne S (tgt := 95) (Nat.lt_of_le_of_lt Nat.and_le_left (by omega)) dL_bound_88 (by decide) (fun c88 => ?_) (fun c88 => ?_)
                          · refine lv_iconst (v := (nI 1)) S.1 S.2.1 dL_bound_95 (by decide) ?_
                            refine lv_isub S.1 S.2.1 dL_bound_96 ?_
                            refine n_top (show ((nI x - nI k) - (nI 1)) = (nI x - nI (k + 1)) from dif_sub _ 1 _) ?_
                            refine lv_istore (lv' := [(7, .int (nI x - nI (k + 1))), (0, .ref (z 0)), (1, .ref (z 3)), (2, .ref (z 6)), (3, .int (nI su)), (4, .int (nI d)), (5, .int (nI le)), (6, .int (nI (2 * (j1 + 1)))), (8, .int (nI v))]) S.1 S.2.1 dL_bound_97 hl (by decide) rfl (fun ls hl => ?_)
                            refine lv_iinc (v := (nI (v + 1))) (lv' := [(8, .int (nI (v + 1))), (7, .int (nI x - nI (k + 1))), (0, .ref (z 0)), (1, .ref (z 3)), (2, .ref (z 6)), (3, .int (nI su)), (4, .int (nI d)), (5, .int (nI le)), (6, .int (nI (2 * (j1 + 1))))]) S.1 S.2.1 dL_bound_99 hl (k := 8) rfl (nI_1 _) (by decide) rfl (fun ls hl => ?_)
                            refine lv_goto (tgt := 68) S.1 S.2.1 dL_bound_102 (by decide) ?_
                            exact ih68 (k + 1) (v + 1) (by omega) (by first | (rw [hk]; exact (pw_1 ⟨c73, c88⟩).symm) | (rw [hk]; exact (pw_0 (fun q => q.2 c88)).symm)) (by omega) ls (lv_sub hl [2, 3, 4, 5, 6, 7, 8, 1, 0] rfl)
                          · refine lv_iconst (v := (nI 0)) S.1 S.2.1 dL_bound_91 (by decide) ?_
                            refine lv_goto (tgt := 96) S.1 S.2.1 dL_bound_92 (by decide) ?_
                            refine lv_isub S.1 S.2.1 dL_bound_96 ?_
                            refine n_top (show ((nI x - nI k) - (nI 0)) = (nI x - nI k) from Int32.sub_zero _) ?_
                            refine lv_istore (lv' := [(7, .int (nI x - nI k)), (0, .ref (z 0)), (1, .ref (z 3)), (2, .ref (z 6)), (3, .int (nI su)), (4, .int (nI d)), (5, .int (nI le)), (6, .int (nI (2 * (j1 + 1)))), (8, .int (nI v))]) S.1 S.2.1 dL_bound_97 hl (by decide) rfl (fun ls hl => ?_)
                            refine lv_iinc (v := (nI (v + 1))) (lv' := [(8, .int (nI (v + 1))), (7, .int (nI x - nI k)), (0, .ref (z 0)), (1, .ref (z 3)), (2, .ref (z 6)), (3, .int (nI su)), (4, .int (nI d)), (5, .int (nI le)), (6, .int (nI (2 * (j1 + 1))))]) S.1 S.2.1 dL_bound_99 hl (k := 8) rfl (nI_1 _) (by decide) rfl (fun ls hl => ?_)
                            refine lv_goto (tgt := 68) S.1 S.2.1 dL_bound_102 (by decide) ?_
                            exact ih68 k (v + 1) (by omega) (by first | (rw [hk]; exact (pw_1 ⟨c73, c88⟩).symm) | (rw [hk]; exact (pw_0 (fun q => q.2 c88)).symm)) (by omega) ls (lv_sub hl [2, 3, 4, 5, 6, 7, 8, 1, 0] rfl)
                    exact lp68 _ 0 0 (Nat.zero_le _) (rfl) (Nat.lt_succ_self _) ls (lv_sub hl [1, 2, 3, 4, 5, 6, 7, 8, 0] rfl)
                  · refine lv_iload S.1 S.2.1 dL_bound_37 (lv_at hl 7 rfl) ?_
                    refine lv_iload S.1 S.2.1 dL_bound_39 (lv_at hl 6 rfl) ?_
                    refine lv_iload S.1 S.2.1 dL_bound_41 (lv_at hl 8 rfl) ?_
                    refine n_shr S (⟨by omega, by omega⟩) dL_bound_43 ?_
                    refine lv_iconst (v := (nI 1)) S.1 S.2.1 dL_bound_44 (by decide) ?_
                    refine n_and S dL_bound_45 ?_
                    refine n_top (show (nI (((2 * (j1 + 1)) / 2 ^ (i + 1)) &&& 1)) = (nI (bit (2 * (j1 + 1)) (i + 1))) from congrArg nI (Nat.and_one_is_mod _)) ?_
                    refine lv_aload_n S.1 S.2.1 dL_bound_46 rfl (lv_at hl 1 rfl) ?_
                    refine lv_iconst (v := (nI 4)) S.1 S.2.1 dL_bound_47 (by decide) ?_
                    refine lv_iload S.1 S.2.1 dL_bound_48 (lv_at hl 4 rfl) ?_
                    refine n_mul S dL_bound_50 ?_
                    refine lv_iload S.1 S.2.1 dL_bound_51 (lv_at hl 8 rfl) ?_
                    refine n_add S dL_bound_53 ?_
                    refine g_iald S 3 hK hP rfl (by omega) dL_bound_54 ?_
                    refine n_top (show (nI ((nfn fb rn nd) ((4 * d) + (i + 1)))) = (nI (nd (d * 4 + (i + 1)))) from congrArg nI (by rw [nf_n (by omega), Nat.mul_comm 4 d])) ?_
                    refine n_mul S dL_bound_55 ?_
                    refine n_add S dL_bound_56 ?_
                    refine lv_istore (lv' := [(7, .int (nI (x + ((bit (2 * (j1 + 1)) (i + 1)) * (nd (d * 4 + (i + 1))))))), (0, .ref (z 0)), (1, .ref (z 3)), (2, .ref (z 6)), (3, .int (nI su)), (4, .int (nI d)), (5, .int (nI le)), (6, .int (nI (2 * (j1 + 1)))), (8, .int (nI (i + 1)))]) S.1 S.2.1 dL_bound_57 hl (by decide) rfl (fun ls hl => ?_)
                    refine lv_iinc (v := (nI (i + 1 + 1))) (lv' := [(8, .int (nI (i + 1 + 1))), (7, .int (nI (x + ((bit (2 * (j1 + 1)) (i + 1)) * (nd (d * 4 + (i + 1))))))), (0, .ref (z 0)), (1, .ref (z 3)), (2, .ref (z 6)), (3, .int (nI su)), (4, .int (nI d)), (5, .int (nI le)), (6, .int (nI (2 * (j1 + 1))))]) S.1 S.2.1 dL_bound_59 hl (k := 8) rfl (nI_1 _) (by decide) rfl (fun ls hl => ?_)
                    refine lv_goto (tgt := 31) S.1 S.2.1 dL_bound_62 (by decide) ?_
                    exact ih31 (x + ((bit (2 * (j1 + 1)) (i + 1)) * (nd (d * 4 + (i + 1))))) (i + 1) (by omega) (by rw [hx]; rfl) (by omega) ls (lv_sub hl [2, 3, 4, 5, 6, 7, 8, 1, 0] rfl)
              exact lp31 _ 0 0 (Nat.zero_le _) (rfl) (Nat.lt_succ_self _) ls (lv_sub hl [2, 3, 4, 5, 6, 7, 8, 1, 0] rfl)
        exact lp18 _ 0 0 (Nat.zero_le _) (lks_1.symm) (Nat.lt_succ_self _) ls (lv_sub hl [2, 3, 4, 5, 6, 1, 0] rfl)
  exact lp5 _ 0 0 (Nat.zero_le _) (rfl) (Nat.lt_succ_self _) ls (lv_sub hl [2, 3, 4, 1, 0] rfl)

