/-! the law's cases: one call each, of the law's own arrays and of the desk -/
theorem ws_id {w d : Nat} : wset w d (ent w d) = w := by
  rw [wset_eq]; exact (w_cut w (2 * (6 - d))).symm
theorem up_all {P : Nat → Prop} {f : Nat → Nat} {j v : Nat} (h : ∀ i, P (f i)) (hv : P v) (i : Nat) : P (va_up f j v i) := by
  by_cases q : i = j
  · rw [q, vu_s]; exact hv
  · rw [vu_n q]; exact h i
theorem inj_D {A : Nat → Prop} {X : va_W} {n : Nat} {pa : Nat → Nat} {P : Nat → va_E} (hD : va_D A (X ++ pool n pa P)) : inj n pa := by
  intro i j hi hj h
  have := hD.1 _ _ _ _ (pool_at (X := X) (P := P) hi) (pool_at (X := X) (P := P) hj) h
  omega
/-- what stands through the law -/
def LA (p : Program) (s : State) (m : MethodId) (meth : Method) (c : Code) (b L : Nat) (xs : Nat → Int32) (D : va_G) (cT : ClassId × ClassId × ClassId) : Prop :=
  CallFix p m c cL_law 19 s #[Value.ref b] wsL_law RL ∧ L ≤ 260 ∧ va_X b L xs s s.heap ∧ b < s.heap.size ∧ KN D (TY cT) s ∧ XS (fun q => s.heap.size ≤ q) s s.heap
abbrev AL (s : State) : Nat → Prop := fun q => s.heap.size ≤ q
section LAWC
variable {p0 : Program} {l : Launch} {e0 : Env} {s0 : State} {m0 : MethodId} {b0 : List Frame} {t0 : Method} {c0 : Code} {bb L : Nat} {xs : Nat → Int32} {D : va_G} {cT : ClassId × ClassId × ClassId} {Q0 : State → Prop} {H : Heap} {locs : List Loc} {cells slots : Nat} {ls : Array Slot}
variable {z c pa : Nat → Nat} {bd a6 a7 n ro cl fb rn : Nat} {nd sk mo wk fx wi la da we : Nat → Nat} {Wv Bv : Nat → Int32} {V V2 PR : Nat → Int64} {tn act p dy : Nat} {zz : Int32}

set_option maxHeartbeats 4000000 in
set_option maxRecDepth 100000 in
theorem lc_addPerson (X : LA p0 s0 m0 t0 c0 bb L xs D cT) (hcs0 : cells ≤ room_1.cells ∧ slots ≤ room_1.slots) (hroom : cells + 1 ≤ room_1.cells ∧ slots + 8 ≤ room_1.slots) (hwf : wfC n bd fb rn nd sk mo wk fx wi la da we) (hz : ∀ k, k < 4 → bit fb k = 0) (h0 : ∀ j, n ≤ j → wk j = 0 ∧ wi j = 0 ∧ la j = 0 ∧ da j = 0 ∧ we j = 0 ∧ fx j = 0) (hn8 : n < 8) (hP : va_P D vwCl (lX cT z n ro cl fb rn nd sk mo wk fx wi la da we Wv Bv ++ (cX cT c a6 a7 n ro cl fb rn nd V V2 PR pa ++ pool n pa (per sk mo wk fx wi la da we))) H) (hD : va_D (AL s0) (lX cT z n ro cl fb rn nd sk mo wk fx wi la da we Wv Bv ++ (cX cT c a6 a7 n ro cl fb rn nd V V2 PR pa ++ pool n pa (per sk mo wk fx wi la da we)))) (hS : va_S (AL s0) s0.heap H locs) (hl : lv_has ls 19 [(0, .ref bb), (1, .ref (c 0)), (2, .ref (z 0)), (3, .ref (z 1)), (4, .ref (z 2)), (5, .ref (z 3)), (6, .ref (z 4)), (7, .ref (z 5)), (8, .ref (z 6)), (9, .int (nI tn)), (10, .int zz), (11, .int (nI act)), (12, .int (nI p)), (13, .int (nI dy)), (14, .int (nI 0)), (15, .int (nI 0))]) (kk : ∀ (v : Nat) (mm : Nat) (u9 : Nat) , (v ≤ 14) → (mm ≤ 7) → ∀ (H : Heap) (locs : List Loc), va_P D vwCl (lX cT z (n + 1) ro cl fb rn nd (va_up sk n v) (va_up mo n mm) wk fx wi la da we Wv Bv ++ (cX cT c a6 a7 (n + 1) ro cl fb rn nd V V2 PR (va_up pa n u9) ++ pool (n + 1) (va_up pa n u9) (per (va_up sk n v) (va_up mo n mm) wk fx wi la da we))) H → va_D (AL s0) (lX cT z (n + 1) ro cl fb rn nd (va_up sk n v) (va_up mo n mm) wk fx wi la da we Wv Bv ++ (cX cT c a6 a7 (n + 1) ro cl fb rn nd V V2 PR (va_up pa n u9) ++ pool (n + 1) (va_up pa n u9) (per (va_up sk n v) (va_up mo n mm) wk fx wi la da we))) → va_S (AL s0) s0.heap H locs → ∀ ls : Array Slot, lv_has ls 19 [(0, .ref bb), (1, .ref (c 0)), (2, .ref (z 0)), (3, .ref (z 1)), (4, .ref (z 2)), (5, .ref (z 3)), (6, .ref (z 4)), (7, .ref (z 5)), (8, .ref (z 6)), (9, .int (nI tn)), (10, .int zz), (14, .int (nI n)), (15, .int (nI n))] → W p0 l e0 room_1 s0 m0 #[Value.ref bb] b0 t0 c0 H locs (cells + 1) (slots + 8) Q0 (F0 m0 1009 ls [])) : W p0 l e0 room_1 s0 m0 #[Value.ref bb] b0 t0 c0 H locs cells slots Q0 (F0 m0 184 ls []) := by
  obtain ⟨S, hL, hX, hbl, hK, hXS⟩ := id X
  have hA : ∀ q : Nat, s0.heap.size ≤ q → AL s0 q := fun _ h => h
  have hinj : inj n pa := inj_D (X := cX cT c a6 a7 n ro cl fb rn nd V V2 PR pa) (fr_Dr hD)
  obtain ⟨hn, hcl, hfb, hrn, hnd, hper⟩ := id hwf
  refine lv_aload_n S.1 S.2.1 dL_law_184 rfl (lv_at hl 2 rfl) ?_
  refine lv_bipush (v := (nI 8)) S.1 S.2.1 dL_law_185 (by decide) ?_
  refine lv_aload S.1 S.2.1 dL_law_187 (lv_at hl 8 rfl) ?_
  refine lv_iconst (v := (nI 0)) S.1 S.2.1 dL_law_189 (by decide) ?_
  refine g_iald S 6 hK hP rfl (by omega) dL_law_190 ?_
  refine n_top (show (nI ((qfn n cl ro) 0)) = (nI n) from rfl) ?_
  refine n_mul S dL_law_191 ?_
  refine lv_iconst (v := (nI 2)) S.1 S.2.1 dL_law_192 (by decide) ?_
  refine lv_iconst (v := (nI 2)) S.1 S.2.1 dL_law_193 (by decide) ?_
  refine lv_iload S.1 S.2.1 dL_law_194 (lv_at hl 10 rfl) ?_
  refine lv_iconst (v := (nI 5)) S.1 S.2.1 dL_law_196 (by decide) ?_
  refine lv_ishr S.1 S.2.1 dL_law_197 ?_
  refine lv_bipush (v := (nI 7)) S.1 S.2.1 dL_law_198 (by decide) ?_
  refine rd_callS (rest := [.int (nI 2), .int (nI 2), .int (nI (8 * n)), .ref (z 0)]) S (r_L_low l D cT (zz >>> ((nI 5) &&& 31)) 7 (by omega)) gL_law_L_low rfl pd_L_low ⟨rfl, rfl, Nat.le_of_ble_eq_true rfl, Nat.le_of_ble_eq_true rfl⟩ (sx_P0 D _) hK hl rfl rfl (Nat.le_of_ble_eq_true rfl) hcs0 dL_law_200 ?_
  have hj7 := Nat.mod_lt (lowb (zz >>> ((nI 5) &&& 31))) (show 7 > 0 from by omega)
  generalize lowb (zz >>> ((nI 5) &&& 31)) % 7 = j7 at hj7 ⊢
  refine n_mul S dL_law_203 ?_
  refine n_add S dL_law_204 ?_
  obtain ⟨v, hv, ev⟩ : ∃ v, (2 ≤ v ∧ v ≤ 14 ∧ v % 2 = 0) ∧ 2 + 2 * j7 = v := ⟨2 + 2 * j7, by omega, rfl⟩
  refine n_top (show (nI (2 + (2 * j7))) = nI v from congrArg nI ev) ?_
  refine w_iast S 0 hK hP hD hS rfl (by omega) dL_law_205 (fun H locs hP hD hS => ?_)
  have hP : va_P D vwCl (lX cT z n ro cl fb rn nd (va_up sk n v) mo wk fx wi la da we Wv Bv ++ (cX cT c a6 a7 n ro cl fb rn nd V V2 PR pa ++ pool n pa (per sk mo wk fx wi la da we))) H := by rw [hf_u0 (i := n) (v := v)] at hP; exact hP
  have hD : va_D (AL s0) (lX cT z n ro cl fb rn nd (va_up sk n v) mo wk fx wi la da we Wv Bv ++ (cX cT c a6 a7 n ro cl fb rn nd V V2 PR pa ++ pool n pa (per sk mo wk fx wi la da we))) := by rw [hf_u0 (i := n) (v := v)] at hD; exact hD
  refine lv_aload_n S.1 S.2.1 dL_law_206 rfl (lv_at hl 2 rfl) ?_
  refine lv_bipush (v := (nI 8)) S.1 S.2.1 dL_law_207 (by decide) ?_
  refine lv_aload S.1 S.2.1 dL_law_209 (lv_at hl 8 rfl) ?_
  refine lv_iconst (v := (nI 0)) S.1 S.2.1 dL_law_211 (by decide) ?_
  refine g_iald S 6 hK hP rfl (by omega) dL_law_212 ?_
  refine n_top (show (nI ((qfn n cl ro) 0)) = (nI n) from rfl) ?_
  refine n_mul S dL_law_213 ?_
  refine lv_iconst (v := (nI 1)) S.1 S.2.1 dL_law_214 (by decide) ?_
  refine n_add S dL_law_215 ?_
  refine lv_iload S.1 S.2.1 dL_law_216 (lv_at hl 10 rfl) ?_
  refine lv_bipush (v := (nI 8)) S.1 S.2.1 dL_law_218 (by decide) ?_
  refine lv_ishr S.1 S.2.1 dL_law_220 ?_
  refine lv_iconst (v := (nI 4)) S.1 S.2.1 dL_law_221 (by decide) ?_
  refine rd_callS (rest := [.int (nI ((8 * n) + 1)), .ref (z 0)]) S (r_L_low l D cT (zz >>> ((nI 8) &&& 31)) 4 (by omega)) gL_law_L_low rfl pd_L_low ⟨rfl, rfl, Nat.le_of_ble_eq_true rfl, Nat.le_of_ble_eq_true rfl⟩ (sx_P0 D _) hK hl rfl rfl (Nat.le_of_ble_eq_true rfl) hcs0 dL_law_222 ?_
  have hja := Nat.mod_lt (lowb (zz >>> ((nI 8) &&& 31))) (show 4 > 0 from by omega)
  generalize lowb (zz >>> ((nI 8) &&& 31)) % 4 = ja at hja ⊢
  refine n_zne S (tgt := 241) (by omega) dL_law_225 (by decide) (fun c225 => ?_) (fun c225 => ?_)
  · refine lv_iconst (v := (nI 4)) S.1 S.2.1 dL_law_241 (by decide) ?_
    refine lv_iload S.1 S.2.1 dL_law_242 (lv_at hl 10 rfl) ?_
    refine lv_bipush (v := (nI 10)) S.1 S.2.1 dL_law_244 (by decide) ?_
    refine lv_ishr S.1 S.2.1 dL_law_246 ?_
    refine lv_iconst (v := (nI 3)) S.1 S.2.1 dL_law_247 (by decide) ?_
    refine rd_callS (rest := [.int (nI 4), .int (nI ((8 * n) + 1)), .ref (z 0)]) S (r_L_low l D cT (zz >>> ((nI 10) &&& 31)) 3 (by omega)) gL_law_L_low rfl pd_L_low ⟨rfl, rfl, Nat.le_of_ble_eq_true rfl, Nat.le_of_ble_eq_true rfl⟩ (sx_P0 D _) hK hl rfl rfl (Nat.le_of_ble_eq_true rfl) hcs0 dL_law_248 ?_
    have hjc := Nat.mod_lt (lowb (zz >>> ((nI 10) &&& 31))) (show 3 > 0 from by omega)
    generalize lowb (zz >>> ((nI 10) &&& 31)) % 3 = jc at hjc ⊢
    refine n_add S dL_law_251 ?_
    obtain ⟨mm, hmm, em⟩ : ∃ mm, mm ≤ 7 ∧ 4 + jc = mm := ⟨4 + jc, by omega, rfl⟩
    refine n_top (show nI (4 + jc) = nI mm from congrArg nI em) ?_
    refine w_iast S 0 hK hP hD hS rfl (by omega) dL_law_252 (fun H locs hP hD hS => ?_)
    have hP : va_P D vwCl (lX cT z n ro cl fb rn nd (va_up sk n v) (va_up mo n mm) wk fx wi la da we Wv Bv ++ (cX cT c a6 a7 n ro cl fb rn nd V V2 PR pa ++ pool n pa (per sk mo wk fx wi la da we))) H := by rw [hf_u1 (i := n) (v := mm)] at hP; exact hP
    have hD : va_D (AL s0) (lX cT z n ro cl fb rn nd (va_up sk n v) (va_up mo n mm) wk fx wi la da we Wv Bv ++ (cX cT c a6 a7 n ro cl fb rn nd V V2 PR pa ++ pool n pa (per sk mo wk fx wi la da we))) := by rw [hf_u1 (i := n) (v := mm)] at hD; exact hD
    refine lv_aload S.1 S.2.1 dL_law_253 (lv_at hl 8 rfl) ?_
    refine lv_iconst (v := (nI 0)) S.1 S.2.1 dL_law_255 (by decide) ?_
    refine g_iald S 6 hK hP rfl (by omega) dL_law_256 ?_
    refine n_top (show (nI ((qfn n cl ro) 0)) = (nI n) from rfl) ?_
    refine lv_istore (lv' := [(14, .int (nI n)), (0, .ref bb), (1, .ref (c 0)), (2, .ref (z 0)), (3, .ref (z 1)), (4, .ref (z 2)), (5, .ref (z 3)), (6, .ref (z 4)), (7, .ref (z 5)), (8, .ref (z 6)), (9, .int (nI tn)), (10, .int zz), (11, .int (nI act)), (12, .int (nI p)), (13, .int (nI dy)), (15, .int (nI 0))]) S.1 S.2.1 dL_law_257 hl (by decide) rfl (fun ls hl => ?_)
    refine lv_aload S.1 S.2.1 dL_law_259 (lv_at hl 9 rfl) ?_
    refine lv_iconst (v := (nI 0)) S.1 S.2.1 dL_law_261 (by decide) ?_
    refine lv_dup2_11 S.1 S.2.1 dL_law_262 rfl rfl ?_
    refine g_iald S 6 hK hP rfl (by omega) dL_law_263 ?_
    refine n_top (show (nI ((qfn n cl ro) 0)) = (nI n) from rfl) ?_
    refine lv_iconst (v := (nI 1)) S.1 S.2.1 dL_law_264 (by decide) ?_
    refine n_add S dL_law_265 ?_
    refine w_iast S 6 hK hP hD hS rfl (by omega) dL_law_266 (fun H locs hP hD hS => ?_)
    have hP : va_P D vwCl (lX cT z (n + 1) ro cl fb rn nd (va_up sk n v) (va_up mo n mm) wk fx wi la da we Wv Bv ++ (cX cT c a6 a7 n ro cl fb rn nd V V2 PR pa ++ pool n pa (per sk mo wk fx wi la da we))) H := by rw [qf_u0] at hP; exact hP
    have hD : va_D (AL s0) (lX cT z (n + 1) ro cl fb rn nd (va_up sk n v) (va_up mo n mm) wk fx wi la da we Wv Bv ++ (cX cT c a6 a7 n ro cl fb rn nd V V2 PR pa ++ pool n pa (per sk mo wk fx wi la da we))) := by rw [qf_u0] at hD; exact hD
    refine lv_aload_n S.1 S.2.1 dL_law_267 rfl (lv_at hl 2 rfl) ?_
    refine lv_iconst (v := (nI 0)) S.1 S.2.1 dL_law_268 (by decide) ?_
    refine lv_aload_n S.1 S.2.1 dL_law_269 rfl (lv_at hl 3 rfl) ?_
    refine lv_bipush (v := (nI 8)) S.1 S.2.1 dL_law_270 (by decide) ?_
    refine lv_iload S.1 S.2.1 dL_law_272 (lv_at hl 0 rfl) ?_
    refine n_mul S dL_law_274 ?_
    refine g_iald S 0 hK hP rfl (by omega) dL_law_275 ?_
    refine n_top (show (nI ((hfn (va_up sk n v) (va_up mo n mm) wi la da we) (8 * n))) = (nI v) from congrArg nI (hf_0.trans vu_s)) ?_
    refine lv_aload_n S.1 S.2.1 dL_law_276 rfl (lv_at hl 3 rfl) ?_
    refine lv_bipush (v := (nI 8)) S.1 S.2.1 dL_law_277 (by decide) ?_
    refine lv_iload S.1 S.2.1 dL_law_279 (lv_at hl 0 rfl) ?_
    refine n_mul S dL_law_281 ?_
    refine lv_iconst (v := (nI 1)) S.1 S.2.1 dL_law_282 (by decide) ?_
    refine n_add S dL_law_283 ?_
    refine g_iald S 0 hK hP rfl (by omega) dL_law_284 ?_
    refine n_top (show (nI ((hfn (va_up sk n v) (va_up mo n mm) wi la da we) ((8 * n) + 1))) = (nI mm) from congrArg nI (hf_1.trans vu_s)) ?_
    refine lv_iconst (v := (nI 0)) S.1 S.2.1 dL_law_285 (by decide) ?_
    refine fr2_callSx (As := [.ref (c 0), .int (nI 0), .int (nI v), .int (nI mm), .int (nI 0)]) (rest := []) S (co_addPerson l D cT _ (c 0) (nI v) (nI mm) (nI 0) (fun sz => w_X8_addPerson l D cT sz c pa bd a6 a7 n ro cl fb rn nd sk mo wk fx wi la da we V V2 PR v mm hwf hv hmm hn8 ⟨(h0 n (Nat.le_refl n)).1, (h0 n (Nat.le_refl n)).2.1, (h0 n (Nat.le_refl n)).2.2.1, (h0 n (Nat.le_refl n)).2.2.2.1, (h0 n (Nat.le_refl n)).2.2.2.2.1⟩) ⟨rfl, rfl, by decide, by decide⟩ ⟨by decide, by decide⟩ rfl) gL_law_L_calls rfl pd_L_calls ⟨rfl, rfl, Nat.le_of_ble_eq_true rfl, Nat.le_of_ble_eq_true rfl⟩ hP hK (XS.law hXS hS) hD hS hA hl rfl rfl (Nat.le_of_ble_eq_true rfl) hroom dL_law_286 (fun r_ u9 H locs hr_ hP hD hS => ?_)
    subst hr_
    have hP : va_P D vwCl (lX cT z (n + 1) ro cl fb rn nd (va_up sk n v) (va_up mo n mm) wk fx wi la da we Wv Bv ++ (cX cT c a6 a7 (n + 1) ro cl fb rn nd V V2 PR (va_up pa n u9) ++ pool (n + 1) (va_up pa n u9) (per (va_up sk n v) (va_up mo n mm) wk (va_up fx n 0) wi la da we))) H := hP
    have hD : va_D (AL s0) (lX cT z (n + 1) ro cl fb rn nd (va_up sk n v) (va_up mo n mm) wk fx wi la da we Wv Bv ++ (cX cT c a6 a7 (n + 1) ro cl fb rn nd V V2 PR (va_up pa n u9) ++ pool (n + 1) (va_up pa n u9) (per (va_up sk n v) (va_up mo n mm) wk (va_up fx n 0) wi la da we))) := hD
    have ef : va_up fx n 0 = fx := by have e := (h0 n (Nat.le_refl n)).2.2.2.2.2; rw [← e]; exact vu_id
    rw [ef] at hP hD
    have hP : va_P D vwCl (lX cT z (n + 1) ro cl fb rn nd (va_up sk n v) (va_up mo n mm) wk fx wi la da we Wv Bv ++ (cX cT c a6 a7 (n + 1) ro cl fb rn nd V V2 PR (va_up pa n u9) ++ pool (n + 1) (va_up pa n u9) (per (va_up sk n v) (va_up mo n mm) wk fx wi la da we))) H := hP
    have hD : va_D (AL s0) (lX cT z (n + 1) ro cl fb rn nd (va_up sk n v) (va_up mo n mm) wk fx wi la da we Wv Bv ++ (cX cT c a6 a7 (n + 1) ro cl fb rn nd V V2 PR (va_up pa n u9) ++ pool (n + 1) (va_up pa n u9) (per (va_up sk n v) (va_up mo n mm) wk fx wi la da we))) := hD
    refine lv_istore (lv' := [(15, .int (nI n)), (14, .int (nI n)), (0, .ref bb), (1, .ref (c 0)), (2, .ref (z 0)), (3, .ref (z 1)), (4, .ref (z 2)), (5, .ref (z 3)), (6, .ref (z 4)), (7, .ref (z 5)), (8, .ref (z 6)), (9, .int (nI tn)), (10, .int zz), (11, .int (nI act)), (12, .int (nI p)), (13, .int (nI dy))]) S.1 S.2.1 dL_law_289 hl (by decide) rfl (fun ls hl => ?_)
    refine lv_goto (tgt := 1009) S.1 S.2.1 dL_law_291 (by decide) ?_
    refine W.widen (k := cells + 1) (n := slots + 8) (by omega) (by omega) ?_
    exact kk v mm u9 (hv.2.1) (hmm) H locs hP hD hS ls (lv_sub hl [2, 3, 4, 5, 6, 7, 8, 9, 10, 11, 12, 1, 0] rfl)
  · refine lv_iload S.1 S.2.1 dL_law_228 (lv_at hl 10 rfl) ?_
    refine lv_bipush (v := (nI 10)) S.1 S.2.1 dL_law_230 (by decide) ?_
    refine lv_ishr S.1 S.2.1 dL_law_232 ?_
    refine lv_bipush (v := (nI 8)) S.1 S.2.1 dL_law_233 (by decide) ?_
    refine rd_callS (rest := [.int (nI ((8 * n) + 1)), .ref (z 0)]) S (r_L_low l D cT (zz >>> ((nI 10) &&& 31)) 8 (by omega)) gL_law_L_low rfl pd_L_low ⟨rfl, rfl, Nat.le_of_ble_eq_true rfl, Nat.le_of_ble_eq_true rfl⟩ (sx_P0 D _) hK hl rfl rfl (Nat.le_of_ble_eq_true rfl) hcs0 dL_law_235 ?_
    have hjb := Nat.mod_lt (lowb (zz >>> ((nI 10) &&& 31))) (show 8 > 0 from by omega)
    generalize lowb (zz >>> ((nI 10) &&& 31)) % 8 = jb at hjb ⊢
    refine lv_goto (tgt := 252) S.1 S.2.1 dL_law_238 (by decide) ?_
    obtain ⟨mm, hmm, em⟩ : ∃ mm, mm ≤ 7 ∧ jb = mm := ⟨jb, by omega, rfl⟩
    refine n_top (show nI (jb) = nI mm from congrArg nI em) ?_
    refine w_iast S 0 hK hP hD hS rfl (by omega) dL_law_252 (fun H locs hP hD hS => ?_)
    have hP : va_P D vwCl (lX cT z n ro cl fb rn nd (va_up sk n v) (va_up mo n mm) wk fx wi la da we Wv Bv ++ (cX cT c a6 a7 n ro cl fb rn nd V V2 PR pa ++ pool n pa (per sk mo wk fx wi la da we))) H := by rw [hf_u1 (i := n) (v := mm)] at hP; exact hP
    have hD : va_D (AL s0) (lX cT z n ro cl fb rn nd (va_up sk n v) (va_up mo n mm) wk fx wi la da we Wv Bv ++ (cX cT c a6 a7 n ro cl fb rn nd V V2 PR pa ++ pool n pa (per sk mo wk fx wi la da we))) := by rw [hf_u1 (i := n) (v := mm)] at hD; exact hD
    refine lv_aload S.1 S.2.1 dL_law_253 (lv_at hl 8 rfl) ?_
    refine lv_iconst (v := (nI 0)) S.1 S.2.1 dL_law_255 (by decide) ?_
    refine g_iald S 6 hK hP rfl (by omega) dL_law_256 ?_
    refine n_top (show (nI ((qfn n cl ro) 0)) = (nI n) from rfl) ?_
    refine lv_istore (lv' := [(14, .int (nI n)), (0, .ref bb), (1, .ref (c 0)), (2, .ref (z 0)), (3, .ref (z 1)), (4, .ref (z 2)), (5, .ref (z 3)), (6, .ref (z 4)), (7, .ref (z 5)), (8, .ref (z 6)), (9, .int (nI tn)), (10, .int zz), (11, .int (nI act)), (12, .int (nI p)), (13, .int (nI dy)), (15, .int (nI 0))]) S.1 S.2.1 dL_law_257 hl (by decide) rfl (fun ls hl => ?_)
    refine lv_aload S.1 S.2.1 dL_law_259 (lv_at hl 9 rfl) ?_
    refine lv_iconst (v := (nI 0)) S.1 S.2.1 dL_law_261 (by decide) ?_
    refine lv_dup2_11 S.1 S.2.1 dL_law_262 rfl rfl ?_
    refine g_iald S 6 hK hP rfl (by omega) dL_law_263 ?_
    refine n_top (show (nI ((qfn n cl ro) 0)) = (nI n) from rfl) ?_
    refine lv_iconst (v := (nI 1)) S.1 S.2.1 dL_law_264 (by decide) ?_
    refine n_add S dL_law_265 ?_
    refine w_iast S 6 hK hP hD hS rfl (by omega) dL_law_266 (fun H locs hP hD hS => ?_)
    have hP : va_P D vwCl (lX cT z (n + 1) ro cl fb rn nd (va_up sk n v) (va_up mo n mm) wk fx wi la da we Wv Bv ++ (cX cT c a6 a7 n ro cl fb rn nd V V2 PR pa ++ pool n pa (per sk mo wk fx wi la da we))) H := by rw [qf_u0] at hP; exact hP
    have hD : va_D (AL s0) (lX cT z (n + 1) ro cl fb rn nd (va_up sk n v) (va_up mo n mm) wk fx wi la da we Wv Bv ++ (cX cT c a6 a7 n ro cl fb rn nd V V2 PR pa ++ pool n pa (per sk mo wk fx wi la da we))) := by rw [qf_u0] at hD; exact hD
    refine lv_aload_n S.1 S.2.1 dL_law_267 rfl (lv_at hl 2 rfl) ?_
    refine lv_iconst (v := (nI 0)) S.1 S.2.1 dL_law_268 (by decide) ?_
    refine lv_aload_n S.1 S.2.1 dL_law_269 rfl (lv_at hl 3 rfl) ?_
    refine lv_bipush (v := (nI 8)) S.1 S.2.1 dL_law_270 (by decide) ?_
    refine lv_iload S.1 S.2.1 dL_law_272 (lv_at hl 0 rfl) ?_
    refine n_mul S dL_law_274 ?_
    refine g_iald S 0 hK hP rfl (by omega) dL_law_275 ?_
    refine n_top (show (nI ((hfn (va_up sk n v) (va_up mo n mm) wi la da we) (8 * n))) = (nI v) from congrArg nI (hf_0.trans vu_s)) ?_
    refine lv_aload_n S.1 S.2.1 dL_law_276 rfl (lv_at hl 3 rfl) ?_
    refine lv_bipush (v := (nI 8)) S.1 S.2.1 dL_law_277 (by decide) ?_
    refine lv_iload S.1 S.2.1 dL_law_279 (lv_at hl 0 rfl) ?_
    refine n_mul S dL_law_281 ?_
    refine lv_iconst (v := (nI 1)) S.1 S.2.1 dL_law_282 (by decide) ?_
    refine n_add S dL_law_283 ?_
    refine g_iald S 0 hK hP rfl (by omega) dL_law_284 ?_
    refine n_top (show (nI ((hfn (va_up sk n v) (va_up mo n mm) wi la da we) ((8 * n) + 1))) = (nI mm) from congrArg nI (hf_1.trans vu_s)) ?_
    refine lv_iconst (v := (nI 0)) S.1 S.2.1 dL_law_285 (by decide) ?_
    refine fr2_callSx (As := [.ref (c 0), .int (nI 0), .int (nI v), .int (nI mm), .int (nI 0)]) (rest := []) S (co_addPerson l D cT _ (c 0) (nI v) (nI mm) (nI 0) (fun sz => w_X8_addPerson l D cT sz c pa bd a6 a7 n ro cl fb rn nd sk mo wk fx wi la da we V V2 PR v mm hwf hv hmm hn8 ⟨(h0 n (Nat.le_refl n)).1, (h0 n (Nat.le_refl n)).2.1, (h0 n (Nat.le_refl n)).2.2.1, (h0 n (Nat.le_refl n)).2.2.2.1, (h0 n (Nat.le_refl n)).2.2.2.2.1⟩) ⟨rfl, rfl, by decide, by decide⟩ ⟨by decide, by decide⟩ rfl) gL_law_L_calls rfl pd_L_calls ⟨rfl, rfl, Nat.le_of_ble_eq_true rfl, Nat.le_of_ble_eq_true rfl⟩ hP hK (XS.law hXS hS) hD hS hA hl rfl rfl (Nat.le_of_ble_eq_true rfl) hroom dL_law_286 (fun r_ u9 H locs hr_ hP hD hS => ?_)
    subst hr_
    have hP : va_P D vwCl (lX cT z (n + 1) ro cl fb rn nd (va_up sk n v) (va_up mo n mm) wk fx wi la da we Wv Bv ++ (cX cT c a6 a7 (n + 1) ro cl fb rn nd V V2 PR (va_up pa n u9) ++ pool (n + 1) (va_up pa n u9) (per (va_up sk n v) (va_up mo n mm) wk (va_up fx n 0) wi la da we))) H := hP
    have hD : va_D (AL s0) (lX cT z (n + 1) ro cl fb rn nd (va_up sk n v) (va_up mo n mm) wk fx wi la da we Wv Bv ++ (cX cT c a6 a7 (n + 1) ro cl fb rn nd V V2 PR (va_up pa n u9) ++ pool (n + 1) (va_up pa n u9) (per (va_up sk n v) (va_up mo n mm) wk (va_up fx n 0) wi la da we))) := hD
    have ef : va_up fx n 0 = fx := by have e := (h0 n (Nat.le_refl n)).2.2.2.2.2; rw [← e]; exact vu_id
    rw [ef] at hP hD
    have hP : va_P D vwCl (lX cT z (n + 1) ro cl fb rn nd (va_up sk n v) (va_up mo n mm) wk fx wi la da we Wv Bv ++ (cX cT c a6 a7 (n + 1) ro cl fb rn nd V V2 PR (va_up pa n u9) ++ pool (n + 1) (va_up pa n u9) (per (va_up sk n v) (va_up mo n mm) wk fx wi la da we))) H := hP
    have hD : va_D (AL s0) (lX cT z (n + 1) ro cl fb rn nd (va_up sk n v) (va_up mo n mm) wk fx wi la da we Wv Bv ++ (cX cT c a6 a7 (n + 1) ro cl fb rn nd V V2 PR (va_up pa n u9) ++ pool (n + 1) (va_up pa n u9) (per (va_up sk n v) (va_up mo n mm) wk fx wi la da we))) := hD
    refine lv_istore (lv' := [(15, .int (nI n)), (14, .int (nI n)), (0, .ref bb), (1, .ref (c 0)), (2, .ref (z 0)), (3, .ref (z 1)), (4, .ref (z 2)), (5, .ref (z 3)), (6, .ref (z 4)), (7, .ref (z 5)), (8, .ref (z 6)), (9, .int (nI tn)), (10, .int zz), (11, .int (nI act)), (12, .int (nI p)), (13, .int (nI dy))]) S.1 S.2.1 dL_law_289 hl (by decide) rfl (fun ls hl => ?_)
    refine lv_goto (tgt := 1009) S.1 S.2.1 dL_law_291 (by decide) ?_
    refine W.widen (k := cells + 1) (n := slots + 8) (by omega) (by omega) ?_
    exact kk v mm u9 (hv.2.1) (hmm) H locs hP hD hS ls (lv_sub hl [2, 3, 4, 5, 6, 7, 8, 9, 10, 11, 12, 1, 0] rfl)

set_option maxHeartbeats 4000000 in
set_option maxRecDepth 100000 in
theorem lc_setNeed (X : LA p0 s0 m0 t0 c0 bb L xs D cT) (hcs0 : cells ≤ room_1.cells ∧ slots ≤ room_1.slots) (hroom : cells + 1 ≤ room_1.cells ∧ slots + 8 ≤ room_1.slots) (hwf : wfC n bd fb rn nd sk mo wk fx wi la da we) (hz : ∀ k, k < 4 → bit fb k = 0) (h0 : ∀ j, n ≤ j → wk j = 0 ∧ wi j = 0 ∧ la j = 0 ∧ da j = 0 ∧ we j = 0 ∧ fx j = 0) (hdy : dy < 7) (hP : va_P D vwCl (lX cT z n ro cl fb rn nd sk mo wk fx wi la da we Wv Bv ++ (cX cT c a6 a7 n ro cl fb rn nd V V2 PR pa ++ pool n pa (per sk mo wk fx wi la da we))) H) (hD : va_D (AL s0) (lX cT z n ro cl fb rn nd sk mo wk fx wi la da we Wv Bv ++ (cX cT c a6 a7 n ro cl fb rn nd V V2 PR pa ++ pool n pa (per sk mo wk fx wi la da we)))) (hS : va_S (AL s0) s0.heap H locs) (hl : lv_has ls 19 [(0, .ref bb), (1, .ref (c 0)), (2, .ref (z 0)), (3, .ref (z 1)), (4, .ref (z 2)), (5, .ref (z 3)), (6, .ref (z 4)), (7, .ref (z 5)), (8, .ref (z 6)), (9, .int (nI tn)), (10, .int zz), (11, .int (nI act)), (12, .int (nI p)), (13, .int (nI dy)), (14, .int (nI 0)), (15, .int (nI 0))]) (kk : ∀ (kd : Nat) (v4 : Nat) , (1 ≤ kd ∧ kd < 4) → (v4 < 4) → ∀ (H : Heap) (locs : List Loc), va_P D vwCl (lX cT z n ro cl fb rn (va_up nd (dy * 4 + kd) v4) sk mo wk fx wi la da we Wv Bv ++ (cX cT c a6 a7 n ro cl fb rn (va_up nd (dy * 4 + kd) v4) V V2 PR pa ++ pool n pa (per sk mo wk fx wi la da we))) H → va_D (AL s0) (lX cT z n ro cl fb rn (va_up nd (dy * 4 + kd) v4) sk mo wk fx wi la da we Wv Bv ++ (cX cT c a6 a7 n ro cl fb rn (va_up nd (dy * 4 + kd) v4) V V2 PR pa ++ pool n pa (per sk mo wk fx wi la da we))) → va_S (AL s0) s0.heap H locs → ∀ ls : Array Slot, lv_has ls 19 [(0, .ref bb), (1, .ref (c 0)), (2, .ref (z 0)), (3, .ref (z 1)), (4, .ref (z 2)), (5, .ref (z 3)), (6, .ref (z 4)), (7, .ref (z 5)), (8, .ref (z 6)), (9, .int (nI tn)), (10, .int zz), (14, .int (nI (nd (dy * 4 + kd)))), (15, .int (nI (nd (dy * 4 + kd))))] → W p0 l e0 room_1 s0 m0 #[Value.ref bb] b0 t0 c0 H locs (cells + 1) (slots + 8) Q0 (F0 m0 1009 ls [])) : W p0 l e0 room_1 s0 m0 #[Value.ref bb] b0 t0 c0 H locs cells slots Q0 (F0 m0 301 ls []) := by
  obtain ⟨S, hL, hX, hbl, hK, hXS⟩ := id X
  have hA : ∀ q : Nat, s0.heap.size ≤ q → AL s0 q := fun _ h => h
  have hinj : inj n pa := inj_D (X := cX cT c a6 a7 n ro cl fb rn nd V V2 PR pa) (fr_Dr hD)
  obtain ⟨hn, hcl, hfb, hrn, hnd, hper⟩ := id hwf
  refine lv_iconst (v := (nI 4)) S.1 S.2.1 dL_law_301 (by decide) ?_
  refine lv_iload S.1 S.2.1 dL_law_302 (lv_at hl 13 rfl) ?_
  refine n_mul S dL_law_304 ?_
  refine lv_iconst (v := (nI 1)) S.1 S.2.1 dL_law_305 (by decide) ?_
  refine n_add S dL_law_306 ?_
  refine lv_iload S.1 S.2.1 dL_law_307 (lv_at hl 10 rfl) ?_
  refine lv_bipush (v := (nI 11)) S.1 S.2.1 dL_law_309 (by decide) ?_
  refine lv_ishr S.1 S.2.1 dL_law_311 ?_
  refine lv_iconst (v := (nI 3)) S.1 S.2.1 dL_law_312 (by decide) ?_
  refine rd_callS (rest := [.int (nI ((4 * dy) + 1))]) S (r_L_low l D cT (zz >>> ((nI 11) &&& 31)) 3 (by omega)) gL_law_L_low rfl pd_L_low ⟨rfl, rfl, Nat.le_of_ble_eq_true rfl, Nat.le_of_ble_eq_true rfl⟩ (sx_P0 D _) hK hl rfl rfl (Nat.le_of_ble_eq_true rfl) hcs0 dL_law_313 ?_
  have hj3 := Nat.mod_lt (lowb (zz >>> ((nI 11) &&& 31))) (show 3 > 0 from by omega)
  generalize lowb (zz >>> ((nI 11) &&& 31)) % 3 = j3 at hj3 ⊢
  refine n_add S dL_law_316 ?_
  obtain ⟨kd, hkd, ekd⟩ : ∃ kd, (1 ≤ kd ∧ kd < 4) ∧ 4 * dy + 1 + j3 = dy * 4 + kd := ⟨1 + j3, by omega, by omega⟩
  refine n_top (show (nI (((4 * dy) + 1) + j3)) = nI (dy * 4 + kd) from congrArg nI ekd) ?_
  refine lv_istore (lv' := [(16, .int (nI (dy * 4 + kd))), (0, .ref bb), (1, .ref (c 0)), (2, .ref (z 0)), (3, .ref (z 1)), (4, .ref (z 2)), (5, .ref (z 3)), (6, .ref (z 4)), (7, .ref (z 5)), (8, .ref (z 6)), (9, .int (nI tn)), (10, .int zz), (11, .int (nI act)), (12, .int (nI p)), (13, .int (nI dy)), (14, .int (nI 0)), (15, .int (nI 0))]) S.1 S.2.1 dL_law_317 hl (by decide) rfl (fun ls hl => ?_)
  refine lv_aload S.1 S.2.1 dL_law_319 (lv_at hl 6 rfl) ?_
  refine lv_iload S.1 S.2.1 dL_law_321 (lv_at hl 0 rfl) ?_
  refine g_iald S 3 hK hP rfl (by omega) dL_law_323 ?_
  refine n_top (show (nI ((nfn fb rn nd) (dy * 4 + kd))) = (nI (nd (dy * 4 + kd))) from congrArg nI (nf_n (by omega))) ?_
  refine lv_istore (lv' := [(14, .int (nI (nd (dy * 4 + kd)))), (16, .int (nI (dy * 4 + kd))), (0, .ref bb), (1, .ref (c 0)), (2, .ref (z 0)), (3, .ref (z 1)), (4, .ref (z 2)), (5, .ref (z 3)), (6, .ref (z 4)), (7, .ref (z 5)), (8, .ref (z 6)), (9, .int (nI tn)), (10, .int zz), (11, .int (nI act)), (12, .int (nI p)), (13, .int (nI dy)), (15, .int (nI 0))]) S.1 S.2.1 dL_law_324 hl (by decide) rfl (fun ls hl => ?_)
  refine lv_aload S.1 S.2.1 dL_law_326 (lv_at hl 7 rfl) ?_
  refine lv_iload S.1 S.2.1 dL_law_328 (lv_at hl 1 rfl) ?_
  refine lv_iload S.1 S.2.1 dL_law_330 (lv_at hl 12 rfl) ?_
  refine lv_iconst (v := (nI 5)) S.1 S.2.1 dL_law_332 (by decide) ?_
  refine lv_ishr S.1 S.2.1 dL_law_333 ?_
  refine lv_iconst (v := (nI 4)) S.1 S.2.1 dL_law_334 (by decide) ?_
  refine rd_callS (rest := [.int (nI (dy * 4 + kd)), .ref (z 3)]) S (r_L_low l D cT (zz >>> ((nI 5) &&& 31)) 4 (by omega)) gL_law_L_low rfl pd_L_low ⟨rfl, rfl, Nat.le_of_ble_eq_true rfl, Nat.le_of_ble_eq_true rfl⟩ (sx_P0 D _) hK hl rfl rfl (Nat.le_of_ble_eq_true rfl) hcs0 dL_law_335 ?_
  have hv4 := Nat.mod_lt (lowb (zz >>> ((nI 5) &&& 31))) (show 4 > 0 from by omega)
  generalize lowb (zz >>> ((nI 5) &&& 31)) % 4 = v4 at hv4 ⊢
  refine w_iast S 3 hK hP hD hS rfl (by omega) dL_law_338 (fun H locs hP hD hS => ?_)
  have hP : va_P D vwCl (lX cT z n ro cl fb rn (va_up nd (dy * 4 + kd) v4) sk mo wk fx wi la da we Wv Bv ++ (cX cT c a6 a7 n ro cl fb rn nd V V2 PR pa ++ pool n pa (per sk mo wk fx wi la da we))) H := by rw [nf_un (nd := nd) (k := dy * 4 + kd) (v := v4) (by omega)] at hP; exact hP
  have hD : va_D (AL s0) (lX cT z n ro cl fb rn (va_up nd (dy * 4 + kd) v4) sk mo wk fx wi la da we Wv Bv ++ (cX cT c a6 a7 n ro cl fb rn nd V V2 PR pa ++ pool n pa (per sk mo wk fx wi la da we))) := by rw [nf_un (nd := nd) (k := dy * 4 + kd) (v := v4) (by omega)] at hD; exact hD
  refine lv_aload_n S.1 S.2.1 dL_law_339 rfl (lv_at hl 3 rfl) ?_
  refine lv_iload S.1 S.2.1 dL_law_340 (lv_at hl 15 rfl) ?_
  refine lv_iload S.1 S.2.1 dL_law_342 (lv_at hl 1 rfl) ?_
  refine lv_iconst (v := (nI 4)) S.1 S.2.1 dL_law_344 (by decide) ?_
  refine n_rem S (by omega) dL_law_345 ?_
  refine n_top (show (nI ((dy * 4 + kd) % 4)) = (nI kd) from congrArg nI (by omega)) ?_
  refine lv_aload S.1 S.2.1 dL_law_346 (lv_at hl 7 rfl) ?_
  refine lv_iload S.1 S.2.1 dL_law_348 (lv_at hl 1 rfl) ?_
  refine g_iald S 3 hK hP rfl (by omega) dL_law_350 ?_
  refine n_top (show (nI ((nfn fb rn (va_up nd (dy * 4 + kd) v4)) (dy * 4 + kd))) = (nI v4) from congrArg nI ((nf_n (by omega)).trans vu_s)) ?_
  refine fr2_callVi (rest := []) S (w_X8_setNeed l D cT _ c pa bd a6 a7 n ro cl fb rn nd sk mo wk fx wi la da we V V2 PR dy kd v4 (hwf) (hdy) (hkd) (by omega)) gL_law_X8_setNeed rfl pd_X8_setNeed ⟨rfl, rfl, Nat.le_of_ble_eq_true rfl, Nat.le_of_ble_eq_true rfl⟩ hP hK hD hS hA (va_recv hK.1 (fr_r hP) (ci := 6) (q0 := 0) rfl rfl) hl rfl rfl (Nat.le_of_ble_eq_true rfl) hcs0 dL_law_351 (fun r_ u_ H locs hr_ hP hD hS => ?_)
  subst hr_
  have hP : va_P D vwCl (lX cT z n ro cl fb rn (va_up nd (dy * 4 + kd) v4) sk mo wk fx wi la da we Wv Bv ++ (cX cT c a6 a7 n ro cl fb rn (va_up nd (dy * 4 + kd) v4) V V2 PR pa ++ pool n pa (per sk mo wk fx wi la da we))) H := hP
  have hD : va_D (AL s0) (lX cT z n ro cl fb rn (va_up nd (dy * 4 + kd) v4) sk mo wk fx wi la da we Wv Bv ++ (cX cT c a6 a7 n ro cl fb rn (va_up nd (dy * 4 + kd) v4) V V2 PR pa ++ pool n pa (per sk mo wk fx wi la da we))) := hD
  refine lv_istore (lv' := [(15, .int (nI (nd (dy * 4 + kd)))), (14, .int (nI (nd (dy * 4 + kd)))), (16, .int (nI (dy * 4 + kd))), (0, .ref bb), (1, .ref (c 0)), (2, .ref (z 0)), (3, .ref (z 1)), (4, .ref (z 2)), (5, .ref (z 3)), (6, .ref (z 4)), (7, .ref (z 5)), (8, .ref (z 6)), (9, .int (nI tn)), (10, .int zz), (11, .int (nI act)), (12, .int (nI p)), (13, .int (nI dy))]) S.1 S.2.1 dL_law_354 hl (by decide) rfl (fun ls hl => ?_)
  refine lv_goto (tgt := 1009) S.1 S.2.1 dL_law_356 (by decide) ?_
  refine W.widen (k := cells + 1) (n := slots + 8) (by omega) (by omega) ?_
  exact kk kd v4 (hkd) (hv4) H locs hP hD hS ls (lv_sub hl [3, 4, 5, 6, 7, 8, 9, 10, 11, 12, 13, 1, 0] rfl)

set_option maxHeartbeats 4000000 in
set_option maxRecDepth 100000 in
theorem lc_forbid (X : LA p0 s0 m0 t0 c0 bb L xs D cT) (hcs0 : cells ≤ room_1.cells ∧ slots ≤ room_1.slots) (hroom : cells + 1 ≤ room_1.cells ∧ slots + 8 ≤ room_1.slots) (hwf : wfC n bd fb rn nd sk mo wk fx wi la da we) (hz : ∀ k, k < 4 → bit fb k = 0) (h0 : ∀ j, n ≤ j → wk j = 0 ∧ wi j = 0 ∧ la j = 0 ∧ da j = 0 ∧ we j = 0 ∧ fx j = 0)  (hP : va_P D vwCl (lX cT z n ro cl fb rn nd sk mo wk fx wi la da we Wv Bv ++ (cX cT c a6 a7 n ro cl fb rn nd V V2 PR pa ++ pool n pa (per sk mo wk fx wi la da we))) H) (hD : va_D (AL s0) (lX cT z n ro cl fb rn nd sk mo wk fx wi la da we Wv Bv ++ (cX cT c a6 a7 n ro cl fb rn nd V V2 PR pa ++ pool n pa (per sk mo wk fx wi la da we)))) (hS : va_S (AL s0) s0.heap H locs) (hl : lv_has ls 19 [(0, .ref bb), (1, .ref (c 0)), (2, .ref (z 0)), (3, .ref (z 1)), (4, .ref (z 2)), (5, .ref (z 3)), (6, .ref (z 4)), (7, .ref (z 5)), (8, .ref (z 6)), (9, .int (nI tn)), (10, .int zz), (11, .int (nI act)), (12, .int (nI p)), (13, .int (nI dy)), (14, .int (nI 0)), (15, .int (nI 0))]) (kk : ∀ (ea : Nat) (eb : Nat) (b2 : Nat) (tv : Nat) , (1 ≤ ea ∧ ea < 4) → (1 ≤ eb ∧ eb < 4) → (b2 < 2) → ∀ (H : Heap) (locs : List Loc), va_P D vwCl (lX cT z n ro cl (bset fb (4 * ea + eb) b2) rn nd sk mo wk fx wi la da we Wv Bv ++ (cX cT c a6 a7 n ro cl (bset fb (4 * ea + eb) b2) rn nd V V2 PR pa ++ pool n pa (per sk mo wk fx wi la da we))) H → va_D (AL s0) (lX cT z n ro cl (bset fb (4 * ea + eb) b2) rn nd sk mo wk fx wi la da we Wv Bv ++ (cX cT c a6 a7 n ro cl (bset fb (4 * ea + eb) b2) rn nd V V2 PR pa ++ pool n pa (per sk mo wk fx wi la da we))) → va_S (AL s0) s0.heap H locs → ∀ ls : Array Slot, lv_has ls 19 [(0, .ref bb), (1, .ref (c 0)), (2, .ref (z 0)), (3, .ref (z 1)), (4, .ref (z 2)), (5, .ref (z 3)), (6, .ref (z 4)), (7, .ref (z 5)), (8, .ref (z 6)), (9, .int (nI tn)), (10, .int zz), (14, .int (nI tv)), (15, .int (nI tv))] → W p0 l e0 room_1 s0 m0 #[Value.ref bb] b0 t0 c0 H locs (cells + 1) (slots + 8) Q0 (F0 m0 1009 ls [])) : W p0 l e0 room_1 s0 m0 #[Value.ref bb] b0 t0 c0 H locs cells slots Q0 (F0 m0 366 ls []) := by
  obtain ⟨S, hL, hX, hbl, hK, hXS⟩ := id X
  have hA : ∀ q : Nat, s0.heap.size ≤ q → AL s0 q := fun _ h => h
  have hinj : inj n pa := inj_D (X := cX cT c a6 a7 n ro cl fb rn nd V V2 PR pa) (fr_Dr hD)
  obtain ⟨hn, hcl, hfb, hrn, hnd, hper⟩ := id hwf
  refine lv_bipush (v := (nI 28)) S.1 S.2.1 dL_law_366 (by decide) ?_
  refine lv_iconst (v := (nI 4)) S.1 S.2.1 dL_law_368 (by decide) ?_
  refine lv_iconst (v := (nI 1)) S.1 S.2.1 dL_law_369 (by decide) ?_
  refine lv_iload S.1 S.2.1 dL_law_370 (lv_at hl 10 rfl) ?_
  refine lv_iconst (v := (nI 5)) S.1 S.2.1 dL_law_372 (by decide) ?_
  refine lv_ishr S.1 S.2.1 dL_law_373 ?_
  refine lv_iconst (v := (nI 3)) S.1 S.2.1 dL_law_374 (by decide) ?_
  refine rd_callS (rest := [.int (nI 1), .int (nI 4), .int (nI 28)]) S (r_L_low l D cT (zz >>> ((nI 5) &&& 31)) 3 (by omega)) gL_law_L_low rfl pd_L_low ⟨rfl, rfl, Nat.le_of_ble_eq_true rfl, Nat.le_of_ble_eq_true rfl⟩ (sx_P0 D _) hK hl rfl rfl (Nat.le_of_ble_eq_true rfl) hcs0 dL_law_375 ?_
  have hj1 := Nat.mod_lt (lowb (zz >>> ((nI 5) &&& 31))) (show 3 > 0 from by omega)
  generalize lowb (zz >>> ((nI 5) &&& 31)) % 3 = j1 at hj1 ⊢
  refine n_add S dL_law_378 ?_
  refine n_mul S dL_law_379 ?_
  refine n_add S dL_law_380 ?_
  refine lv_iconst (v := (nI 1)) S.1 S.2.1 dL_law_381 (by decide) ?_
  refine n_add S dL_law_382 ?_
  refine lv_iload S.1 S.2.1 dL_law_383 (lv_at hl 10 rfl) ?_
  refine lv_bipush (v := (nI 7)) S.1 S.2.1 dL_law_385 (by decide) ?_
  refine lv_ishr S.1 S.2.1 dL_law_387 ?_
  refine lv_iconst (v := (nI 3)) S.1 S.2.1 dL_law_388 (by decide) ?_
  refine rd_callS (rest := [.int (nI ((28 + (4 * (1 + j1))) + 1))]) S (r_L_low l D cT (zz >>> ((nI 7) &&& 31)) 3 (by omega)) gL_law_L_low rfl pd_L_low ⟨rfl, rfl, Nat.le_of_ble_eq_true rfl, Nat.le_of_ble_eq_true rfl⟩ (sx_P0 D _) hK hl rfl rfl (Nat.le_of_ble_eq_true rfl) hcs0 dL_law_389 ?_
  have hj2 := Nat.mod_lt (lowb (zz >>> ((nI 7) &&& 31))) (show 3 > 0 from by omega)
  generalize lowb (zz >>> ((nI 7) &&& 31)) % 3 = j2 at hj2 ⊢
  refine n_add S dL_law_392 ?_
  obtain ⟨ea, eb, hea, heb, eab⟩ : ∃ ea eb, (1 ≤ ea ∧ ea < 4) ∧ (1 ≤ eb ∧ eb < 4) ∧ 28 + 4 * (1 + j1) + 1 + j2 = 28 + (4 * ea + eb) := ⟨1 + j1, 1 + j2, by omega, by omega, by omega⟩
  refine n_top (show (nI (((28 + (4 * (1 + j1))) + 1) + j2)) = nI (28 + (4 * ea + eb)) from congrArg nI eab) ?_
  refine lv_istore (lv' := [(16, .int (nI (28 + (4 * ea + eb)))), (0, .ref bb), (1, .ref (c 0)), (2, .ref (z 0)), (3, .ref (z 1)), (4, .ref (z 2)), (5, .ref (z 3)), (6, .ref (z 4)), (7, .ref (z 5)), (8, .ref (z 6)), (9, .int (nI tn)), (10, .int zz), (11, .int (nI act)), (12, .int (nI p)), (13, .int (nI dy)), (14, .int (nI 0)), (15, .int (nI 0))]) S.1 S.2.1 dL_law_393 hl (by decide) rfl (fun ls hl => ?_)
  refine lv_iload S.1 S.2.1 dL_law_395 (lv_at hl 11 rfl) ?_
  refine lv_bipush (v := (nI 9)) S.1 S.2.1 dL_law_397 (by decide) ?_
  refine lv_ishr S.1 S.2.1 dL_law_399 ?_
  refine lv_iconst (v := (nI 2)) S.1 S.2.1 dL_law_400 (by decide) ?_
  refine rd_callS (rest := []) S (r_L_low l D cT (zz >>> ((nI 9) &&& 31)) 2 (by omega)) gL_law_L_low rfl pd_L_low ⟨rfl, rfl, Nat.le_of_ble_eq_true rfl, Nat.le_of_ble_eq_true rfl⟩ (sx_P0 D _) hK hl rfl rfl (Nat.le_of_ble_eq_true rfl) hcs0 dL_law_401 ?_
  have hb2 := Nat.mod_lt (lowb (zz >>> ((nI 9) &&& 31))) (show 2 > 0 from by omega)
  generalize lowb (zz >>> ((nI 9) &&& 31)) % 2 = b2 at hb2 ⊢
  rcases (show b2 = 0 ∨ b2 = 1 by omega) with rfl | rfl
  · refine lv_istore (lv' := [(17, .int (nI 0)), (16, .int (nI (28 + (4 * ea + eb)))), (0, .ref bb), (1, .ref (c 0)), (2, .ref (z 0)), (3, .ref (z 1)), (4, .ref (z 2)), (5, .ref (z 3)), (6, .ref (z 4)), (7, .ref (z 5)), (8, .ref (z 6)), (9, .int (nI tn)), (10, .int zz), (11, .int (nI act)), (12, .int (nI p)), (13, .int (nI dy)), (14, .int (nI 0)), (15, .int (nI 0))]) S.1 S.2.1 dL_law_404 hl (by decide) rfl (fun ls hl => ?_)
    refine lv_aload S.1 S.2.1 dL_law_406 (lv_at hl 7 rfl) ?_
    refine lv_iload S.1 S.2.1 dL_law_408 (lv_at hl 1 rfl) ?_
    refine g_iald S 3 hK hP rfl (by omega) dL_law_410 ?_
    refine n_top (show (nI ((nfn fb rn nd) (28 + (4 * ea + eb)))) = (nI (bit fb (4 * ea + eb))) from congrArg nI (nf_f (by omega))) ?_
    refine lv_iload S.1 S.2.1 dL_law_411 (lv_at hl 0 rfl) ?_
    refine n_cne S (tgt := 420) (⟨Nat.lt_trans (bit_lt _ _) (by decide), by decide⟩) dL_law_413 (by decide) (fun c413 => ?_) (fun c413 => ?_)
    · refine lv_iconst (v := (nI 1)) S.1 S.2.1 dL_law_420 (by decide) ?_
      refine lv_istore (lv' := [(14, .int (nI 1)), (17, .int (nI 0)), (16, .int (nI (28 + (4 * ea + eb)))), (0, .ref bb), (1, .ref (c 0)), (2, .ref (z 0)), (3, .ref (z 1)), (4, .ref (z 2)), (5, .ref (z 3)), (6, .ref (z 4)), (7, .ref (z 5)), (8, .ref (z 6)), (9, .int (nI tn)), (10, .int zz), (11, .int (nI act)), (12, .int (nI p)), (13, .int (nI dy)), (15, .int (nI 0))]) S.1 S.2.1 dL_law_421 hl (by decide) rfl (fun ls hl => ?_)
      refine lv_aload S.1 S.2.1 dL_law_423 (lv_at hl 8 rfl) ?_
      refine lv_iload S.1 S.2.1 dL_law_425 (lv_at hl 2 rfl) ?_
      refine lv_iload S.1 S.2.1 dL_law_427 (lv_at hl 1 rfl) ?_
      refine w_iast S 3 hK hP hD hS rfl (by omega) dL_law_429 (fun H locs hP hD hS => ?_)
      have hP : va_P D vwCl (lX cT z n ro cl (bset fb (4 * ea + eb) 0) rn nd sk mo wk fx wi la da we Wv Bv ++ (cX cT c a6 a7 n ro cl fb rn nd V V2 PR pa ++ pool n pa (per sk mo wk fx wi la da we))) H := by rw [nf_uf (fb := fb) (j := (4 * ea + eb)) (v := 0) (by omega) (by omega)] at hP; exact hP
      have hD : va_D (AL s0) (lX cT z n ro cl (bset fb (4 * ea + eb) 0) rn nd sk mo wk fx wi la da we Wv Bv ++ (cX cT c a6 a7 n ro cl fb rn nd V V2 PR pa ++ pool n pa (per sk mo wk fx wi la da we))) := by rw [nf_uf (fb := fb) (j := (4 * ea + eb)) (v := 0) (by omega) (by omega)] at hD; exact hD
      refine lv_aload_n S.1 S.2.1 dL_law_430 rfl (lv_at hl 4 rfl) ?_
      refine lv_iload S.1 S.2.1 dL_law_431 (lv_at hl 2 rfl) ?_
      refine lv_bipush (v := (nI 28)) S.1 S.2.1 dL_law_433 (by decide) ?_
      refine n_sub S (by omega) dL_law_435 ?_
      refine n_top (show (nI ((28 + (4 * ea + eb)) - 28)) = (nI (4 * ea + eb)) from congrArg nI (by omega)) ?_
      refine lv_iconst (v := (nI 4)) S.1 S.2.1 dL_law_436 (by decide) ?_
      refine n_div S (by omega) dL_law_437 ?_
      refine n_top (show (nI ((4 * ea + eb) / 4)) = (nI ea) from congrArg nI (by omega)) ?_
      refine lv_iload S.1 S.2.1 dL_law_438 (lv_at hl 2 rfl) ?_
      refine lv_iconst (v := (nI 4)) S.1 S.2.1 dL_law_440 (by decide) ?_
      refine n_rem S (by omega) dL_law_441 ?_
      refine n_top (show (nI ((28 + (4 * ea + eb)) % 4)) = (nI eb) from congrArg nI (by omega)) ?_
      refine lv_iload S.1 S.2.1 dL_law_442 (lv_at hl 1 rfl) ?_
      refine lv_iconst (v := (nI 1)) S.1 S.2.1 dL_law_444 (by decide) ?_
      refine n_cne S (tgt := 452) (by decide) dL_law_445 (by decide) (fun _ => ?_) (fun q => absurd q (by decide))
      refine lv_iconst (v := (nI 0)) S.1 S.2.1 dL_law_452 (by decide) ?_
      refine fr2_callVi (rest := []) S (w_X8_forbid_false l D cT _ c pa bd a6 a7 n ro cl fb rn nd sk mo wk fx wi la da we V V2 PR ea eb (hwf) (hea) (heb)) gL_law_X8_forbid rfl pd_X8_forbid ⟨rfl, rfl, Nat.le_of_ble_eq_true rfl, Nat.le_of_ble_eq_true rfl⟩ hP hK hD hS hA (va_recv hK.1 (fr_r hP) (ci := 6) (q0 := 0) rfl rfl) hl rfl rfl (Nat.le_of_ble_eq_true rfl) hcs0 dL_law_453 (fun r_ u_ H locs hr_ hP hD hS => ?_)
      subst hr_
      have hP : va_P D vwCl (lX cT z n ro cl (bset fb (4 * ea + eb) 0) rn nd sk mo wk fx wi la da we Wv Bv ++ (cX cT c a6 a7 n ro cl (bset fb (4 * ea + eb) 0) rn nd V V2 PR pa ++ pool n pa (per sk mo wk fx wi la da we))) H := hP
      have hD : va_D (AL s0) (lX cT z n ro cl (bset fb (4 * ea + eb) 0) rn nd sk mo wk fx wi la da we Wv Bv ++ (cX cT c a6 a7 n ro cl (bset fb (4 * ea + eb) 0) rn nd V V2 PR pa ++ pool n pa (per sk mo wk fx wi la da we))) := hD
      refine n_beq S (tgt := 463) dL_law_456 (by decide) (fun c456 => ?_) (fun c456 => ?_)
      · refine lv_iconst (v := (nI 0)) S.1 S.2.1 dL_law_463 (by decide) ?_
        refine lv_istore (lv' := [(15, .int (nI 0)), (14, .int (nI 1)), (17, .int (nI 0)), (16, .int (nI (28 + (4 * ea + eb)))), (0, .ref bb), (1, .ref (c 0)), (2, .ref (z 0)), (3, .ref (z 1)), (4, .ref (z 2)), (5, .ref (z 3)), (6, .ref (z 4)), (7, .ref (z 5)), (8, .ref (z 6)), (9, .int (nI tn)), (10, .int zz), (11, .int (nI act)), (12, .int (nI p)), (13, .int (nI dy))]) S.1 S.2.1 dL_law_464 hl (by decide) rfl (fun ls hl => ?_)
        refine lv_goto (tgt := 1009) S.1 S.2.1 dL_law_466 (by decide) ?_
        exact absurd c456 (by rw [bne_iff_ne.mpr c413]; decide)
      · refine lv_iconst (v := (nI 1)) S.1 S.2.1 dL_law_459 (by decide) ?_
        refine lv_goto (tgt := 464) S.1 S.2.1 dL_law_460 (by decide) ?_
        refine lv_istore (lv' := [(15, .int (nI 1)), (14, .int (nI 1)), (17, .int (nI 0)), (16, .int (nI (28 + (4 * ea + eb)))), (0, .ref bb), (1, .ref (c 0)), (2, .ref (z 0)), (3, .ref (z 1)), (4, .ref (z 2)), (5, .ref (z 3)), (6, .ref (z 4)), (7, .ref (z 5)), (8, .ref (z 6)), (9, .int (nI tn)), (10, .int zz), (11, .int (nI act)), (12, .int (nI p)), (13, .int (nI dy))]) S.1 S.2.1 dL_law_464 hl (by decide) rfl (fun ls hl => ?_)
        refine lv_goto (tgt := 1009) S.1 S.2.1 dL_law_466 (by decide) ?_
        refine W.widen (k := cells + 1) (n := slots + 8) (by omega) (by omega) ?_
        exact kk ea eb 0 1 (hea) (heb) (by decide) H locs hP hD hS ls (lv_sub hl [4, 5, 6, 7, 8, 9, 10, 11, 12, 13, 14, 1, 0] rfl)
    · refine lv_iconst (v := (nI 0)) S.1 S.2.1 dL_law_416 (by decide) ?_
      refine lv_goto (tgt := 421) S.1 S.2.1 dL_law_417 (by decide) ?_
      refine lv_istore (lv' := [(14, .int (nI 0)), (17, .int (nI 0)), (16, .int (nI (28 + (4 * ea + eb)))), (0, .ref bb), (1, .ref (c 0)), (2, .ref (z 0)), (3, .ref (z 1)), (4, .ref (z 2)), (5, .ref (z 3)), (6, .ref (z 4)), (7, .ref (z 5)), (8, .ref (z 6)), (9, .int (nI tn)), (10, .int zz), (11, .int (nI act)), (12, .int (nI p)), (13, .int (nI dy)), (15, .int (nI 0))]) S.1 S.2.1 dL_law_421 hl (by decide) rfl (fun ls hl => ?_)
      refine lv_aload S.1 S.2.1 dL_law_423 (lv_at hl 8 rfl) ?_
      refine lv_iload S.1 S.2.1 dL_law_425 (lv_at hl 2 rfl) ?_
      refine lv_iload S.1 S.2.1 dL_law_427 (lv_at hl 1 rfl) ?_
      refine w_iast S 3 hK hP hD hS rfl (by omega) dL_law_429 (fun H locs hP hD hS => ?_)
      have hP : va_P D vwCl (lX cT z n ro cl (bset fb (4 * ea + eb) 0) rn nd sk mo wk fx wi la da we Wv Bv ++ (cX cT c a6 a7 n ro cl fb rn nd V V2 PR pa ++ pool n pa (per sk mo wk fx wi la da we))) H := by rw [nf_uf (fb := fb) (j := (4 * ea + eb)) (v := 0) (by omega) (by omega)] at hP; exact hP
      have hD : va_D (AL s0) (lX cT z n ro cl (bset fb (4 * ea + eb) 0) rn nd sk mo wk fx wi la da we Wv Bv ++ (cX cT c a6 a7 n ro cl fb rn nd V V2 PR pa ++ pool n pa (per sk mo wk fx wi la da we))) := by rw [nf_uf (fb := fb) (j := (4 * ea + eb)) (v := 0) (by omega) (by omega)] at hD; exact hD
      refine lv_aload_n S.1 S.2.1 dL_law_430 rfl (lv_at hl 4 rfl) ?_
      refine lv_iload S.1 S.2.1 dL_law_431 (lv_at hl 2 rfl) ?_
      refine lv_bipush (v := (nI 28)) S.1 S.2.1 dL_law_433 (by decide) ?_
      refine n_sub S (by omega) dL_law_435 ?_
      refine n_top (show (nI ((28 + (4 * ea + eb)) - 28)) = (nI (4 * ea + eb)) from congrArg nI (by omega)) ?_
      refine lv_iconst (v := (nI 4)) S.1 S.2.1 dL_law_436 (by decide) ?_
      refine n_div S (by omega) dL_law_437 ?_
      refine n_top (show (nI ((4 * ea + eb) / 4)) = (nI ea) from congrArg nI (by omega)) ?_
      refine lv_iload S.1 S.2.1 dL_law_438 (lv_at hl 2 rfl) ?_
      refine lv_iconst (v := (nI 4)) S.1 S.2.1 dL_law_440 (by decide) ?_
      refine n_rem S (by omega) dL_law_441 ?_
      refine n_top (show (nI ((28 + (4 * ea + eb)) % 4)) = (nI eb) from congrArg nI (by omega)) ?_
      refine lv_iload S.1 S.2.1 dL_law_442 (lv_at hl 1 rfl) ?_
      refine lv_iconst (v := (nI 1)) S.1 S.2.1 dL_law_444 (by decide) ?_
      refine n_cne S (tgt := 452) (by decide) dL_law_445 (by decide) (fun _ => ?_) (fun q => absurd q (by decide))
      refine lv_iconst (v := (nI 0)) S.1 S.2.1 dL_law_452 (by decide) ?_
      refine fr2_callVi (rest := []) S (w_X8_forbid_false l D cT _ c pa bd a6 a7 n ro cl fb rn nd sk mo wk fx wi la da we V V2 PR ea eb (hwf) (hea) (heb)) gL_law_X8_forbid rfl pd_X8_forbid ⟨rfl, rfl, Nat.le_of_ble_eq_true rfl, Nat.le_of_ble_eq_true rfl⟩ hP hK hD hS hA (va_recv hK.1 (fr_r hP) (ci := 6) (q0 := 0) rfl rfl) hl rfl rfl (Nat.le_of_ble_eq_true rfl) hcs0 dL_law_453 (fun r_ u_ H locs hr_ hP hD hS => ?_)
      subst hr_
      have hP : va_P D vwCl (lX cT z n ro cl (bset fb (4 * ea + eb) 0) rn nd sk mo wk fx wi la da we Wv Bv ++ (cX cT c a6 a7 n ro cl (bset fb (4 * ea + eb) 0) rn nd V V2 PR pa ++ pool n pa (per sk mo wk fx wi la da we))) H := hP
      have hD : va_D (AL s0) (lX cT z n ro cl (bset fb (4 * ea + eb) 0) rn nd sk mo wk fx wi la da we Wv Bv ++ (cX cT c a6 a7 n ro cl (bset fb (4 * ea + eb) 0) rn nd V V2 PR pa ++ pool n pa (per sk mo wk fx wi la da we))) := hD
      refine n_beq S (tgt := 463) dL_law_456 (by decide) (fun c456 => ?_) (fun c456 => ?_)
      · refine lv_iconst (v := (nI 0)) S.1 S.2.1 dL_law_463 (by decide) ?_
        refine lv_istore (lv' := [(15, .int (nI 0)), (14, .int (nI 0)), (17, .int (nI 0)), (16, .int (nI (28 + (4 * ea + eb)))), (0, .ref bb), (1, .ref (c 0)), (2, .ref (z 0)), (3, .ref (z 1)), (4, .ref (z 2)), (5, .ref (z 3)), (6, .ref (z 4)), (7, .ref (z 5)), (8, .ref (z 6)), (9, .int (nI tn)), (10, .int zz), (11, .int (nI act)), (12, .int (nI p)), (13, .int (nI dy))]) S.1 S.2.1 dL_law_464 hl (by decide) rfl (fun ls hl => ?_)
        refine lv_goto (tgt := 1009) S.1 S.2.1 dL_law_466 (by decide) ?_
        refine W.widen (k := cells + 1) (n := slots + 8) (by omega) (by omega) ?_
        exact kk ea eb 0 0 (hea) (heb) (by decide) H locs hP hD hS ls (lv_sub hl [4, 5, 6, 7, 8, 9, 10, 11, 12, 13, 14, 1, 0] rfl)
      · refine lv_iconst (v := (nI 1)) S.1 S.2.1 dL_law_459 (by decide) ?_
        refine lv_goto (tgt := 464) S.1 S.2.1 dL_law_460 (by decide) ?_
        refine lv_istore (lv' := [(15, .int (nI 1)), (14, .int (nI 0)), (17, .int (nI 0)), (16, .int (nI (28 + (4 * ea + eb)))), (0, .ref bb), (1, .ref (c 0)), (2, .ref (z 0)), (3, .ref (z 1)), (4, .ref (z 2)), (5, .ref (z 3)), (6, .ref (z 4)), (7, .ref (z 5)), (8, .ref (z 6)), (9, .int (nI tn)), (10, .int zz), (11, .int (nI act)), (12, .int (nI p)), (13, .int (nI dy))]) S.1 S.2.1 dL_law_464 hl (by decide) rfl (fun ls hl => ?_)
        refine lv_goto (tgt := 1009) S.1 S.2.1 dL_law_466 (by decide) ?_
        exact absurd c413 (bne_iff_ne.mp c456)
  · refine lv_istore (lv' := [(17, .int (nI 1)), (16, .int (nI (28 + (4 * ea + eb)))), (0, .ref bb), (1, .ref (c 0)), (2, .ref (z 0)), (3, .ref (z 1)), (4, .ref (z 2)), (5, .ref (z 3)), (6, .ref (z 4)), (7, .ref (z 5)), (8, .ref (z 6)), (9, .int (nI tn)), (10, .int zz), (11, .int (nI act)), (12, .int (nI p)), (13, .int (nI dy)), (14, .int (nI 0)), (15, .int (nI 0))]) S.1 S.2.1 dL_law_404 hl (by decide) rfl (fun ls hl => ?_)
    refine lv_aload S.1 S.2.1 dL_law_406 (lv_at hl 7 rfl) ?_
    refine lv_iload S.1 S.2.1 dL_law_408 (lv_at hl 1 rfl) ?_
    refine g_iald S 3 hK hP rfl (by omega) dL_law_410 ?_
    refine n_top (show (nI ((nfn fb rn nd) (28 + (4 * ea + eb)))) = (nI (bit fb (4 * ea + eb))) from congrArg nI (nf_f (by omega))) ?_
    refine lv_iload S.1 S.2.1 dL_law_411 (lv_at hl 0 rfl) ?_
    refine n_cne S (tgt := 420) (⟨Nat.lt_trans (bit_lt _ _) (by decide), by decide⟩) dL_law_413 (by decide) (fun c413 => ?_) (fun c413 => ?_)
    · refine lv_iconst (v := (nI 1)) S.1 S.2.1 dL_law_420 (by decide) ?_
      refine lv_istore (lv' := [(14, .int (nI 1)), (17, .int (nI 1)), (16, .int (nI (28 + (4 * ea + eb)))), (0, .ref bb), (1, .ref (c 0)), (2, .ref (z 0)), (3, .ref (z 1)), (4, .ref (z 2)), (5, .ref (z 3)), (6, .ref (z 4)), (7, .ref (z 5)), (8, .ref (z 6)), (9, .int (nI tn)), (10, .int zz), (11, .int (nI act)), (12, .int (nI p)), (13, .int (nI dy)), (15, .int (nI 0))]) S.1 S.2.1 dL_law_421 hl (by decide) rfl (fun ls hl => ?_)
      refine lv_aload S.1 S.2.1 dL_law_423 (lv_at hl 8 rfl) ?_
      refine lv_iload S.1 S.2.1 dL_law_425 (lv_at hl 2 rfl) ?_
      refine lv_iload S.1 S.2.1 dL_law_427 (lv_at hl 1 rfl) ?_
      refine w_iast S 3 hK hP hD hS rfl (by omega) dL_law_429 (fun H locs hP hD hS => ?_)
      have hP : va_P D vwCl (lX cT z n ro cl (bset fb (4 * ea + eb) 1) rn nd sk mo wk fx wi la da we Wv Bv ++ (cX cT c a6 a7 n ro cl fb rn nd V V2 PR pa ++ pool n pa (per sk mo wk fx wi la da we))) H := by rw [nf_uf (fb := fb) (j := (4 * ea + eb)) (v := 1) (by omega) (by omega)] at hP; exact hP
      have hD : va_D (AL s0) (lX cT z n ro cl (bset fb (4 * ea + eb) 1) rn nd sk mo wk fx wi la da we Wv Bv ++ (cX cT c a6 a7 n ro cl fb rn nd V V2 PR pa ++ pool n pa (per sk mo wk fx wi la da we))) := by rw [nf_uf (fb := fb) (j := (4 * ea + eb)) (v := 1) (by omega) (by omega)] at hD; exact hD
      refine lv_aload_n S.1 S.2.1 dL_law_430 rfl (lv_at hl 4 rfl) ?_
      refine lv_iload S.1 S.2.1 dL_law_431 (lv_at hl 2 rfl) ?_
      refine lv_bipush (v := (nI 28)) S.1 S.2.1 dL_law_433 (by decide) ?_
      refine n_sub S (by omega) dL_law_435 ?_
      refine n_top (show (nI ((28 + (4 * ea + eb)) - 28)) = (nI (4 * ea + eb)) from congrArg nI (by omega)) ?_
      refine lv_iconst (v := (nI 4)) S.1 S.2.1 dL_law_436 (by decide) ?_
      refine n_div S (by omega) dL_law_437 ?_
      refine n_top (show (nI ((4 * ea + eb) / 4)) = (nI ea) from congrArg nI (by omega)) ?_
      refine lv_iload S.1 S.2.1 dL_law_438 (lv_at hl 2 rfl) ?_
      refine lv_iconst (v := (nI 4)) S.1 S.2.1 dL_law_440 (by decide) ?_
      refine n_rem S (by omega) dL_law_441 ?_
      refine n_top (show (nI ((28 + (4 * ea + eb)) % 4)) = (nI eb) from congrArg nI (by omega)) ?_
      refine lv_iload S.1 S.2.1 dL_law_442 (lv_at hl 1 rfl) ?_
      refine lv_iconst (v := (nI 1)) S.1 S.2.1 dL_law_444 (by decide) ?_
      refine n_cne S (tgt := 452) (by decide) dL_law_445 (by decide) (fun q => absurd q (by decide)) (fun _ => ?_)
      refine lv_iconst (v := (nI 1)) S.1 S.2.1 dL_law_448 (by decide) ?_
      refine lv_goto (tgt := 453) S.1 S.2.1 dL_law_449 (by decide) ?_
      refine fr2_callVi (rest := []) S (w_X8_forbid_true l D cT _ c pa bd a6 a7 n ro cl fb rn nd sk mo wk fx wi la da we V V2 PR ea eb (hwf) (hea) (heb)) gL_law_X8_forbid rfl pd_X8_forbid ⟨rfl, rfl, Nat.le_of_ble_eq_true rfl, Nat.le_of_ble_eq_true rfl⟩ hP hK hD hS hA (va_recv hK.1 (fr_r hP) (ci := 6) (q0 := 0) rfl rfl) hl rfl rfl (Nat.le_of_ble_eq_true rfl) hcs0 dL_law_453 (fun r_ u_ H locs hr_ hP hD hS => ?_)
      subst hr_
      have hP : va_P D vwCl (lX cT z n ro cl (bset fb (4 * ea + eb) 1) rn nd sk mo wk fx wi la da we Wv Bv ++ (cX cT c a6 a7 n ro cl (bset fb (4 * ea + eb) 1) rn nd V V2 PR pa ++ pool n pa (per sk mo wk fx wi la da we))) H := hP
      have hD : va_D (AL s0) (lX cT z n ro cl (bset fb (4 * ea + eb) 1) rn nd sk mo wk fx wi la da we Wv Bv ++ (cX cT c a6 a7 n ro cl (bset fb (4 * ea + eb) 1) rn nd V V2 PR pa ++ pool n pa (per sk mo wk fx wi la da we))) := hD
      refine n_beq S (tgt := 463) dL_law_456 (by decide) (fun c456 => ?_) (fun c456 => ?_)
      · refine lv_iconst (v := (nI 0)) S.1 S.2.1 dL_law_463 (by decide) ?_
        refine lv_istore (lv' := [(15, .int (nI 0)), (14, .int (nI 1)), (17, .int (nI 1)), (16, .int (nI (28 + (4 * ea + eb)))), (0, .ref bb), (1, .ref (c 0)), (2, .ref (z 0)), (3, .ref (z 1)), (4, .ref (z 2)), (5, .ref (z 3)), (6, .ref (z 4)), (7, .ref (z 5)), (8, .ref (z 6)), (9, .int (nI tn)), (10, .int zz), (11, .int (nI act)), (12, .int (nI p)), (13, .int (nI dy))]) S.1 S.2.1 dL_law_464 hl (by decide) rfl (fun ls hl => ?_)
        refine lv_goto (tgt := 1009) S.1 S.2.1 dL_law_466 (by decide) ?_
        exact absurd c456 (by rw [bne_iff_ne.mpr c413]; decide)
      · refine lv_iconst (v := (nI 1)) S.1 S.2.1 dL_law_459 (by decide) ?_
        refine lv_goto (tgt := 464) S.1 S.2.1 dL_law_460 (by decide) ?_
        refine lv_istore (lv' := [(15, .int (nI 1)), (14, .int (nI 1)), (17, .int (nI 1)), (16, .int (nI (28 + (4 * ea + eb)))), (0, .ref bb), (1, .ref (c 0)), (2, .ref (z 0)), (3, .ref (z 1)), (4, .ref (z 2)), (5, .ref (z 3)), (6, .ref (z 4)), (7, .ref (z 5)), (8, .ref (z 6)), (9, .int (nI tn)), (10, .int zz), (11, .int (nI act)), (12, .int (nI p)), (13, .int (nI dy))]) S.1 S.2.1 dL_law_464 hl (by decide) rfl (fun ls hl => ?_)
        refine lv_goto (tgt := 1009) S.1 S.2.1 dL_law_466 (by decide) ?_
        refine W.widen (k := cells + 1) (n := slots + 8) (by omega) (by omega) ?_
        exact kk ea eb 1 1 (hea) (heb) (by decide) H locs hP hD hS ls (lv_sub hl [4, 5, 6, 7, 8, 9, 10, 11, 12, 13, 14, 1, 0] rfl)
    · refine lv_iconst (v := (nI 0)) S.1 S.2.1 dL_law_416 (by decide) ?_
      refine lv_goto (tgt := 421) S.1 S.2.1 dL_law_417 (by decide) ?_
      refine lv_istore (lv' := [(14, .int (nI 0)), (17, .int (nI 1)), (16, .int (nI (28 + (4 * ea + eb)))), (0, .ref bb), (1, .ref (c 0)), (2, .ref (z 0)), (3, .ref (z 1)), (4, .ref (z 2)), (5, .ref (z 3)), (6, .ref (z 4)), (7, .ref (z 5)), (8, .ref (z 6)), (9, .int (nI tn)), (10, .int zz), (11, .int (nI act)), (12, .int (nI p)), (13, .int (nI dy)), (15, .int (nI 0))]) S.1 S.2.1 dL_law_421 hl (by decide) rfl (fun ls hl => ?_)
      refine lv_aload S.1 S.2.1 dL_law_423 (lv_at hl 8 rfl) ?_
      refine lv_iload S.1 S.2.1 dL_law_425 (lv_at hl 2 rfl) ?_
      refine lv_iload S.1 S.2.1 dL_law_427 (lv_at hl 1 rfl) ?_
      refine w_iast S 3 hK hP hD hS rfl (by omega) dL_law_429 (fun H locs hP hD hS => ?_)
      have hP : va_P D vwCl (lX cT z n ro cl (bset fb (4 * ea + eb) 1) rn nd sk mo wk fx wi la da we Wv Bv ++ (cX cT c a6 a7 n ro cl fb rn nd V V2 PR pa ++ pool n pa (per sk mo wk fx wi la da we))) H := by rw [nf_uf (fb := fb) (j := (4 * ea + eb)) (v := 1) (by omega) (by omega)] at hP; exact hP
      have hD : va_D (AL s0) (lX cT z n ro cl (bset fb (4 * ea + eb) 1) rn nd sk mo wk fx wi la da we Wv Bv ++ (cX cT c a6 a7 n ro cl fb rn nd V V2 PR pa ++ pool n pa (per sk mo wk fx wi la da we))) := by rw [nf_uf (fb := fb) (j := (4 * ea + eb)) (v := 1) (by omega) (by omega)] at hD; exact hD
      refine lv_aload_n S.1 S.2.1 dL_law_430 rfl (lv_at hl 4 rfl) ?_
      refine lv_iload S.1 S.2.1 dL_law_431 (lv_at hl 2 rfl) ?_
      refine lv_bipush (v := (nI 28)) S.1 S.2.1 dL_law_433 (by decide) ?_
      refine n_sub S (by omega) dL_law_435 ?_
      refine n_top (show (nI ((28 + (4 * ea + eb)) - 28)) = (nI (4 * ea + eb)) from congrArg nI (by omega)) ?_
      refine lv_iconst (v := (nI 4)) S.1 S.2.1 dL_law_436 (by decide) ?_
      refine n_div S (by omega) dL_law_437 ?_
      refine n_top (show (nI ((4 * ea + eb) / 4)) = (nI ea) from congrArg nI (by omega)) ?_
      refine lv_iload S.1 S.2.1 dL_law_438 (lv_at hl 2 rfl) ?_
      refine lv_iconst (v := (nI 4)) S.1 S.2.1 dL_law_440 (by decide) ?_
      refine n_rem S (by omega) dL_law_441 ?_
      refine n_top (show (nI ((28 + (4 * ea + eb)) % 4)) = (nI eb) from congrArg nI (by omega)) ?_
      refine lv_iload S.1 S.2.1 dL_law_442 (lv_at hl 1 rfl) ?_
      refine lv_iconst (v := (nI 1)) S.1 S.2.1 dL_law_444 (by decide) ?_
      refine n_cne S (tgt := 452) (by decide) dL_law_445 (by decide) (fun q => absurd q (by decide)) (fun _ => ?_)
      refine lv_iconst (v := (nI 1)) S.1 S.2.1 dL_law_448 (by decide) ?_
      refine lv_goto (tgt := 453) S.1 S.2.1 dL_law_449 (by decide) ?_
      refine fr2_callVi (rest := []) S (w_X8_forbid_true l D cT _ c pa bd a6 a7 n ro cl fb rn nd sk mo wk fx wi la da we V V2 PR ea eb (hwf) (hea) (heb)) gL_law_X8_forbid rfl pd_X8_forbid ⟨rfl, rfl, Nat.le_of_ble_eq_true rfl, Nat.le_of_ble_eq_true rfl⟩ hP hK hD hS hA (va_recv hK.1 (fr_r hP) (ci := 6) (q0 := 0) rfl rfl) hl rfl rfl (Nat.le_of_ble_eq_true rfl) hcs0 dL_law_453 (fun r_ u_ H locs hr_ hP hD hS => ?_)
      subst hr_
      have hP : va_P D vwCl (lX cT z n ro cl (bset fb (4 * ea + eb) 1) rn nd sk mo wk fx wi la da we Wv Bv ++ (cX cT c a6 a7 n ro cl (bset fb (4 * ea + eb) 1) rn nd V V2 PR pa ++ pool n pa (per sk mo wk fx wi la da we))) H := hP
      have hD : va_D (AL s0) (lX cT z n ro cl (bset fb (4 * ea + eb) 1) rn nd sk mo wk fx wi la da we Wv Bv ++ (cX cT c a6 a7 n ro cl (bset fb (4 * ea + eb) 1) rn nd V V2 PR pa ++ pool n pa (per sk mo wk fx wi la da we))) := hD
      refine n_beq S (tgt := 463) dL_law_456 (by decide) (fun c456 => ?_) (fun c456 => ?_)
      · refine lv_iconst (v := (nI 0)) S.1 S.2.1 dL_law_463 (by decide) ?_
        refine lv_istore (lv' := [(15, .int (nI 0)), (14, .int (nI 0)), (17, .int (nI 1)), (16, .int (nI (28 + (4 * ea + eb)))), (0, .ref bb), (1, .ref (c 0)), (2, .ref (z 0)), (3, .ref (z 1)), (4, .ref (z 2)), (5, .ref (z 3)), (6, .ref (z 4)), (7, .ref (z 5)), (8, .ref (z 6)), (9, .int (nI tn)), (10, .int zz), (11, .int (nI act)), (12, .int (nI p)), (13, .int (nI dy))]) S.1 S.2.1 dL_law_464 hl (by decide) rfl (fun ls hl => ?_)
        refine lv_goto (tgt := 1009) S.1 S.2.1 dL_law_466 (by decide) ?_
        refine W.widen (k := cells + 1) (n := slots + 8) (by omega) (by omega) ?_
        exact kk ea eb 1 0 (hea) (heb) (by decide) H locs hP hD hS ls (lv_sub hl [4, 5, 6, 7, 8, 9, 10, 11, 12, 13, 14, 1, 0] rfl)
      · refine lv_iconst (v := (nI 1)) S.1 S.2.1 dL_law_459 (by decide) ?_
        refine lv_goto (tgt := 464) S.1 S.2.1 dL_law_460 (by decide) ?_
        refine lv_istore (lv' := [(15, .int (nI 1)), (14, .int (nI 0)), (17, .int (nI 1)), (16, .int (nI (28 + (4 * ea + eb)))), (0, .ref bb), (1, .ref (c 0)), (2, .ref (z 0)), (3, .ref (z 1)), (4, .ref (z 2)), (5, .ref (z 3)), (6, .ref (z 4)), (7, .ref (z 5)), (8, .ref (z 6)), (9, .int (nI tn)), (10, .int zz), (11, .int (nI act)), (12, .int (nI p)), (13, .int (nI dy))]) S.1 S.2.1 dL_law_464 hl (by decide) rfl (fun ls hl => ?_)
        refine lv_goto (tgt := 1009) S.1 S.2.1 dL_law_466 (by decide) ?_
        exact absurd c413 (bne_iff_ne.mp c456)

set_option maxHeartbeats 4000000 in
set_option maxRecDepth 100000 in
theorem lc_setRun (X : LA p0 s0 m0 t0 c0 bb L xs D cT) (hcs0 : cells ≤ room_1.cells ∧ slots ≤ room_1.slots) (hroom : cells + 1 ≤ room_1.cells ∧ slots + 8 ≤ room_1.slots) (hwf : wfC n bd fb rn nd sk mo wk fx wi la da we) (hz : ∀ k, k < 4 → bit fb k = 0) (h0 : ∀ j, n ≤ j → wk j = 0 ∧ wi j = 0 ∧ la j = 0 ∧ da j = 0 ∧ we j = 0 ∧ fx j = 0)  (hP : va_P D vwCl (lX cT z n ro cl fb rn nd sk mo wk fx wi la da we Wv Bv ++ (cX cT c a6 a7 n ro cl fb rn nd V V2 PR pa ++ pool n pa (per sk mo wk fx wi la da we))) H) (hD : va_D (AL s0) (lX cT z n ro cl fb rn nd sk mo wk fx wi la da we Wv Bv ++ (cX cT c a6 a7 n ro cl fb rn nd V V2 PR pa ++ pool n pa (per sk mo wk fx wi la da we)))) (hS : va_S (AL s0) s0.heap H locs) (hl : lv_has ls 19 [(0, .ref bb), (1, .ref (c 0)), (2, .ref (z 0)), (3, .ref (z 1)), (4, .ref (z 2)), (5, .ref (z 3)), (6, .ref (z 4)), (7, .ref (z 5)), (8, .ref (z 6)), (9, .int (nI tn)), (10, .int zz), (11, .int (nI act)), (12, .int (nI p)), (13, .int (nI dy)), (14, .int (nI 0)), (15, .int (nI 0))]) (kk : ∀ (v : Nat) , (1 ≤ v ∧ v < 15) → ∀ (H : Heap) (locs : List Loc), va_P D vwCl (lX cT z n ro cl fb v nd sk mo wk fx wi la da we Wv Bv ++ (cX cT c a6 a7 n ro cl fb v nd V V2 PR pa ++ pool n pa (per sk mo wk fx wi la da we))) H → va_D (AL s0) (lX cT z n ro cl fb v nd sk mo wk fx wi la da we Wv Bv ++ (cX cT c a6 a7 n ro cl fb v nd V V2 PR pa ++ pool n pa (per sk mo wk fx wi la da we))) → va_S (AL s0) s0.heap H locs → ∀ ls : Array Slot, lv_has ls 19 [(0, .ref bb), (1, .ref (c 0)), (2, .ref (z 0)), (3, .ref (z 1)), (4, .ref (z 2)), (5, .ref (z 3)), (6, .ref (z 4)), (7, .ref (z 5)), (8, .ref (z 6)), (9, .int (nI tn)), (10, .int zz), (14, .int (nI rn)), (15, .int (nI rn))] → W p0 l e0 room_1 s0 m0 #[Value.ref bb] b0 t0 c0 H locs (cells + 1) (slots + 8) Q0 (F0 m0 1009 ls [])) : W p0 l e0 room_1 s0 m0 #[Value.ref bb] b0 t0 c0 H locs cells slots Q0 (F0 m0 476 ls []) := by
  obtain ⟨S, hL, hX, hbl, hK, hXS⟩ := id X
  have hA : ∀ q : Nat, s0.heap.size ≤ q → AL s0 q := fun _ h => h
  have hinj : inj n pa := inj_D (X := cX cT c a6 a7 n ro cl fb rn nd V V2 PR pa) (fr_Dr hD)
  obtain ⟨hn, hcl, hfb, hrn, hnd, hper⟩ := id hwf
  refine lv_aload S.1 S.2.1 dL_law_476 (lv_at hl 5 rfl) ?_
  refine lv_bipush (v := (nI 44)) S.1 S.2.1 dL_law_478 (by decide) ?_
  refine g_iald S 3 hK hP rfl (by omega) dL_law_480 ?_
  refine n_top (show (nI ((nfn fb rn nd) 44)) = (nI rn) from congrArg nI nf_r) ?_
  refine lv_istore (lv' := [(14, .int (nI rn)), (0, .ref bb), (1, .ref (c 0)), (2, .ref (z 0)), (3, .ref (z 1)), (4, .ref (z 2)), (5, .ref (z 3)), (6, .ref (z 4)), (7, .ref (z 5)), (8, .ref (z 6)), (9, .int (nI tn)), (10, .int zz), (11, .int (nI act)), (12, .int (nI p)), (13, .int (nI dy)), (15, .int (nI 0))]) S.1 S.2.1 dL_law_481 hl (by decide) rfl (fun ls hl => ?_)
  refine lv_aload S.1 S.2.1 dL_law_483 (lv_at hl 6 rfl) ?_
  refine lv_bipush (v := (nI 44)) S.1 S.2.1 dL_law_485 (by decide) ?_
  refine lv_iconst (v := (nI 1)) S.1 S.2.1 dL_law_487 (by decide) ?_
  refine lv_iload S.1 S.2.1 dL_law_488 (lv_at hl 11 rfl) ?_
  refine lv_iconst (v := (nI 5)) S.1 S.2.1 dL_law_490 (by decide) ?_
  refine lv_ishr S.1 S.2.1 dL_law_491 ?_
  refine lv_bipush (v := (nI 14)) S.1 S.2.1 dL_law_492 (by decide) ?_
  refine rd_callS (rest := [.int (nI 1), .int (nI 44), .ref (z 3)]) S (r_L_low l D cT (zz >>> ((nI 5) &&& 31)) 14 (by omega)) gL_law_L_low rfl pd_L_low ⟨rfl, rfl, Nat.le_of_ble_eq_true rfl, Nat.le_of_ble_eq_true rfl⟩ (sx_P0 D _) hK hl rfl rfl (Nat.le_of_ble_eq_true rfl) hcs0 dL_law_494 ?_
  have hj14 := Nat.mod_lt (lowb (zz >>> ((nI 5) &&& 31))) (show 14 > 0 from by omega)
  generalize lowb (zz >>> ((nI 5) &&& 31)) % 14 = j14 at hj14 ⊢
  refine n_add S dL_law_497 ?_
  refine w_iast S 3 hK hP hD hS rfl (by omega) dL_law_498 (fun H locs hP hD hS => ?_)
  have hP : va_P D vwCl (lX cT z n ro cl fb (1 + j14) nd sk mo wk fx wi la da we Wv Bv ++ (cX cT c a6 a7 n ro cl fb rn nd V V2 PR pa ++ pool n pa (per sk mo wk fx wi la da we))) H := by rw [nf_ur] at hP; exact hP
  have hD : va_D (AL s0) (lX cT z n ro cl fb (1 + j14) nd sk mo wk fx wi la da we Wv Bv ++ (cX cT c a6 a7 n ro cl fb rn nd V V2 PR pa ++ pool n pa (per sk mo wk fx wi la da we))) := by rw [nf_ur] at hD; exact hD
  refine lv_aload_n S.1 S.2.1 dL_law_499 rfl (lv_at hl 2 rfl) ?_
  refine lv_aload S.1 S.2.1 dL_law_500 (lv_at hl 6 rfl) ?_
  refine lv_bipush (v := (nI 44)) S.1 S.2.1 dL_law_502 (by decide) ?_
  refine g_iald S 3 hK hP rfl (by omega) dL_law_504 ?_
  refine n_top (show (nI ((nfn fb (1 + j14) nd) 44)) = (nI (1 + j14)) from congrArg nI nf_r) ?_
  refine fr2_callVi (rest := []) S (w_X8_setRun l D cT _ c pa bd a6 a7 n ro cl fb rn nd sk mo wk fx wi la da we V V2 PR (1 + j14) (hwf) (by omega)) gL_law_X8_setRun rfl pd_X8_setRun ⟨rfl, rfl, Nat.le_of_ble_eq_true rfl, Nat.le_of_ble_eq_true rfl⟩ hP hK hD hS hA (va_recv hK.1 (fr_r hP) (ci := 6) (q0 := 0) rfl rfl) hl rfl rfl (Nat.le_of_ble_eq_true rfl) hcs0 dL_law_505 (fun r_ u_ H locs hr_ hP hD hS => ?_)
  subst hr_
  have hP : va_P D vwCl (lX cT z n ro cl fb (1 + j14) nd sk mo wk fx wi la da we Wv Bv ++ (cX cT c a6 a7 n ro cl fb (1 + j14) nd V V2 PR pa ++ pool n pa (per sk mo wk fx wi la da we))) H := hP
  have hD : va_D (AL s0) (lX cT z n ro cl fb (1 + j14) nd sk mo wk fx wi la da we Wv Bv ++ (cX cT c a6 a7 n ro cl fb (1 + j14) nd V V2 PR pa ++ pool n pa (per sk mo wk fx wi la da we))) := hD
  refine lv_istore (lv' := [(15, .int (nI rn)), (14, .int (nI rn)), (0, .ref bb), (1, .ref (c 0)), (2, .ref (z 0)), (3, .ref (z 1)), (4, .ref (z 2)), (5, .ref (z 3)), (6, .ref (z 4)), (7, .ref (z 5)), (8, .ref (z 6)), (9, .int (nI tn)), (10, .int zz), (11, .int (nI act)), (12, .int (nI p)), (13, .int (nI dy))]) S.1 S.2.1 dL_law_508 hl (by decide) rfl (fun ls hl => ?_)
  refine lv_goto (tgt := 1009) S.1 S.2.1 dL_law_510 (by decide) ?_
  refine W.widen (k := cells + 1) (n := slots + 8) (by omega) (by omega) ?_
  exact kk (1 + j14) (by omega) H locs hP hD hS ls (lv_sub hl [2, 3, 4, 5, 6, 7, 8, 9, 10, 11, 12, 1, 0] rfl)

set_option maxHeartbeats 4000000 in
set_option maxRecDepth 100000 in
theorem lc_wish (X : LA p0 s0 m0 t0 c0 bb L xs D cT) (hcs0 : cells ≤ room_1.cells ∧ slots ≤ room_1.slots) (hroom : cells + 1 ≤ room_1.cells ∧ slots + 8 ≤ room_1.slots) (hwf : wfC n bd fb rn nd sk mo wk fx wi la da we) (hz : ∀ k, k < 4 → bit fb k = 0) (h0 : ∀ j, n ≤ j → wk j = 0 ∧ wi j = 0 ∧ la j = 0 ∧ da j = 0 ∧ we j = 0 ∧ fx j = 0) (hp : p < n) (hdy : dy < 7) (hP : va_P D vwCl (lX cT z n ro cl fb rn nd sk mo wk fx wi la da we Wv Bv ++ (cX cT c a6 a7 n ro cl fb rn nd V V2 PR pa ++ pool n pa (per sk mo wk fx wi la da we))) H) (hD : va_D (AL s0) (lX cT z n ro cl fb rn nd sk mo wk fx wi la da we Wv Bv ++ (cX cT c a6 a7 n ro cl fb rn nd V V2 PR pa ++ pool n pa (per sk mo wk fx wi la da we)))) (hS : va_S (AL s0) s0.heap H locs) (hl : lv_has ls 19 [(0, .ref bb), (1, .ref (c 0)), (2, .ref (z 0)), (3, .ref (z 1)), (4, .ref (z 2)), (5, .ref (z 3)), (6, .ref (z 4)), (7, .ref (z 5)), (8, .ref (z 6)), (9, .int (nI tn)), (10, .int zz), (11, .int (nI act)), (12, .int (nI p)), (13, .int (nI dy)), (14, .int (nI 0)), (15, .int (nI 0))]) (kk : ∀ (b2 : Nat) (tv : Nat) , (b2 < 2) → ∀ (H : Heap) (locs : List Loc), va_P D vwCl (lX cT z n ro cl fb rn nd sk mo wk fx (va_up wi p (bset (wi p) dy b2)) la da we Wv Bv ++ (cX cT c a6 a7 n ro cl fb rn nd V V2 PR pa ++ pool n pa (per sk mo wk fx (va_up wi p (bset (wi p) dy b2)) la da we))) H → va_D (AL s0) (lX cT z n ro cl fb rn nd sk mo wk fx (va_up wi p (bset (wi p) dy b2)) la da we Wv Bv ++ (cX cT c a6 a7 n ro cl fb rn nd V V2 PR pa ++ pool n pa (per sk mo wk fx (va_up wi p (bset (wi p) dy b2)) la da we))) → va_S (AL s0) s0.heap H locs → ∀ ls : Array Slot, lv_has ls 19 [(0, .ref bb), (1, .ref (c 0)), (2, .ref (z 0)), (3, .ref (z 1)), (4, .ref (z 2)), (5, .ref (z 3)), (6, .ref (z 4)), (7, .ref (z 5)), (8, .ref (z 6)), (9, .int (nI tn)), (10, .int zz), (14, .int (nI tv)), (15, .int (nI tv))] → W p0 l e0 room_1 s0 m0 #[Value.ref bb] b0 t0 c0 H locs (cells + 1) (slots + 8) Q0 (F0 m0 1009 ls [])) : W p0 l e0 room_1 s0 m0 #[Value.ref bb] b0 t0 c0 H locs cells slots Q0 (F0 m0 520 ls []) := by
  obtain ⟨S, hL, hX, hbl, hK, hXS⟩ := id X
  have hA : ∀ q : Nat, s0.heap.size ≤ q → AL s0 q := fun _ h => h
  have hinj : inj n pa := inj_D (X := cX cT c a6 a7 n ro cl fb rn nd V V2 PR pa) (fr_Dr hD)
  obtain ⟨hn, hcl, hfb, hrn, hnd, hper⟩ := id hwf
  have hpi := hper p
  refine lv_iload S.1 S.2.1 dL_law_520 (lv_at hl 10 rfl) ?_
  refine lv_bipush (v := (nI 11)) S.1 S.2.1 dL_law_522 (by decide) ?_
  refine lv_ishr S.1 S.2.1 dL_law_524 ?_
  refine lv_iconst (v := (nI 3)) S.1 S.2.1 dL_law_525 (by decide) ?_
  refine rd_callS (rest := []) S (r_L_low l D cT (zz >>> ((nI 11) &&& 31)) 3 (by omega)) gL_law_L_low rfl pd_L_low ⟨rfl, rfl, Nat.le_of_ble_eq_true rfl, Nat.le_of_ble_eq_true rfl⟩ (sx_P0 D _) hK hl rfl rfl (Nat.le_of_ble_eq_true rfl) hcs0 dL_law_526 ?_
  have hj3 := Nat.mod_lt (lowb (zz >>> ((nI 11) &&& 31))) (show 3 > 0 from by omega)
  generalize lowb (zz >>> ((nI 11) &&& 31)) % 3 = j3 at hj3 ⊢
  refine n_zne S (tgt := 536) (by omega) dL_law_529 (by decide) (fun c529 => ?_) (fun c529 => ?_)
  · refine lv_iconst (v := (nI 1)) S.1 S.2.1 dL_law_536 (by decide) ?_
    refine lv_istore (lv' := [(16, .int (nI 1)), (0, .ref bb), (1, .ref (c 0)), (2, .ref (z 0)), (3, .ref (z 1)), (4, .ref (z 2)), (5, .ref (z 3)), (6, .ref (z 4)), (7, .ref (z 5)), (8, .ref (z 6)), (9, .int (nI tn)), (10, .int zz), (11, .int (nI act)), (12, .int (nI p)), (13, .int (nI dy)), (14, .int (nI 0)), (15, .int (nI 0))]) S.1 S.2.1 dL_law_537 hl (by decide) rfl (fun ls hl => ?_)
    refine lv_aload_n S.1 S.2.1 dL_law_539 rfl (lv_at hl 3 rfl) ?_
    refine lv_bipush (v := (nI 8)) S.1 S.2.1 dL_law_540 (by decide) ?_
    refine lv_iload S.1 S.2.1 dL_law_542 (lv_at hl 13 rfl) ?_
    refine n_mul S dL_law_544 ?_
    refine lv_iconst (v := (nI 2)) S.1 S.2.1 dL_law_545 (by decide) ?_
    refine n_add S dL_law_546 ?_
    refine g_iald S 0 hK hP rfl (by omega) dL_law_547 ?_
    refine n_top (show (nI ((hfn sk mo wi la da we) ((8 * p) + 2))) = (nI (wi p)) from congrArg nI hf_2) ?_
    refine lv_iload S.1 S.2.1 dL_law_548 (lv_at hl 14 rfl) ?_
    refine n_shr S (⟨by omega, by omega⟩) dL_law_550 ?_
    refine lv_iconst (v := (nI 1)) S.1 S.2.1 dL_law_551 (by decide) ?_
    refine n_and S dL_law_552 ?_
    refine n_top (show (nI (((wi p) / 2 ^ dy) &&& 1)) = (nI (bit (wi p) dy)) from congrArg nI (Nat.and_one_is_mod _)) ?_
    refine lv_iload S.1 S.2.1 dL_law_553 (lv_at hl 0 rfl) ?_
    refine n_cne S (tgt := 562) (⟨Nat.lt_trans (bit_lt _ _) (by decide), by decide⟩) dL_law_555 (by decide) (fun c555 => ?_) (fun c555 => ?_)
    · refine lv_iconst (v := (nI 1)) S.1 S.2.1 dL_law_562 (by decide) ?_
      refine lv_istore (lv' := [(14, .int (nI 1)), (16, .int (nI 1)), (0, .ref bb), (1, .ref (c 0)), (2, .ref (z 0)), (3, .ref (z 1)), (4, .ref (z 2)), (5, .ref (z 3)), (6, .ref (z 4)), (7, .ref (z 5)), (8, .ref (z 6)), (9, .int (nI tn)), (10, .int zz), (11, .int (nI act)), (12, .int (nI p)), (13, .int (nI dy)), (15, .int (nI 0))]) S.1 S.2.1 dL_law_563 hl (by decide) rfl (fun ls hl => ?_)
      refine lv_aload_n S.1 S.2.1 dL_law_565 rfl (lv_at hl 4 rfl) ?_
      refine lv_bipush (v := (nI 8)) S.1 S.2.1 dL_law_566 (by decide) ?_
      refine lv_iload S.1 S.2.1 dL_law_568 (lv_at hl 14 rfl) ?_
      refine n_mul S dL_law_570 ?_
      refine lv_iconst (v := (nI 2)) S.1 S.2.1 dL_law_571 (by decide) ?_
      refine n_add S dL_law_572 ?_
      refine lv_dup2_11 S.1 S.2.1 dL_law_573 rfl rfl ?_
      refine g_iald S 0 hK hP rfl (by omega) dL_law_574 ?_
      refine n_top (show (nI ((hfn sk mo wi la da we) ((8 * p) + 2))) = (nI (wi p)) from congrArg nI hf_2) ?_
      refine lv_iload S.1 S.2.1 dL_law_575 (lv_at hl 0 rfl) ?_
      refine lv_iload S.1 S.2.1 dL_law_577 (lv_at hl 15 rfl) ?_
      refine n_shl S (by omega) dL_law_579 ?_
      refine lv_ixor S.1 S.2.1 dL_law_580 ?_
      refine n_top (sx_xor _ _) ?_
      refine n_top (show (nI ((wi p) ^^^ (1 * 2 ^ dy))) = nI (bset (wi p) dy 1) from congrArg nI (bs_xor (by decide) c555)) ?_
      refine w_iast S 0 hK hP hD hS rfl (by omega) dL_law_581 (fun H locs hP hD hS => ?_)
      have hP : va_P D vwCl (lX cT z n ro cl fb rn nd sk mo wk fx (va_up wi p (bset (wi p) dy 1)) la da we Wv Bv ++ (cX cT c a6 a7 n ro cl fb rn nd V V2 PR pa ++ pool n pa (per sk mo wk fx wi la da we))) H := by rw [hf_u2 (i := p) (v := bset (wi p) dy 1)] at hP; exact hP
      have hD : va_D (AL s0) (lX cT z n ro cl fb rn nd sk mo wk fx (va_up wi p (bset (wi p) dy 1)) la da we Wv Bv ++ (cX cT c a6 a7 n ro cl fb rn nd V V2 PR pa ++ pool n pa (per sk mo wk fx wi la da we))) := by rw [hf_u2 (i := p) (v := bset (wi p) dy 1)] at hD; exact hD
      refine lv_aload_n S.1 S.2.1 dL_law_582 rfl (lv_at hl 3 rfl) ?_
      refine lv_iload S.1 S.2.1 dL_law_583 (lv_at hl 14 rfl) ?_
      refine lv_iload S.1 S.2.1 dL_law_585 (lv_at hl 15 rfl) ?_
      refine lv_iload S.1 S.2.1 dL_law_587 (lv_at hl 1 rfl) ?_
      refine lv_iconst (v := (nI 1)) S.1 S.2.1 dL_law_589 (by decide) ?_
      refine n_cne S (tgt := 597) (by decide) dL_law_590 (by decide) (fun q => absurd q (by decide)) (fun _ => ?_)
      refine lv_iconst (v := (nI 1)) S.1 S.2.1 dL_law_593 (by decide) ?_
      refine lv_goto (tgt := 598) S.1 S.2.1 dL_law_594 (by decide) ?_
      refine fr2_callVi (rest := []) S (w_X8_wish_true l D cT _ c pa bd a6 a7 n ro cl fb rn nd sk mo wk fx wi la da we V V2 PR p dy (hwf) (hp) (hdy)) gL_law_X8_wish rfl pd_X8_wish ⟨rfl, rfl, Nat.le_of_ble_eq_true rfl, Nat.le_of_ble_eq_true rfl⟩ hP hK hD hS hA (va_recv hK.1 (fr_r hP) (ci := 6) (q0 := 0) rfl rfl) hl rfl rfl (Nat.le_of_ble_eq_true rfl) hcs0 dL_law_598 (fun r_ u_ H locs hr_ hP hD hS => ?_)
      subst hr_
      have hP : va_P D vwCl (lX cT z n ro cl fb rn nd sk mo wk fx (va_up wi p (bset (wi p) dy 1)) la da we Wv Bv ++ (cX cT c a6 a7 n ro cl fb rn nd V V2 PR pa ++ pool n pa (per sk mo wk fx (va_up wi p (bset (wi p) dy 1)) la da we))) H := hP
      have hD : va_D (AL s0) (lX cT z n ro cl fb rn nd sk mo wk fx (va_up wi p (bset (wi p) dy 1)) la da we Wv Bv ++ (cX cT c a6 a7 n ro cl fb rn nd V V2 PR pa ++ pool n pa (per sk mo wk fx (va_up wi p (bset (wi p) dy 1)) la da we))) := hD
      refine n_beq S (tgt := 608) dL_law_601 (by decide) (fun c601 => ?_) (fun c601 => ?_)
      · refine lv_iconst (v := (nI 0)) S.1 S.2.1 dL_law_608 (by decide) ?_
        refine lv_istore (lv' := [(15, .int (nI 0)), (14, .int (nI 1)), (16, .int (nI 1)), (0, .ref bb), (1, .ref (c 0)), (2, .ref (z 0)), (3, .ref (z 1)), (4, .ref (z 2)), (5, .ref (z 3)), (6, .ref (z 4)), (7, .ref (z 5)), (8, .ref (z 6)), (9, .int (nI tn)), (10, .int zz), (11, .int (nI act)), (12, .int (nI p)), (13, .int (nI dy))]) S.1 S.2.1 dL_law_609 hl (by decide) rfl (fun ls hl => ?_)
        refine lv_goto (tgt := 1009) S.1 S.2.1 dL_law_611 (by decide) ?_
        exact absurd c601 (by rw [bne_iff_ne.mpr c555]; decide)
      · refine lv_iconst (v := (nI 1)) S.1 S.2.1 dL_law_604 (by decide) ?_
        refine lv_goto (tgt := 609) S.1 S.2.1 dL_law_605 (by decide) ?_
        refine lv_istore (lv' := [(15, .int (nI 1)), (14, .int (nI 1)), (16, .int (nI 1)), (0, .ref bb), (1, .ref (c 0)), (2, .ref (z 0)), (3, .ref (z 1)), (4, .ref (z 2)), (5, .ref (z 3)), (6, .ref (z 4)), (7, .ref (z 5)), (8, .ref (z 6)), (9, .int (nI tn)), (10, .int zz), (11, .int (nI act)), (12, .int (nI p)), (13, .int (nI dy))]) S.1 S.2.1 dL_law_609 hl (by decide) rfl (fun ls hl => ?_)
        refine lv_goto (tgt := 1009) S.1 S.2.1 dL_law_611 (by decide) ?_
        refine W.widen (k := cells + 1) (n := slots + 8) (by omega) (by omega) ?_
        exact kk 1 1 (by decide) H locs hP hD hS ls (lv_sub hl [3, 4, 5, 6, 7, 8, 9, 10, 11, 12, 13, 1, 0] rfl)
    · refine lv_iconst (v := (nI 0)) S.1 S.2.1 dL_law_558 (by decide) ?_
      refine lv_goto (tgt := 563) S.1 S.2.1 dL_law_559 (by decide) ?_
      refine lv_istore (lv' := [(14, .int (nI 0)), (16, .int (nI 1)), (0, .ref bb), (1, .ref (c 0)), (2, .ref (z 0)), (3, .ref (z 1)), (4, .ref (z 2)), (5, .ref (z 3)), (6, .ref (z 4)), (7, .ref (z 5)), (8, .ref (z 6)), (9, .int (nI tn)), (10, .int zz), (11, .int (nI act)), (12, .int (nI p)), (13, .int (nI dy)), (15, .int (nI 0))]) S.1 S.2.1 dL_law_563 hl (by decide) rfl (fun ls hl => ?_)
      refine lv_aload_n S.1 S.2.1 dL_law_565 rfl (lv_at hl 4 rfl) ?_
      refine lv_bipush (v := (nI 8)) S.1 S.2.1 dL_law_566 (by decide) ?_
      refine lv_iload S.1 S.2.1 dL_law_568 (lv_at hl 14 rfl) ?_
      refine n_mul S dL_law_570 ?_
      refine lv_iconst (v := (nI 2)) S.1 S.2.1 dL_law_571 (by decide) ?_
      refine n_add S dL_law_572 ?_
      refine lv_dup2_11 S.1 S.2.1 dL_law_573 rfl rfl ?_
      refine g_iald S 0 hK hP rfl (by omega) dL_law_574 ?_
      refine n_top (show (nI ((hfn sk mo wi la da we) ((8 * p) + 2))) = (nI (wi p)) from congrArg nI hf_2) ?_
      refine lv_iload S.1 S.2.1 dL_law_575 (lv_at hl 0 rfl) ?_
      refine lv_iload S.1 S.2.1 dL_law_577 (lv_at hl 15 rfl) ?_
      refine n_shl S (by omega) dL_law_579 ?_
      refine lv_ixor S.1 S.2.1 dL_law_580 ?_
      refine n_top (sx_xor _ _) ?_
      refine n_top (show (nI ((wi p) ^^^ (0 * 2 ^ dy))) = nI (bset (wi p) dy 1) from congrArg nI (by rw [Nat.zero_mul, Nat.xor_zero]; exact (bs_same c555).symm)) ?_
      refine w_iast S 0 hK hP hD hS rfl (by omega) dL_law_581 (fun H locs hP hD hS => ?_)
      have hP : va_P D vwCl (lX cT z n ro cl fb rn nd sk mo wk fx (va_up wi p (bset (wi p) dy 1)) la da we Wv Bv ++ (cX cT c a6 a7 n ro cl fb rn nd V V2 PR pa ++ pool n pa (per sk mo wk fx wi la da we))) H := by rw [hf_u2 (i := p) (v := bset (wi p) dy 1)] at hP; exact hP
      have hD : va_D (AL s0) (lX cT z n ro cl fb rn nd sk mo wk fx (va_up wi p (bset (wi p) dy 1)) la da we Wv Bv ++ (cX cT c a6 a7 n ro cl fb rn nd V V2 PR pa ++ pool n pa (per sk mo wk fx wi la da we))) := by rw [hf_u2 (i := p) (v := bset (wi p) dy 1)] at hD; exact hD
      refine lv_aload_n S.1 S.2.1 dL_law_582 rfl (lv_at hl 3 rfl) ?_
      refine lv_iload S.1 S.2.1 dL_law_583 (lv_at hl 14 rfl) ?_
      refine lv_iload S.1 S.2.1 dL_law_585 (lv_at hl 15 rfl) ?_
      refine lv_iload S.1 S.2.1 dL_law_587 (lv_at hl 1 rfl) ?_
      refine lv_iconst (v := (nI 1)) S.1 S.2.1 dL_law_589 (by decide) ?_
      refine n_cne S (tgt := 597) (by decide) dL_law_590 (by decide) (fun q => absurd q (by decide)) (fun _ => ?_)
      refine lv_iconst (v := (nI 1)) S.1 S.2.1 dL_law_593 (by decide) ?_
      refine lv_goto (tgt := 598) S.1 S.2.1 dL_law_594 (by decide) ?_
      refine fr2_callVi (rest := []) S (w_X8_wish_true l D cT _ c pa bd a6 a7 n ro cl fb rn nd sk mo wk fx wi la da we V V2 PR p dy (hwf) (hp) (hdy)) gL_law_X8_wish rfl pd_X8_wish ⟨rfl, rfl, Nat.le_of_ble_eq_true rfl, Nat.le_of_ble_eq_true rfl⟩ hP hK hD hS hA (va_recv hK.1 (fr_r hP) (ci := 6) (q0 := 0) rfl rfl) hl rfl rfl (Nat.le_of_ble_eq_true rfl) hcs0 dL_law_598 (fun r_ u_ H locs hr_ hP hD hS => ?_)
      subst hr_
      have hP : va_P D vwCl (lX cT z n ro cl fb rn nd sk mo wk fx (va_up wi p (bset (wi p) dy 1)) la da we Wv Bv ++ (cX cT c a6 a7 n ro cl fb rn nd V V2 PR pa ++ pool n pa (per sk mo wk fx (va_up wi p (bset (wi p) dy 1)) la da we))) H := hP
      have hD : va_D (AL s0) (lX cT z n ro cl fb rn nd sk mo wk fx (va_up wi p (bset (wi p) dy 1)) la da we Wv Bv ++ (cX cT c a6 a7 n ro cl fb rn nd V V2 PR pa ++ pool n pa (per sk mo wk fx (va_up wi p (bset (wi p) dy 1)) la da we))) := hD
      refine n_beq S (tgt := 608) dL_law_601 (by decide) (fun c601 => ?_) (fun c601 => ?_)
      · refine lv_iconst (v := (nI 0)) S.1 S.2.1 dL_law_608 (by decide) ?_
        refine lv_istore (lv' := [(15, .int (nI 0)), (14, .int (nI 0)), (16, .int (nI 1)), (0, .ref bb), (1, .ref (c 0)), (2, .ref (z 0)), (3, .ref (z 1)), (4, .ref (z 2)), (5, .ref (z 3)), (6, .ref (z 4)), (7, .ref (z 5)), (8, .ref (z 6)), (9, .int (nI tn)), (10, .int zz), (11, .int (nI act)), (12, .int (nI p)), (13, .int (nI dy))]) S.1 S.2.1 dL_law_609 hl (by decide) rfl (fun ls hl => ?_)
        refine lv_goto (tgt := 1009) S.1 S.2.1 dL_law_611 (by decide) ?_
        refine W.widen (k := cells + 1) (n := slots + 8) (by omega) (by omega) ?_
        exact kk 1 0 (by decide) H locs hP hD hS ls (lv_sub hl [3, 4, 5, 6, 7, 8, 9, 10, 11, 12, 13, 1, 0] rfl)
      · refine lv_iconst (v := (nI 1)) S.1 S.2.1 dL_law_604 (by decide) ?_
        refine lv_goto (tgt := 609) S.1 S.2.1 dL_law_605 (by decide) ?_
        refine lv_istore (lv' := [(15, .int (nI 1)), (14, .int (nI 0)), (16, .int (nI 1)), (0, .ref bb), (1, .ref (c 0)), (2, .ref (z 0)), (3, .ref (z 1)), (4, .ref (z 2)), (5, .ref (z 3)), (6, .ref (z 4)), (7, .ref (z 5)), (8, .ref (z 6)), (9, .int (nI tn)), (10, .int zz), (11, .int (nI act)), (12, .int (nI p)), (13, .int (nI dy))]) S.1 S.2.1 dL_law_609 hl (by decide) rfl (fun ls hl => ?_)
        refine lv_goto (tgt := 1009) S.1 S.2.1 dL_law_611 (by decide) ?_
        exact absurd c555 (bne_iff_ne.mp c601)
  · refine lv_iconst (v := (nI 0)) S.1 S.2.1 dL_law_532 (by decide) ?_
    refine lv_goto (tgt := 537) S.1 S.2.1 dL_law_533 (by decide) ?_
    refine lv_istore (lv' := [(16, .int (nI 0)), (0, .ref bb), (1, .ref (c 0)), (2, .ref (z 0)), (3, .ref (z 1)), (4, .ref (z 2)), (5, .ref (z 3)), (6, .ref (z 4)), (7, .ref (z 5)), (8, .ref (z 6)), (9, .int (nI tn)), (10, .int zz), (11, .int (nI act)), (12, .int (nI p)), (13, .int (nI dy)), (14, .int (nI 0)), (15, .int (nI 0))]) S.1 S.2.1 dL_law_537 hl (by decide) rfl (fun ls hl => ?_)
    refine lv_aload_n S.1 S.2.1 dL_law_539 rfl (lv_at hl 3 rfl) ?_
    refine lv_bipush (v := (nI 8)) S.1 S.2.1 dL_law_540 (by decide) ?_
    refine lv_iload S.1 S.2.1 dL_law_542 (lv_at hl 13 rfl) ?_
    refine n_mul S dL_law_544 ?_
    refine lv_iconst (v := (nI 2)) S.1 S.2.1 dL_law_545 (by decide) ?_
    refine n_add S dL_law_546 ?_
    refine g_iald S 0 hK hP rfl (by omega) dL_law_547 ?_
    refine n_top (show (nI ((hfn sk mo wi la da we) ((8 * p) + 2))) = (nI (wi p)) from congrArg nI hf_2) ?_
    refine lv_iload S.1 S.2.1 dL_law_548 (lv_at hl 14 rfl) ?_
    refine n_shr S (⟨by omega, by omega⟩) dL_law_550 ?_
    refine lv_iconst (v := (nI 1)) S.1 S.2.1 dL_law_551 (by decide) ?_
    refine n_and S dL_law_552 ?_
    refine n_top (show (nI (((wi p) / 2 ^ dy) &&& 1)) = (nI (bit (wi p) dy)) from congrArg nI (Nat.and_one_is_mod _)) ?_
    refine lv_iload S.1 S.2.1 dL_law_553 (lv_at hl 0 rfl) ?_
    refine n_cne S (tgt := 562) (⟨Nat.lt_trans (bit_lt _ _) (by decide), by decide⟩) dL_law_555 (by decide) (fun c555 => ?_) (fun c555 => ?_)
    · refine lv_iconst (v := (nI 1)) S.1 S.2.1 dL_law_562 (by decide) ?_
      refine lv_istore (lv' := [(14, .int (nI 1)), (16, .int (nI 0)), (0, .ref bb), (1, .ref (c 0)), (2, .ref (z 0)), (3, .ref (z 1)), (4, .ref (z 2)), (5, .ref (z 3)), (6, .ref (z 4)), (7, .ref (z 5)), (8, .ref (z 6)), (9, .int (nI tn)), (10, .int zz), (11, .int (nI act)), (12, .int (nI p)), (13, .int (nI dy)), (15, .int (nI 0))]) S.1 S.2.1 dL_law_563 hl (by decide) rfl (fun ls hl => ?_)
      refine lv_aload_n S.1 S.2.1 dL_law_565 rfl (lv_at hl 4 rfl) ?_
      refine lv_bipush (v := (nI 8)) S.1 S.2.1 dL_law_566 (by decide) ?_
      refine lv_iload S.1 S.2.1 dL_law_568 (lv_at hl 14 rfl) ?_
      refine n_mul S dL_law_570 ?_
      refine lv_iconst (v := (nI 2)) S.1 S.2.1 dL_law_571 (by decide) ?_
      refine n_add S dL_law_572 ?_
      refine lv_dup2_11 S.1 S.2.1 dL_law_573 rfl rfl ?_
      refine g_iald S 0 hK hP rfl (by omega) dL_law_574 ?_
      refine n_top (show (nI ((hfn sk mo wi la da we) ((8 * p) + 2))) = (nI (wi p)) from congrArg nI hf_2) ?_
      refine lv_iload S.1 S.2.1 dL_law_575 (lv_at hl 0 rfl) ?_
      refine lv_iload S.1 S.2.1 dL_law_577 (lv_at hl 15 rfl) ?_
      refine n_shl S (by omega) dL_law_579 ?_
      refine lv_ixor S.1 S.2.1 dL_law_580 ?_
      refine n_top (sx_xor _ _) ?_
      refine n_top (show (nI ((wi p) ^^^ (1 * 2 ^ dy))) = nI (bset (wi p) dy 0) from congrArg nI (bs_xor (by decide) c555)) ?_
      refine w_iast S 0 hK hP hD hS rfl (by omega) dL_law_581 (fun H locs hP hD hS => ?_)
      have hP : va_P D vwCl (lX cT z n ro cl fb rn nd sk mo wk fx (va_up wi p (bset (wi p) dy 0)) la da we Wv Bv ++ (cX cT c a6 a7 n ro cl fb rn nd V V2 PR pa ++ pool n pa (per sk mo wk fx wi la da we))) H := by rw [hf_u2 (i := p) (v := bset (wi p) dy 0)] at hP; exact hP
      have hD : va_D (AL s0) (lX cT z n ro cl fb rn nd sk mo wk fx (va_up wi p (bset (wi p) dy 0)) la da we Wv Bv ++ (cX cT c a6 a7 n ro cl fb rn nd V V2 PR pa ++ pool n pa (per sk mo wk fx wi la da we))) := by rw [hf_u2 (i := p) (v := bset (wi p) dy 0)] at hD; exact hD
      refine lv_aload_n S.1 S.2.1 dL_law_582 rfl (lv_at hl 3 rfl) ?_
      refine lv_iload S.1 S.2.1 dL_law_583 (lv_at hl 14 rfl) ?_
      refine lv_iload S.1 S.2.1 dL_law_585 (lv_at hl 15 rfl) ?_
      refine lv_iload S.1 S.2.1 dL_law_587 (lv_at hl 1 rfl) ?_
      refine lv_iconst (v := (nI 1)) S.1 S.2.1 dL_law_589 (by decide) ?_
      refine n_cne S (tgt := 597) (by decide) dL_law_590 (by decide) (fun _ => ?_) (fun q => absurd q (by decide))
      refine lv_iconst (v := (nI 0)) S.1 S.2.1 dL_law_597 (by decide) ?_
      refine fr2_callVi (rest := []) S (w_X8_wish_false l D cT _ c pa bd a6 a7 n ro cl fb rn nd sk mo wk fx wi la da we V V2 PR p dy (hwf) (hp) (hdy)) gL_law_X8_wish rfl pd_X8_wish ⟨rfl, rfl, Nat.le_of_ble_eq_true rfl, Nat.le_of_ble_eq_true rfl⟩ hP hK hD hS hA (va_recv hK.1 (fr_r hP) (ci := 6) (q0 := 0) rfl rfl) hl rfl rfl (Nat.le_of_ble_eq_true rfl) hcs0 dL_law_598 (fun r_ u_ H locs hr_ hP hD hS => ?_)
      subst hr_
      have hP : va_P D vwCl (lX cT z n ro cl fb rn nd sk mo wk fx (va_up wi p (bset (wi p) dy 0)) la da we Wv Bv ++ (cX cT c a6 a7 n ro cl fb rn nd V V2 PR pa ++ pool n pa (per sk mo wk fx (va_up wi p (bset (wi p) dy 0)) la da we))) H := hP
      have hD : va_D (AL s0) (lX cT z n ro cl fb rn nd sk mo wk fx (va_up wi p (bset (wi p) dy 0)) la da we Wv Bv ++ (cX cT c a6 a7 n ro cl fb rn nd V V2 PR pa ++ pool n pa (per sk mo wk fx (va_up wi p (bset (wi p) dy 0)) la da we))) := hD
      refine n_beq S (tgt := 608) dL_law_601 (by decide) (fun c601 => ?_) (fun c601 => ?_)
      · refine lv_iconst (v := (nI 0)) S.1 S.2.1 dL_law_608 (by decide) ?_
        refine lv_istore (lv' := [(15, .int (nI 0)), (14, .int (nI 1)), (16, .int (nI 0)), (0, .ref bb), (1, .ref (c 0)), (2, .ref (z 0)), (3, .ref (z 1)), (4, .ref (z 2)), (5, .ref (z 3)), (6, .ref (z 4)), (7, .ref (z 5)), (8, .ref (z 6)), (9, .int (nI tn)), (10, .int zz), (11, .int (nI act)), (12, .int (nI p)), (13, .int (nI dy))]) S.1 S.2.1 dL_law_609 hl (by decide) rfl (fun ls hl => ?_)
        refine lv_goto (tgt := 1009) S.1 S.2.1 dL_law_611 (by decide) ?_
        exact absurd c601 (by rw [bne_iff_ne.mpr c555]; decide)
      · refine lv_iconst (v := (nI 1)) S.1 S.2.1 dL_law_604 (by decide) ?_
        refine lv_goto (tgt := 609) S.1 S.2.1 dL_law_605 (by decide) ?_
        refine lv_istore (lv' := [(15, .int (nI 1)), (14, .int (nI 1)), (16, .int (nI 0)), (0, .ref bb), (1, .ref (c 0)), (2, .ref (z 0)), (3, .ref (z 1)), (4, .ref (z 2)), (5, .ref (z 3)), (6, .ref (z 4)), (7, .ref (z 5)), (8, .ref (z 6)), (9, .int (nI tn)), (10, .int zz), (11, .int (nI act)), (12, .int (nI p)), (13, .int (nI dy))]) S.1 S.2.1 dL_law_609 hl (by decide) rfl (fun ls hl => ?_)
        refine lv_goto (tgt := 1009) S.1 S.2.1 dL_law_611 (by decide) ?_
        refine W.widen (k := cells + 1) (n := slots + 8) (by omega) (by omega) ?_
        exact kk 0 1 (by decide) H locs hP hD hS ls (lv_sub hl [3, 4, 5, 6, 7, 8, 9, 10, 11, 12, 13, 1, 0] rfl)
    · refine lv_iconst (v := (nI 0)) S.1 S.2.1 dL_law_558 (by decide) ?_
      refine lv_goto (tgt := 563) S.1 S.2.1 dL_law_559 (by decide) ?_
      refine lv_istore (lv' := [(14, .int (nI 0)), (16, .int (nI 0)), (0, .ref bb), (1, .ref (c 0)), (2, .ref (z 0)), (3, .ref (z 1)), (4, .ref (z 2)), (5, .ref (z 3)), (6, .ref (z 4)), (7, .ref (z 5)), (8, .ref (z 6)), (9, .int (nI tn)), (10, .int zz), (11, .int (nI act)), (12, .int (nI p)), (13, .int (nI dy)), (15, .int (nI 0))]) S.1 S.2.1 dL_law_563 hl (by decide) rfl (fun ls hl => ?_)
      refine lv_aload_n S.1 S.2.1 dL_law_565 rfl (lv_at hl 4 rfl) ?_
      refine lv_bipush (v := (nI 8)) S.1 S.2.1 dL_law_566 (by decide) ?_
      refine lv_iload S.1 S.2.1 dL_law_568 (lv_at hl 14 rfl) ?_
      refine n_mul S dL_law_570 ?_
      refine lv_iconst (v := (nI 2)) S.1 S.2.1 dL_law_571 (by decide) ?_
      refine n_add S dL_law_572 ?_
      refine lv_dup2_11 S.1 S.2.1 dL_law_573 rfl rfl ?_
      refine g_iald S 0 hK hP rfl (by omega) dL_law_574 ?_
      refine n_top (show (nI ((hfn sk mo wi la da we) ((8 * p) + 2))) = (nI (wi p)) from congrArg nI hf_2) ?_
      refine lv_iload S.1 S.2.1 dL_law_575 (lv_at hl 0 rfl) ?_
      refine lv_iload S.1 S.2.1 dL_law_577 (lv_at hl 15 rfl) ?_
      refine n_shl S (by omega) dL_law_579 ?_
      refine lv_ixor S.1 S.2.1 dL_law_580 ?_
      refine n_top (sx_xor _ _) ?_
      refine n_top (show (nI ((wi p) ^^^ (0 * 2 ^ dy))) = nI (bset (wi p) dy 0) from congrArg nI (by rw [Nat.zero_mul, Nat.xor_zero]; exact (bs_same c555).symm)) ?_
      refine w_iast S 0 hK hP hD hS rfl (by omega) dL_law_581 (fun H locs hP hD hS => ?_)
      have hP : va_P D vwCl (lX cT z n ro cl fb rn nd sk mo wk fx (va_up wi p (bset (wi p) dy 0)) la da we Wv Bv ++ (cX cT c a6 a7 n ro cl fb rn nd V V2 PR pa ++ pool n pa (per sk mo wk fx wi la da we))) H := by rw [hf_u2 (i := p) (v := bset (wi p) dy 0)] at hP; exact hP
      have hD : va_D (AL s0) (lX cT z n ro cl fb rn nd sk mo wk fx (va_up wi p (bset (wi p) dy 0)) la da we Wv Bv ++ (cX cT c a6 a7 n ro cl fb rn nd V V2 PR pa ++ pool n pa (per sk mo wk fx wi la da we))) := by rw [hf_u2 (i := p) (v := bset (wi p) dy 0)] at hD; exact hD
      refine lv_aload_n S.1 S.2.1 dL_law_582 rfl (lv_at hl 3 rfl) ?_
      refine lv_iload S.1 S.2.1 dL_law_583 (lv_at hl 14 rfl) ?_
      refine lv_iload S.1 S.2.1 dL_law_585 (lv_at hl 15 rfl) ?_
      refine lv_iload S.1 S.2.1 dL_law_587 (lv_at hl 1 rfl) ?_
      refine lv_iconst (v := (nI 1)) S.1 S.2.1 dL_law_589 (by decide) ?_
      refine n_cne S (tgt := 597) (by decide) dL_law_590 (by decide) (fun _ => ?_) (fun q => absurd q (by decide))
      refine lv_iconst (v := (nI 0)) S.1 S.2.1 dL_law_597 (by decide) ?_
      refine fr2_callVi (rest := []) S (w_X8_wish_false l D cT _ c pa bd a6 a7 n ro cl fb rn nd sk mo wk fx wi la da we V V2 PR p dy (hwf) (hp) (hdy)) gL_law_X8_wish rfl pd_X8_wish ⟨rfl, rfl, Nat.le_of_ble_eq_true rfl, Nat.le_of_ble_eq_true rfl⟩ hP hK hD hS hA (va_recv hK.1 (fr_r hP) (ci := 6) (q0 := 0) rfl rfl) hl rfl rfl (Nat.le_of_ble_eq_true rfl) hcs0 dL_law_598 (fun r_ u_ H locs hr_ hP hD hS => ?_)
      subst hr_
      have hP : va_P D vwCl (lX cT z n ro cl fb rn nd sk mo wk fx (va_up wi p (bset (wi p) dy 0)) la da we Wv Bv ++ (cX cT c a6 a7 n ro cl fb rn nd V V2 PR pa ++ pool n pa (per sk mo wk fx (va_up wi p (bset (wi p) dy 0)) la da we))) H := hP
      have hD : va_D (AL s0) (lX cT z n ro cl fb rn nd sk mo wk fx (va_up wi p (bset (wi p) dy 0)) la da we Wv Bv ++ (cX cT c a6 a7 n ro cl fb rn nd V V2 PR pa ++ pool n pa (per sk mo wk fx (va_up wi p (bset (wi p) dy 0)) la da we))) := hD
      refine n_beq S (tgt := 608) dL_law_601 (by decide) (fun c601 => ?_) (fun c601 => ?_)
      · refine lv_iconst (v := (nI 0)) S.1 S.2.1 dL_law_608 (by decide) ?_
        refine lv_istore (lv' := [(15, .int (nI 0)), (14, .int (nI 0)), (16, .int (nI 0)), (0, .ref bb), (1, .ref (c 0)), (2, .ref (z 0)), (3, .ref (z 1)), (4, .ref (z 2)), (5, .ref (z 3)), (6, .ref (z 4)), (7, .ref (z 5)), (8, .ref (z 6)), (9, .int (nI tn)), (10, .int zz), (11, .int (nI act)), (12, .int (nI p)), (13, .int (nI dy))]) S.1 S.2.1 dL_law_609 hl (by decide) rfl (fun ls hl => ?_)
        refine lv_goto (tgt := 1009) S.1 S.2.1 dL_law_611 (by decide) ?_
        refine W.widen (k := cells + 1) (n := slots + 8) (by omega) (by omega) ?_
        exact kk 0 0 (by decide) H locs hP hD hS ls (lv_sub hl [3, 4, 5, 6, 7, 8, 9, 10, 11, 12, 13, 1, 0] rfl)
      · refine lv_iconst (v := (nI 1)) S.1 S.2.1 dL_law_604 (by decide) ?_
        refine lv_goto (tgt := 609) S.1 S.2.1 dL_law_605 (by decide) ?_
        refine lv_istore (lv' := [(15, .int (nI 1)), (14, .int (nI 0)), (16, .int (nI 0)), (0, .ref bb), (1, .ref (c 0)), (2, .ref (z 0)), (3, .ref (z 1)), (4, .ref (z 2)), (5, .ref (z 3)), (6, .ref (z 4)), (7, .ref (z 5)), (8, .ref (z 6)), (9, .int (nI tn)), (10, .int zz), (11, .int (nI act)), (12, .int (nI p)), (13, .int (nI dy))]) S.1 S.2.1 dL_law_609 hl (by decide) rfl (fun ls hl => ?_)
        refine lv_goto (tgt := 1009) S.1 S.2.1 dL_law_611 (by decide) ?_
        exact absurd c555 (bne_iff_ne.mp c601)

set_option maxHeartbeats 4000000 in
set_option maxRecDepth 100000 in
theorem lc_fix (X : LA p0 s0 m0 t0 c0 bb L xs D cT) (hcs0 : cells ≤ room_1.cells ∧ slots ≤ room_1.slots) (hroom : cells + 1 ≤ room_1.cells ∧ slots + 8 ≤ room_1.slots) (hwf : wfC n bd fb rn nd sk mo wk fx wi la da we) (hz : ∀ k, k < 4 → bit fb k = 0) (h0 : ∀ j, n ≤ j → wk j = 0 ∧ wi j = 0 ∧ la j = 0 ∧ da j = 0 ∧ we j = 0 ∧ fx j = 0) (hp : p < n) (hdy : dy < 7) (hP : va_P D vwCl (lX cT z n ro cl fb rn nd sk mo wk fx wi la da we Wv Bv ++ (cX cT c a6 a7 n ro cl fb rn nd V V2 PR pa ++ pool n pa (per sk mo wk fx wi la da we))) H) (hD : va_D (AL s0) (lX cT z n ro cl fb rn nd sk mo wk fx wi la da we Wv Bv ++ (cX cT c a6 a7 n ro cl fb rn nd V V2 PR pa ++ pool n pa (per sk mo wk fx wi la da we)))) (hS : va_S (AL s0) s0.heap H locs) (hl : lv_has ls 19 [(0, .ref bb), (1, .ref (c 0)), (2, .ref (z 0)), (3, .ref (z 1)), (4, .ref (z 2)), (5, .ref (z 3)), (6, .ref (z 4)), (7, .ref (z 5)), (8, .ref (z 6)), (9, .int (nI tn)), (10, .int zz), (11, .int (nI act)), (12, .int (nI p)), (13, .int (nI dy)), (14, .int (nI 0)), (15, .int (nI 0))]) (kk : ∀ (v5 : Nat) , (v5 < 5) → ∀ (H : Heap) (locs : List Loc), va_P D vwCl (lX cT z n ro cl fb rn nd sk mo wk (va_up fx p (nset (fx p) dy v5)) wi la da we Wv Bv ++ (cX cT c a6 a7 n ro cl fb rn nd V V2 PR pa ++ pool n pa (per sk mo wk (va_up fx p (nset (fx p) dy v5)) wi la da we))) H → va_D (AL s0) (lX cT z n ro cl fb rn nd sk mo wk (va_up fx p (nset (fx p) dy v5)) wi la da we Wv Bv ++ (cX cT c a6 a7 n ro cl fb rn nd V V2 PR pa ++ pool n pa (per sk mo wk (va_up fx p (nset (fx p) dy v5)) wi la da we))) → va_S (AL s0) s0.heap H locs → ∀ ls : Array Slot, lv_has ls 19 [(0, .ref bb), (1, .ref (c 0)), (2, .ref (z 0)), (3, .ref (z 1)), (4, .ref (z 2)), (5, .ref (z 3)), (6, .ref (z 4)), (7, .ref (z 5)), (8, .ref (z 6)), (9, .int (nI tn)), (10, .int zz), (14, .int (nI (nib (fx p) dy) - nI 1)), (15, .int (nI (nib (fx p) dy) - nI 1))] → W p0 l e0 room_1 s0 m0 #[Value.ref bb] b0 t0 c0 H locs (cells + 1) (slots + 8) Q0 (F0 m0 1009 ls [])) : W p0 l e0 room_1 s0 m0 #[Value.ref bb] b0 t0 c0 H locs cells slots Q0 (F0 m0 621 ls []) := by
  obtain ⟨S, hL, hX, hbl, hK, hXS⟩ := id X
  have hA : ∀ q : Nat, s0.heap.size ≤ q → AL s0 q := fun _ h => h
  have hinj : inj n pa := inj_D (X := cX cT c a6 a7 n ro cl fb rn nd V V2 PR pa) (fr_Dr hD)
  obtain ⟨hn, hcl, hfb, hrn, hnd, hper⟩ := id hwf
  refine lv_aload S.1 S.2.1 dL_law_621 (lv_at hl 4 rfl) ?_
  refine lv_bipush (v := (nI 7)) S.1 S.2.1 dL_law_623 (by decide) ?_
  refine lv_iload S.1 S.2.1 dL_law_625 (lv_at hl 12 rfl) ?_
  refine n_mul S dL_law_627 ?_
  refine lv_iload S.1 S.2.1 dL_law_628 (lv_at hl 13 rfl) ?_
  refine n_add S dL_law_630 ?_
  refine g_ialdR S 2 hK hP rfl (by omega) dL_law_631 ?_
  refine n_top (show ((fun k => nI (fxf fx k) - nI 1) ((7 * p) + dy)) = (nI (nib (fx p) dy) - nI 1) from by show nI (fxf fx (7 * p + dy)) - nI 1 = _; rw [fx_at hdy]) ?_
  refine lv_istore (lv' := [(14, .int (nI (nib (fx p) dy) - nI 1)), (0, .ref bb), (1, .ref (c 0)), (2, .ref (z 0)), (3, .ref (z 1)), (4, .ref (z 2)), (5, .ref (z 3)), (6, .ref (z 4)), (7, .ref (z 5)), (8, .ref (z 6)), (9, .int (nI tn)), (10, .int zz), (11, .int (nI act)), (12, .int (nI p)), (13, .int (nI dy)), (15, .int (nI 0))]) S.1 S.2.1 dL_law_632 hl (by decide) rfl (fun ls hl => ?_)
  refine lv_aload S.1 S.2.1 dL_law_634 (lv_at hl 5 rfl) ?_
  refine lv_bipush (v := (nI 7)) S.1 S.2.1 dL_law_636 (by decide) ?_
  refine lv_iload S.1 S.2.1 dL_law_638 (lv_at hl 13 rfl) ?_
  refine n_mul S dL_law_640 ?_
  refine lv_iload S.1 S.2.1 dL_law_641 (lv_at hl 14 rfl) ?_
  refine n_add S dL_law_643 ?_
  refine lv_iload S.1 S.2.1 dL_law_644 (lv_at hl 11 rfl) ?_
  refine lv_bipush (v := (nI 11)) S.1 S.2.1 dL_law_646 (by decide) ?_
  refine lv_ishr S.1 S.2.1 dL_law_648 ?_
  refine lv_iconst (v := (nI 5)) S.1 S.2.1 dL_law_649 (by decide) ?_
  refine rd_callS (rest := [.int (nI ((7 * p) + dy)), .ref (z 2)]) S (r_L_low l D cT (zz >>> ((nI 11) &&& 31)) 5 (by omega)) gL_law_L_low rfl pd_L_low ⟨rfl, rfl, Nat.le_of_ble_eq_true rfl, Nat.le_of_ble_eq_true rfl⟩ (sx_P0 D _) hK hl rfl rfl (Nat.le_of_ble_eq_true rfl) hcs0 dL_law_650 ?_
  have hv5 := Nat.mod_lt (lowb (zz >>> ((nI 11) &&& 31))) (show 5 > 0 from by omega)
  generalize lowb (zz >>> ((nI 11) &&& 31)) % 5 = v5 at hv5 ⊢
  refine lv_iconst (v := (nI 1)) S.1 S.2.1 dL_law_653 (by decide) ?_
  refine lv_isub S.1 S.2.1 dL_law_654 ?_
  refine w_iastR S 2 hK hP hD hS rfl (by omega) dL_law_655 (fun H locs hP hD hS => ?_)
  have hP : va_P D vwCl (lX cT z n ro cl fb rn nd sk mo wk (va_up fx p (nset (fx p) dy v5)) wi la da we Wv Bv ++ (cX cT c a6 a7 n ro cl fb rn nd V V2 PR pa ++ pool n pa (per sk mo wk fx wi la da we))) H := by rw [fx_up (fx := fx) (i := p) (d := dy) (v := v5) (by omega) (by omega)] at hP; exact hP
  have hD : va_D (AL s0) (lX cT z n ro cl fb rn nd sk mo wk (va_up fx p (nset (fx p) dy v5)) wi la da we Wv Bv ++ (cX cT c a6 a7 n ro cl fb rn nd V V2 PR pa ++ pool n pa (per sk mo wk fx wi la da we))) := by rw [fx_up (fx := fx) (i := p) (d := dy) (v := v5) (by omega) (by omega)] at hD; exact hD
  refine lv_aload_n S.1 S.2.1 dL_law_656 rfl (lv_at hl 2 rfl) ?_
  refine lv_iload S.1 S.2.1 dL_law_657 (lv_at hl 13 rfl) ?_
  refine lv_iload S.1 S.2.1 dL_law_659 (lv_at hl 14 rfl) ?_
  refine lv_aload S.1 S.2.1 dL_law_661 (lv_at hl 5 rfl) ?_
  refine lv_bipush (v := (nI 7)) S.1 S.2.1 dL_law_663 (by decide) ?_
  refine lv_iload S.1 S.2.1 dL_law_665 (lv_at hl 13 rfl) ?_
  refine n_mul S dL_law_667 ?_
  refine lv_iload S.1 S.2.1 dL_law_668 (lv_at hl 14 rfl) ?_
  refine n_add S dL_law_670 ?_
  refine g_ialdR S 2 hK hP rfl (by omega) dL_law_671 ?_
  refine n_top (show ((fun k => nI (fxf (va_up fx p (nset (fx p) dy v5)) k) - nI 1) ((7 * p) + dy)) = (nI v5 - nI 1) from by show nI (fxf (va_up fx p (nset (fx p) dy v5)) (7 * p + dy)) - nI 1 = _; rw [fx_at hdy, vu_s, ns_get (by omega)]) ?_
  refine fr2_callVi (rest := []) S (w_X8_fix l D cT _ c pa bd a6 a7 n ro cl fb rn nd sk mo wk fx wi la da we V V2 PR p dy v5 (hwf) (hp) (hdy) (hv5)) gL_law_X8_fix rfl pd_X8_fix ⟨rfl, rfl, Nat.le_of_ble_eq_true rfl, Nat.le_of_ble_eq_true rfl⟩ hP hK hD hS hA (va_recv hK.1 (fr_r hP) (ci := 6) (q0 := 0) rfl rfl) hl rfl rfl (Nat.le_of_ble_eq_true rfl) hcs0 dL_law_672 (fun r_ u_ H locs hr_ hP hD hS => ?_)
  subst hr_
  have hP : va_P D vwCl (lX cT z n ro cl fb rn nd sk mo wk (va_up fx p (nset (fx p) dy v5)) wi la da we Wv Bv ++ (cX cT c a6 a7 n ro cl fb rn nd V V2 PR pa ++ pool n pa (per sk mo wk (va_up fx p (nset (fx p) dy v5)) wi la da we))) H := hP
  have hD : va_D (AL s0) (lX cT z n ro cl fb rn nd sk mo wk (va_up fx p (nset (fx p) dy v5)) wi la da we Wv Bv ++ (cX cT c a6 a7 n ro cl fb rn nd V V2 PR pa ++ pool n pa (per sk mo wk (va_up fx p (nset (fx p) dy v5)) wi la da we))) := hD
  refine lv_istore (lv' := [(15, .int (nI (nib (fx p) dy) - nI 1)), (14, .int (nI (nib (fx p) dy) - nI 1)), (0, .ref bb), (1, .ref (c 0)), (2, .ref (z 0)), (3, .ref (z 1)), (4, .ref (z 2)), (5, .ref (z 3)), (6, .ref (z 4)), (7, .ref (z 5)), (8, .ref (z 6)), (9, .int (nI tn)), (10, .int zz), (11, .int (nI act)), (12, .int (nI p)), (13, .int (nI dy))]) S.1 S.2.1 dL_law_675 hl (by decide) rfl (fun ls hl => ?_)
  refine lv_goto (tgt := 1009) S.1 S.2.1 dL_law_677 (by decide) ?_
  refine W.widen (k := cells + 1) (n := slots + 8) (by omega) (by omega) ?_
  exact kk v5 (hv5) H locs hP hD hS ls (lv_sub hl [2, 3, 4, 5, 6, 7, 8, 9, 10, 11, 12, 1, 0] rfl)

set_option maxHeartbeats 4000000 in
set_option maxRecDepth 100000 in
theorem lc_plan (X : LA p0 s0 m0 t0 c0 bb L xs D cT) (hcs0 : cells ≤ room_1.cells ∧ slots ≤ room_1.slots) (hroom : cells + 1 ≤ room_1.cells ∧ slots + 8 ≤ room_1.slots) (hwf : wfC n bd fb rn nd sk mo wk fx wi la da we) (hz : ∀ k, k < 4 → bit fb k = 0) (h0 : ∀ j, n ≤ j → wk j = 0 ∧ wi j = 0 ∧ la j = 0 ∧ da j = 0 ∧ we j = 0 ∧ fx j = 0)  (hP : va_P D vwCl (lX cT z n ro cl fb rn nd sk mo wk fx wi la da we Wv Bv ++ (cX cT c a6 a7 n ro cl fb rn nd V V2 PR pa ++ pool n pa (per sk mo wk fx wi la da we))) H) (hD : va_D (AL s0) (lX cT z n ro cl fb rn nd sk mo wk fx wi la da we Wv Bv ++ (cX cT c a6 a7 n ro cl fb rn nd V V2 PR pa ++ pool n pa (per sk mo wk fx wi la da we)))) (hS : va_S (AL s0) s0.heap H locs) (hl : lv_has ls 19 [(0, .ref bb), (1, .ref (c 0)), (2, .ref (z 0)), (3, .ref (z 1)), (4, .ref (z 2)), (5, .ref (z 3)), (6, .ref (z 4)), (7, .ref (z 5)), (8, .ref (z 6)), (9, .int (nI tn)), (10, .int zz), (11, .int (nI act)), (12, .int (nI p)), (13, .int (nI dy)), (14, .int (nI 0)), (15, .int (nI 0))]) (kk : ∀ (u1 : Nat × (Nat → Int32) × (Nat → Int32)) (u2 : Nat × Nat × Nat × (Nat → Int64) × (Nat → Int64) × (Nat → Int64)) , (PRd (cho n fb rn nd sk mo fx wi la da we) n (fun _ => 0) u1.1) → ∀ (H : Heap) (locs : List Loc), va_P D vwCl (lX cT z n u1.1 cl fb rn nd sk mo ((pls (cho n fb rn nd sk mo fx wi la da we) n (fun _ => 0) u1.1).1) fx wi la da we u1.2.1 u1.2.2 ++ (cX cT c u2.2.1 u2.2.2.1 n u1.1 cl fb rn nd u2.2.2.2.1 u2.2.2.2.2.1 u2.2.2.2.2.2 pa ++ pool n pa (per sk mo ((pls (cho n fb rn nd sk mo fx wi la da we) n (fun _ => 0) u1.1).1) fx wi la da we))) H → va_D (AL s0) (lX cT z n u1.1 cl fb rn nd sk mo ((pls (cho n fb rn nd sk mo fx wi la da we) n (fun _ => 0) u1.1).1) fx wi la da we u1.2.1 u1.2.2 ++ (cX cT c u2.2.1 u2.2.2.1 n u1.1 cl fb rn nd u2.2.2.2.1 u2.2.2.2.2.1 u2.2.2.2.2.2 pa ++ pool n pa (per sk mo ((pls (cho n fb rn nd sk mo fx wi la da we) n (fun _ => 0) u1.1).1) fx wi la da we))) → va_S (AL s0) s0.heap H locs → ∀ ls : Array Slot, lv_has ls 19 [(0, .ref bb), (1, .ref (c 0)), (2, .ref (z 0)), (3, .ref (z 1)), (4, .ref (z 2)), (5, .ref (z 3)), (6, .ref (z 4)), (7, .ref (z 5)), (8, .ref (z 6)), (9, .int (nI tn)), (10, .int zz), (14, .int (nI (gpd n nd ((pls (cho n fb rn nd sk mo fx wi la da we) n (fun _ => 0) u1.1).1) 7))), (15, .int (nI (gpd n nd ((pls (cho n fb rn nd sk mo fx wi la da we) n (fun _ => 0) u1.1).1) 7)))] → W p0 l e0 room_1 s0 m0 #[Value.ref bb] b0 t0 c0 H locs (cells + 1) (slots + 8) Q0 (F0 m0 1009 ls [])) : W p0 l e0 room_1 s0 m0 #[Value.ref bb] b0 t0 c0 H locs cells slots Q0 (F0 m0 687 ls []) := by
  obtain ⟨S, hL, hX, hbl, hK, hXS⟩ := id X
  have hA : ∀ q : Nat, s0.heap.size ≤ q → AL s0 q := fun _ h => h
  have hinj : inj n pa := inj_D (X := cX cT c a6 a7 n ro cl fb rn nd V V2 PR pa) (fr_Dr hD)
  obtain ⟨hn, hcl, hfb, hrn, hnd, hper⟩ := id hwf
  have hwz : ∀ k, n ≤ k → wk k = 0 := fun k hk => (h0 k hk).1
  refine lv_aload S.1 S.2.1 dL_law_687 (lv_at hl 6 rfl) ?_
  refine lv_aload S.1 S.2.1 dL_law_689 (lv_at hl 7 rfl) ?_
  refine lv_aload_n S.1 S.2.1 dL_law_691 rfl (lv_at hl 2 rfl) ?_
  refine lv_aload_n S.1 S.2.1 dL_law_692 rfl (lv_at hl 3 rfl) ?_
  refine lv_aload S.1 S.2.1 dL_law_693 (lv_at hl 4 rfl) ?_
  refine lv_aload S.1 S.2.1 dL_law_695 (lv_at hl 5 rfl) ?_
  refine lv_aload S.1 S.2.1 dL_law_697 (lv_at hl 8 rfl) ?_
  refine fr1_callSv (rest := []) S (w_L_plans l D cT _ z bd n ro cl fb rn nd sk mo wk fx wi la da we Wv Bv (hwf) (hz) (hwz)) gL_law_L_plans rfl pd_L_plans ⟨rfl, rfl, Nat.le_of_ble_eq_true rfl, Nat.le_of_ble_eq_true rfl⟩ hP hK hD hS hA hl rfl rfl (Nat.le_of_ble_eq_true rfl) hcs0 dL_law_699 (fun u1 H locs hr_ hP hD hS => ?_)
  have hq1 := hr_
  have hP : va_P D vwCl (lX cT z n u1.1 cl fb rn nd sk mo ((pls (cho n fb rn nd sk mo fx wi la da we) n (fun _ => 0) u1.1).1) fx wi la da we u1.2.1 u1.2.2 ++ (cX cT c a6 a7 n ro cl fb rn nd V V2 PR pa ++ pool n pa (per sk mo wk fx wi la da we))) H := hP
  have hD : va_D (AL s0) (lX cT z n u1.1 cl fb rn nd sk mo ((pls (cho n fb rn nd sk mo fx wi la da we) n (fun _ => 0) u1.1).1) fx wi la da we u1.2.1 u1.2.2 ++ (cX cT c a6 a7 n ro cl fb rn nd V V2 PR pa ++ pool n pa (per sk mo wk fx wi la da we))) := hD
  have hwf1 : wfC n bd fb rn nd sk mo ((pls (cho n fb rn nd sk mo fx wi la da we) n (fun _ => 0) u1.1).1) fx wi la da we := wf_fun hwf (pls_lt (fun w p => cho_lt _ _ _ _ _ _ _ _ _ _ _ w p) (fun _ => by decide) u1.1)
  refine lv_aload_n S.1 S.2.1 dL_law_702 rfl (lv_at hl 3 rfl) ?_
  refine lv_aload S.1 S.2.1 dL_law_703 (lv_at hl 5 rfl) ?_
  refine lv_aload S.1 S.2.1 dL_law_705 (lv_at hl 8 rfl) ?_
  refine rd_callS (rest := []) S (r_L_gaps l D cT z bd n u1.1 cl fb rn nd sk mo ((pls (cho n fb rn nd sk mo fx wi la da we) n (fun _ => 0) u1.1).1) fx wi la da we u1.2.1 u1.2.2 (hwf1)) gL_law_L_gaps rfl pd_L_gaps ⟨rfl, rfl, Nat.le_of_ble_eq_true rfl, Nat.le_of_ble_eq_true rfl⟩ (fr_l hP) hK hl rfl rfl (Nat.le_of_ble_eq_true rfl) hcs0 dL_law_707 ?_
  refine lv_istore (lv' := [(14, .int (nI (gpd n nd ((pls (cho n fb rn nd sk mo fx wi la da we) n (fun _ => 0) u1.1).1) 7))), (0, .ref bb), (1, .ref (c 0)), (2, .ref (z 0)), (3, .ref (z 1)), (4, .ref (z 2)), (5, .ref (z 3)), (6, .ref (z 4)), (7, .ref (z 5)), (8, .ref (z 6)), (9, .int (nI tn)), (10, .int zz), (11, .int (nI act)), (12, .int (nI p)), (13, .int (nI dy)), (15, .int (nI 0))]) S.1 S.2.1 dL_law_710 hl (by decide) rfl (fun ls hl => ?_)
  refine lv_aload_n S.1 S.2.1 dL_law_712 rfl (lv_at hl 2 rfl) ?_
  refine fr2_callVi (rest := []) S (w_X8_plan l D cT _ c pa bd a6 a7 n ro cl fb rn nd sk mo wk fx wi la da we V V2 PR (hwf) (hinj) (hwz)) gL_law_X8_plan rfl pd_X8_plan ⟨rfl, rfl, Nat.le_of_ble_eq_true rfl, Nat.le_of_ble_eq_true rfl⟩ hP hK hD hS hA (va_recv hK.1 (fr_r hP) (ci := 6) (q0 := 0) rfl rfl) hl rfl rfl (Nat.le_of_ble_eq_true rfl) hcs0 dL_law_713 (fun r_ u2 H locs hr_ hP hD hS => ?_)
  obtain ⟨hq2, hr2⟩ := hr_
  have er := PR_one hq1 hq2
  rw [← er] at hP hD hr2
  subst hr2
  have hP : va_P D vwCl (lX cT z n u1.1 cl fb rn nd sk mo ((pls (cho n fb rn nd sk mo fx wi la da we) n (fun _ => 0) u1.1).1) fx wi la da we u1.2.1 u1.2.2 ++ (cX cT c u2.2.1 u2.2.2.1 n u1.1 cl fb rn nd u2.2.2.2.1 u2.2.2.2.2.1 u2.2.2.2.2.2 pa ++ pool n pa (per sk mo ((pls (cho n fb rn nd sk mo fx wi la da we) n (fun _ => 0) u1.1).1) fx wi la da we))) H := hP
  have hD : va_D (AL s0) (lX cT z n u1.1 cl fb rn nd sk mo ((pls (cho n fb rn nd sk mo fx wi la da we) n (fun _ => 0) u1.1).1) fx wi la da we u1.2.1 u1.2.2 ++ (cX cT c u2.2.1 u2.2.2.1 n u1.1 cl fb rn nd u2.2.2.2.1 u2.2.2.2.2.1 u2.2.2.2.2.2 pa ++ pool n pa (per sk mo ((pls (cho n fb rn nd sk mo fx wi la da we) n (fun _ => 0) u1.1).1) fx wi la da we))) := hD
  refine lv_istore (lv' := [(15, .int (nI (gpd n nd ((pls (cho n fb rn nd sk mo fx wi la da we) n (fun _ => 0) u1.1).1) 7))), (14, .int (nI (gpd n nd ((pls (cho n fb rn nd sk mo fx wi la da we) n (fun _ => 0) u1.1).1) 7))), (0, .ref bb), (1, .ref (c 0)), (2, .ref (z 0)), (3, .ref (z 1)), (4, .ref (z 2)), (5, .ref (z 3)), (6, .ref (z 4)), (7, .ref (z 5)), (8, .ref (z 6)), (9, .int (nI tn)), (10, .int zz), (11, .int (nI act)), (12, .int (nI p)), (13, .int (nI dy))]) S.1 S.2.1 dL_law_716 hl (by decide) rfl (fun ls hl => ?_)
  refine lv_goto (tgt := 1009) S.1 S.2.1 dL_law_718 (by decide) ?_
  refine W.widen (k := cells + 1) (n := slots + 8) (by omega) (by omega) ?_
  exact kk u1 u2 (hq1) H locs hP hD hS ls (lv_sub hl [2, 3, 4, 5, 6, 7, 8, 9, 10, 11, 12, 1, 0] rfl)

set_option maxHeartbeats 4000000 in
set_option maxRecDepth 100000 in
theorem lc_set (X : LA p0 s0 m0 t0 c0 bb L xs D cT) (hcs0 : cells ≤ room_1.cells ∧ slots ≤ room_1.slots) (hroom : cells + 1 ≤ room_1.cells ∧ slots + 8 ≤ room_1.slots) (hwf : wfC n bd fb rn nd sk mo wk fx wi la da we) (hz : ∀ k, k < 4 → bit fb k = 0) (h0 : ∀ j, n ≤ j → wk j = 0 ∧ wi j = 0 ∧ la j = 0 ∧ da j = 0 ∧ we j = 0 ∧ fx j = 0) (hp : p < n) (hdy : dy < 7) (hfl : l.stackTraces = false) (hP : va_P D vwCl (lX cT z n ro cl fb rn nd sk mo wk fx wi la da we Wv Bv ++ (cX cT c a6 a7 n ro cl fb rn nd V V2 PR pa ++ pool n pa (per sk mo wk fx wi la da we))) H) (hD : va_D (AL s0) (lX cT z n ro cl fb rn nd sk mo wk fx wi la da we Wv Bv ++ (cX cT c a6 a7 n ro cl fb rn nd V V2 PR pa ++ pool n pa (per sk mo wk fx wi la da we)))) (hS : va_S (AL s0) s0.heap H locs) (hl : lv_has ls 19 [(0, .ref bb), (1, .ref (c 0)), (2, .ref (z 0)), (3, .ref (z 1)), (4, .ref (z 2)), (5, .ref (z 3)), (6, .ref (z 4)), (7, .ref (z 5)), (8, .ref (z 6)), (9, .int (nI tn)), (10, .int zz), (11, .int (nI act)), (12, .int (nI p)), (13, .int (nI dy)), (14, .int (nI 0)), (15, .int (nI 0))]) (kk : ∀ (w2 : Nat → Nat) (W2 : Nat → Int32) (tv : Int32) , (∀ j, w2 j < 16384) → (∀ j, n ≤ j → w2 j = 0) → ∀ (H : Heap) (locs : List Loc), va_P D vwCl (lX cT z n ro cl fb rn nd sk mo w2 fx wi la da we W2 Bv ++ (cX cT c a6 a7 n ro cl fb rn nd V V2 PR pa ++ pool n pa (per sk mo w2 fx wi la da we))) H → va_D (AL s0) (lX cT z n ro cl fb rn nd sk mo w2 fx wi la da we W2 Bv ++ (cX cT c a6 a7 n ro cl fb rn nd V V2 PR pa ++ pool n pa (per sk mo w2 fx wi la da we))) → va_S (AL s0) s0.heap H locs → ∀ ls : Array Slot, lv_has ls 19 [(0, .ref bb), (1, .ref (c 0)), (2, .ref (z 0)), (3, .ref (z 1)), (4, .ref (z 2)), (5, .ref (z 3)), (6, .ref (z 4)), (7, .ref (z 5)), (8, .ref (z 6)), (9, .int (nI tn)), (10, .int zz), (14, .int (tv)), (15, .int (tv))] → W p0 l e0 room_1 s0 m0 #[Value.ref bb] b0 t0 c0 H locs (cells + 1) (slots + 8) Q0 (F0 m0 1009 ls [])) : W p0 l e0 room_1 s0 m0 #[Value.ref bb] b0 t0 c0 H locs cells slots Q0 (F0 m0 728 ls []) := by
  obtain ⟨S, hL, hX, hbl, hK, hXS⟩ := id X
  have hA : ∀ q : Nat, s0.heap.size ≤ q → AL s0 q := fun _ h => h
  have hinj : inj n pa := inj_D (X := cX cT c a6 a7 n ro cl fb rn nd V V2 PR pa) (fr_Dr hD)
  obtain ⟨hn, hcl, hfb, hrn, hnd, hper⟩ := id hwf
  have hpi := hper p
  refine lv_iload S.1 S.2.1 dL_law_728 (lv_at hl 10 rfl) ?_
  refine lv_bipush (v := (nI 11)) S.1 S.2.1 dL_law_730 (by decide) ?_
  refine lv_ishr S.1 S.2.1 dL_law_732 ?_
  refine lv_iconst (v := (nI 4)) S.1 S.2.1 dL_law_733 (by decide) ?_
  refine rd_callS (rest := []) S (r_L_low l D cT (zz >>> ((nI 11) &&& 31)) 4 (by omega)) gL_law_L_low rfl pd_L_low ⟨rfl, rfl, Nat.le_of_ble_eq_true rfl, Nat.le_of_ble_eq_true rfl⟩ (sx_P0 D _) hK hl rfl rfl (Nat.le_of_ble_eq_true rfl) hcs0 dL_law_734 ?_
  have he4 := Nat.mod_lt (lowb (zz >>> ((nI 11) &&& 31))) (show 4 > 0 from by omega)
  generalize lowb (zz >>> ((nI 11) &&& 31)) % 4 = e4 at he4 ⊢
  refine lv_istore (lv' := [(16, .int (nI e4)), (0, .ref bb), (1, .ref (c 0)), (2, .ref (z 0)), (3, .ref (z 1)), (4, .ref (z 2)), (5, .ref (z 3)), (6, .ref (z 4)), (7, .ref (z 5)), (8, .ref (z 6)), (9, .int (nI tn)), (10, .int zz), (11, .int (nI act)), (12, .int (nI p)), (13, .int (nI dy)), (14, .int (nI 0)), (15, .int (nI 0))]) S.1 S.2.1 dL_law_737 hl (by decide) rfl (fun ls hl => ?_)
  refine lv_iload S.1 S.2.1 dL_law_739 (lv_at hl 13 rfl) ?_
  refine lv_iload S.1 S.2.1 dL_law_741 (lv_at hl 14 rfl) ?_
  refine lv_iload S.1 S.2.1 dL_law_743 (lv_at hl 0 rfl) ?_
  refine lv_aload S.1 S.2.1 dL_law_745 (lv_at hl 7 rfl) ?_
  refine lv_aload_n S.1 S.2.1 dL_law_747 rfl (lv_at hl 3 rfl) ?_
  refine lv_aload_n S.1 S.2.1 dL_law_748 rfl (lv_at hl 4 rfl) ?_
  refine lv_aload S.1 S.2.1 dL_law_749 (lv_at hl 5 rfl) ?_
  refine lv_aload S.1 S.2.1 dL_law_751 (lv_at hl 6 rfl) ?_
  refine fr1_callSi (rest := []) S (w_L_could l D cT _ z bd n ro cl fb rn nd sk mo wk fx wi la da we Wv Bv p dy e4 (hwf) (hz) (by omega) (hdy) (he4)) gL_law_L_could rfl pd_L_could ⟨rfl, rfl, Nat.le_of_ble_eq_true rfl, Nat.le_of_ble_eq_true rfl⟩ hP hK hD hS hA hl rfl rfl (Nat.le_of_ble_eq_true rfl) hcs0 dL_law_753 (fun r_ u1 H locs hr_ hP hD hS => ?_)
  subst hr_
  have hP : va_P D vwCl (lX cT z n ro cl fb rn nd sk mo wk fx wi la da we u1 Bv ++ (cX cT c a6 a7 n ro cl fb rn nd V V2 PR pa ++ pool n pa (per sk mo wk fx wi la da we))) H := hP
  have hD : va_D (AL s0) (lX cT z n ro cl fb rn nd sk mo wk fx wi la da we u1 Bv ++ (cX cT c a6 a7 n ro cl fb rn nd V V2 PR pa ++ pool n pa (per sk mo wk fx wi la da we))) := hD
  rcases Bool.eq_false_or_eq_true (fe sk mo fx la da fb rn p (wset (wk p) dy e4)) with hcan | hcan
  · refine n_top (show nI (fe sk mo fx la da fb rn p (wset (wk p) dy e4)).toNat = nI 1 from by rw [hcan]; rfl) ?_
    refine lv_istore (lv' := [(17, .int (nI 1)), (16, .int (nI e4)), (0, .ref bb), (1, .ref (c 0)), (2, .ref (z 0)), (3, .ref (z 1)), (4, .ref (z 2)), (5, .ref (z 3)), (6, .ref (z 4)), (7, .ref (z 5)), (8, .ref (z 6)), (9, .int (nI tn)), (10, .int zz), (11, .int (nI act)), (12, .int (nI p)), (13, .int (nI dy)), (14, .int (nI 0)), (15, .int (nI 0))]) S.1 S.2.1 dL_law_756 hl (by decide) rfl (fun ls hl => ?_)
    refine lv_iload S.1 S.2.1 dL_law_758 (lv_at hl 0 rfl) ?_
    refine n_zeq S (tgt := 776) (by decide) dL_law_760 (by decide) (fun q => absurd q (by decide)) (fun _ => ?_)
    refine lv_aload_n S.1 S.2.1 dL_law_763 rfl (lv_at hl 5 rfl) ?_
    refine lv_bipush (v := (nI 7)) S.1 S.2.1 dL_law_764 (by decide) ?_
    refine lv_iload S.1 S.2.1 dL_law_766 (lv_at hl 14 rfl) ?_
    refine n_mul S dL_law_768 ?_
    refine lv_iload S.1 S.2.1 dL_law_769 (lv_at hl 15 rfl) ?_
    refine n_add S dL_law_771 ?_
    refine g_iald S 1 hK hP rfl (by omega) dL_law_772 ?_
    refine n_top (show (nI ((enf wk) ((7 * p) + dy))) = (nI (ent (wk p) dy)) from congrArg nI (en_at hdy)) ?_
    refine lv_goto (tgt := 778) S.1 S.2.1 dL_law_773 (by decide) ?_
    refine lv_istore (lv' := [(14, .int (nI (ent (wk p) dy))), (17, .int (nI 1)), (16, .int (nI e4)), (0, .ref bb), (1, .ref (c 0)), (2, .ref (z 0)), (3, .ref (z 1)), (4, .ref (z 2)), (5, .ref (z 3)), (6, .ref (z 4)), (7, .ref (z 5)), (8, .ref (z 6)), (9, .int (nI tn)), (10, .int zz), (11, .int (nI act)), (12, .int (nI p)), (13, .int (nI dy)), (15, .int (nI 0))]) S.1 S.2.1 dL_law_778 hl (by decide) rfl (fun ls hl => ?_)
    refine lv_aload_n S.1 S.2.1 dL_law_780 rfl (lv_at hl 6 rfl) ?_
    refine lv_bipush (v := (nI 7)) S.1 S.2.1 dL_law_781 (by decide) ?_
    refine lv_iload S.1 S.2.1 dL_law_783 (lv_at hl 15 rfl) ?_
    refine n_mul S dL_law_785 ?_
    refine lv_iload S.1 S.2.1 dL_law_786 (lv_at hl 16 rfl) ?_
    refine n_add S dL_law_788 ?_
    refine lv_iload S.1 S.2.1 dL_law_789 (lv_at hl 1 rfl) ?_
    refine n_zeq S (tgt := 799) (by decide) dL_law_791 (by decide) (fun q => absurd q (by decide)) (fun _ => ?_)
    refine lv_iload S.1 S.2.1 dL_law_794 (lv_at hl 2 rfl) ?_
    refine lv_goto (tgt := 809) S.1 S.2.1 dL_law_796 (by decide) ?_
    refine w_iast S 1 hK hP hD hS rfl (by omega) dL_law_809 (fun H locs hP hD hS => ?_)
    have hP : va_P D vwCl (lX cT z n ro cl fb rn nd sk mo (va_up wk p (wset (wk p) dy e4)) fx wi la da we u1 Bv ++ (cX cT c a6 a7 n ro cl fb rn nd V V2 PR pa ++ pool n pa (per sk mo wk fx wi la da we))) H := by rw [en_up (wk := wk) (i := p) (d := dy) (v := e4) (by omega) (by first | omega | exact ent_lt _ _)] at hP; exact hP
    have hD : va_D (AL s0) (lX cT z n ro cl fb rn nd sk mo (va_up wk p (wset (wk p) dy e4)) fx wi la da we u1 Bv ++ (cX cT c a6 a7 n ro cl fb rn nd V V2 PR pa ++ pool n pa (per sk mo wk fx wi la da we))) := by rw [en_up (wk := wk) (i := p) (d := dy) (v := e4) (by omega) (by first | omega | exact ent_lt _ _)] at hD; exact hD
    refine lv_aload_n S.1 S.2.1 dL_law_810 rfl (lv_at hl 4 rfl) ?_
    refine lv_iconst (v := (nI 1)) S.1 S.2.1 dL_law_811 (by decide) ?_
    refine lv_iload S.1 S.2.1 dL_law_812 (lv_at hl 15 rfl) ?_
    refine lv_iload S.1 S.2.1 dL_law_814 (lv_at hl 16 rfl) ?_
    refine lv_iload S.1 S.2.1 dL_law_816 (lv_at hl 2 rfl) ?_
    refine fr2_callSx (As := [.ref (c 0), .int (nI 1), .int (nI p), .int (nI dy), .int (nI e4)]) (rest := []) S (co_set l D cT _ (c 0) (nI p) (nI dy) (nI e4) (fun sz => w_X8_set l D cT sz c pa bd a6 a7 n ro cl fb rn nd sk mo wk fx wi la da we V V2 PR p dy e4 hwf hp hdy he4 hcan) ⟨rfl, rfl, by decide, by decide⟩ ⟨by decide, by decide⟩ rfl) gL_law_L_calls rfl pd_L_calls ⟨rfl, rfl, Nat.le_of_ble_eq_true rfl, Nat.le_of_ble_eq_true rfl⟩ hP hK (XS.law hXS hS) hD hS hA hl rfl rfl (Nat.le_of_ble_eq_true rfl) hroom dL_law_818 (fun r_ u9 H locs hr_ hP hD hS => ?_)
    subst hr_
    have hP : va_P D vwCl (lX cT z n ro cl fb rn nd sk mo (va_up wk p (wset (wk p) dy e4)) fx wi la da we u1 Bv ++ (cX cT c a6 a7 n ro cl fb rn nd V V2 PR pa ++ pool n pa (per sk mo (va_up wk p (wset (wk p) dy e4)) fx wi la da we))) H := hP
    have hD : va_D (AL s0) (lX cT z n ro cl fb rn nd sk mo (va_up wk p (wset (wk p) dy e4)) fx wi la da we u1 Bv ++ (cX cT c a6 a7 n ro cl fb rn nd V V2 PR pa ++ pool n pa (per sk mo (va_up wk p (wset (wk p) dy e4)) fx wi la da we))) := hD
    refine lv_istore (lv' := [(15, .int (nI (ent (wk p) dy))), (14, .int (nI (ent (wk p) dy))), (17, .int (nI 1)), (16, .int (nI e4)), (0, .ref bb), (1, .ref (c 0)), (2, .ref (z 0)), (3, .ref (z 1)), (4, .ref (z 2)), (5, .ref (z 3)), (6, .ref (z 4)), (7, .ref (z 5)), (8, .ref (z 6)), (9, .int (nI tn)), (10, .int zz), (11, .int (nI act)), (12, .int (nI p)), (13, .int (nI dy))]) S.1 S.2.1 dL_law_821 hl (by decide) rfl (fun ls hl => ?_)
    refine lv_goto (tgt := 1009) S.1 S.2.1 dL_law_823 (by decide) ?_
    refine W.widen (k := cells + 1) (n := slots + 8) (by omega) (by omega) ?_
    exact kk (va_up wk p (wset (wk p) dy e4)) u1 (nI (ent (wk p) dy)) (fun j => up_all (P := fun z => z < 16384) (fun j => (hper j).2.2.1) (wset_lt (hper p).2.2.1 hdy he4) j) (fun j hj => by rw [vu_n (by omega)]; exact (h0 j hj).1) H locs hP hD hS ls (lv_sub hl [4, 5, 6, 7, 8, 9, 10, 11, 12, 13, 14, 1, 0] rfl)
  · refine n_top (show nI (fe sk mo fx la da fb rn p (wset (wk p) dy e4)).toNat = nI 0 from by rw [hcan]; rfl) ?_
    refine lv_istore (lv' := [(17, .int (nI 0)), (16, .int (nI e4)), (0, .ref bb), (1, .ref (c 0)), (2, .ref (z 0)), (3, .ref (z 1)), (4, .ref (z 2)), (5, .ref (z 3)), (6, .ref (z 4)), (7, .ref (z 5)), (8, .ref (z 6)), (9, .int (nI tn)), (10, .int zz), (11, .int (nI act)), (12, .int (nI p)), (13, .int (nI dy)), (14, .int (nI 0)), (15, .int (nI 0))]) S.1 S.2.1 dL_law_756 hl (by decide) rfl (fun ls hl => ?_)
    refine lv_iload S.1 S.2.1 dL_law_758 (lv_at hl 0 rfl) ?_
    refine n_zeq S (tgt := 776) (by decide) dL_law_760 (by decide) (fun _ => ?_) (fun q => absurd q (by decide))
    refine lv_bipush (v := (-3)) S.1 S.2.1 dL_law_776 (by decide) ?_
    refine lv_istore (lv' := [(14, .int (-3)), (17, .int (nI 0)), (16, .int (nI e4)), (0, .ref bb), (1, .ref (c 0)), (2, .ref (z 0)), (3, .ref (z 1)), (4, .ref (z 2)), (5, .ref (z 3)), (6, .ref (z 4)), (7, .ref (z 5)), (8, .ref (z 6)), (9, .int (nI tn)), (10, .int zz), (11, .int (nI act)), (12, .int (nI p)), (13, .int (nI dy)), (15, .int (nI 0))]) S.1 S.2.1 dL_law_778 hl (by decide) rfl (fun ls hl => ?_)
    refine lv_aload_n S.1 S.2.1 dL_law_780 rfl (lv_at hl 6 rfl) ?_
    refine lv_bipush (v := (nI 7)) S.1 S.2.1 dL_law_781 (by decide) ?_
    refine lv_iload S.1 S.2.1 dL_law_783 (lv_at hl 15 rfl) ?_
    refine n_mul S dL_law_785 ?_
    refine lv_iload S.1 S.2.1 dL_law_786 (lv_at hl 16 rfl) ?_
    refine n_add S dL_law_788 ?_
    refine lv_iload S.1 S.2.1 dL_law_789 (lv_at hl 1 rfl) ?_
    refine n_zeq S (tgt := 799) (by decide) dL_law_791 (by decide) (fun _ => ?_) (fun q => absurd q (by decide))
    refine lv_aload_n S.1 S.2.1 dL_law_799 rfl (lv_at hl 6 rfl) ?_
    refine lv_bipush (v := (nI 7)) S.1 S.2.1 dL_law_800 (by decide) ?_
    refine lv_iload S.1 S.2.1 dL_law_802 (lv_at hl 15 rfl) ?_
    refine n_mul S dL_law_804 ?_
    refine lv_iload S.1 S.2.1 dL_law_805 (lv_at hl 16 rfl) ?_
    refine n_add S dL_law_807 ?_
    refine g_iald S 1 hK hP rfl (by omega) dL_law_808 ?_
    refine n_top (show (nI ((enf wk) ((7 * p) + dy))) = (nI (ent (wk p) dy)) from congrArg nI (en_at hdy)) ?_
    refine w_iast S 1 hK hP hD hS rfl (by omega) dL_law_809 (fun H locs hP hD hS => ?_)
    have hP : va_P D vwCl (lX cT z n ro cl fb rn nd sk mo (va_up wk p (wset (wk p) dy (ent (wk p) dy))) fx wi la da we u1 Bv ++ (cX cT c a6 a7 n ro cl fb rn nd V V2 PR pa ++ pool n pa (per sk mo wk fx wi la da we))) H := by rw [en_up (wk := wk) (i := p) (d := dy) (v := ent (wk p) dy) (by omega) (by first | omega | exact ent_lt _ _)] at hP; exact hP
    have hD : va_D (AL s0) (lX cT z n ro cl fb rn nd sk mo (va_up wk p (wset (wk p) dy (ent (wk p) dy))) fx wi la da we u1 Bv ++ (cX cT c a6 a7 n ro cl fb rn nd V V2 PR pa ++ pool n pa (per sk mo wk fx wi la da we))) := by rw [en_up (wk := wk) (i := p) (d := dy) (v := ent (wk p) dy) (by omega) (by first | omega | exact ent_lt _ _)] at hD; exact hD
    have ei : va_up wk p (wset (wk p) dy (ent (wk p) dy)) = wk := by rw [ws_id, vu_id]
    rw [ei] at hP hD
    have hP : va_P D vwCl (lX cT z n ro cl fb rn nd sk mo wk fx wi la da we u1 Bv ++ (cX cT c a6 a7 n ro cl fb rn nd V V2 PR pa ++ pool n pa (per sk mo wk fx wi la da we))) H := hP
    have hD : va_D (AL s0) (lX cT z n ro cl fb rn nd sk mo wk fx wi la da we u1 Bv ++ (cX cT c a6 a7 n ro cl fb rn nd V V2 PR pa ++ pool n pa (per sk mo wk fx wi la da we))) := hD
    refine lv_aload_n S.1 S.2.1 dL_law_810 rfl (lv_at hl 4 rfl) ?_
    refine lv_iconst (v := (nI 1)) S.1 S.2.1 dL_law_811 (by decide) ?_
    refine lv_iload S.1 S.2.1 dL_law_812 (lv_at hl 15 rfl) ?_
    refine lv_iload S.1 S.2.1 dL_law_814 (lv_at hl 16 rfl) ?_
    refine lv_iload S.1 S.2.1 dL_law_816 (lv_at hl 2 rfl) ?_
    refine fr2_callSx (As := [.ref (c 0), .int (nI 1), .int (nI p), .int (nI dy), .int (nI e4)]) (rest := []) S (ct_set l D cT _ (c 0) (nI p) (nI dy) (nI e4) (fun sz => t_X8_set_x3 l D cT sz c pa bd a6 a7 n ro cl fb rn nd sk mo wk fx wi la da we V V2 PR p dy e4 hwf hp hdy he4 hcan hfl) rfl) gL_law_L_calls rfl pd_L_calls ⟨rfl, rfl, Nat.le_of_ble_eq_true rfl, Nat.le_of_ble_eq_true rfl⟩ hP hK (XS.law hXS hS) hD hS hA hl rfl rfl (Nat.le_of_ble_eq_true rfl) hroom dL_law_818 (fun r_ u9 H locs hr_ hP hD hS => ?_)
    subst hr_
    have hP : va_P D vwCl (lX cT z n ro cl fb rn nd sk mo wk fx wi la da we u1 Bv ++ (cX cT c a6 a7 n ro cl fb rn nd V V2 PR pa ++ pool n pa (per sk mo wk fx wi la da we))) H := hP
    have hD : va_D (AL s0) (lX cT z n ro cl fb rn nd sk mo wk fx wi la da we u1 Bv ++ (cX cT c a6 a7 n ro cl fb rn nd V V2 PR pa ++ pool n pa (per sk mo wk fx wi la da we))) := hD
    refine lv_istore (lv' := [(15, .int (-3)), (14, .int (-3)), (17, .int (nI 0)), (16, .int (nI e4)), (0, .ref bb), (1, .ref (c 0)), (2, .ref (z 0)), (3, .ref (z 1)), (4, .ref (z 2)), (5, .ref (z 3)), (6, .ref (z 4)), (7, .ref (z 5)), (8, .ref (z 6)), (9, .int (nI tn)), (10, .int zz), (11, .int (nI act)), (12, .int (nI p)), (13, .int (nI dy))]) S.1 S.2.1 dL_law_821 hl (by decide) rfl (fun ls hl => ?_)
    refine lv_goto (tgt := 1009) S.1 S.2.1 dL_law_823 (by decide) ?_
    refine W.widen (k := cells + 1) (n := slots + 8) (by omega) (by omega) ?_
    exact kk wk u1 (-3) (fun j => (hper j).2.2.1) (fun j hj => (h0 j hj).1) H locs hP hD hS ls (lv_sub hl [4, 5, 6, 7, 8, 9, 10, 11, 12, 13, 14, 1, 0] rfl)

set_option maxHeartbeats 4000000 in
set_option maxRecDepth 100000 in
theorem lc_swap (X : LA p0 s0 m0 t0 c0 bb L xs D cT) (hcs0 : cells ≤ room_1.cells ∧ slots ≤ room_1.slots) (hroom : cells + 1 ≤ room_1.cells ∧ slots + 8 ≤ room_1.slots) (hwf : wfC n bd fb rn nd sk mo wk fx wi la da we) (hz : ∀ k, k < 4 → bit fb k = 0) (h0 : ∀ j, n ≤ j → wk j = 0 ∧ wi j = 0 ∧ la j = 0 ∧ da j = 0 ∧ we j = 0 ∧ fx j = 0) (hp : p < n) (hdy : dy < 7) (hfl : l.stackTraces = false) (hP : va_P D vwCl (lX cT z n ro cl fb rn nd sk mo wk fx wi la da we Wv Bv ++ (cX cT c a6 a7 n ro cl fb rn nd V V2 PR pa ++ pool n pa (per sk mo wk fx wi la da we))) H) (hD : va_D (AL s0) (lX cT z n ro cl fb rn nd sk mo wk fx wi la da we Wv Bv ++ (cX cT c a6 a7 n ro cl fb rn nd V V2 PR pa ++ pool n pa (per sk mo wk fx wi la da we)))) (hS : va_S (AL s0) s0.heap H locs) (hl : lv_has ls 19 [(0, .ref bb), (1, .ref (c 0)), (2, .ref (z 0)), (3, .ref (z 1)), (4, .ref (z 2)), (5, .ref (z 3)), (6, .ref (z 4)), (7, .ref (z 5)), (8, .ref (z 6)), (9, .int (nI tn)), (10, .int zz), (11, .int (nI act)), (12, .int (nI p)), (13, .int (nI dy)), (14, .int (nI 0)), (15, .int (nI 0))]) (kk : ∀ (w2 : Nat → Nat) (W2 : Nat → Int32) (tv : Int32) , (∀ j, w2 j < 16384) → (∀ j, n ≤ j → w2 j = 0) → ∀ (H : Heap) (locs : List Loc), va_P D vwCl (lX cT z n ro cl fb rn nd sk mo w2 fx wi la da we W2 Bv ++ (cX cT c a6 a7 n ro cl fb rn nd V V2 PR pa ++ pool n pa (per sk mo w2 fx wi la da we))) H → va_D (AL s0) (lX cT z n ro cl fb rn nd sk mo w2 fx wi la da we W2 Bv ++ (cX cT c a6 a7 n ro cl fb rn nd V V2 PR pa ++ pool n pa (per sk mo w2 fx wi la da we))) → va_S (AL s0) s0.heap H locs → ∀ ls : Array Slot, lv_has ls 19 [(0, .ref bb), (1, .ref (c 0)), (2, .ref (z 0)), (3, .ref (z 1)), (4, .ref (z 2)), (5, .ref (z 3)), (6, .ref (z 4)), (7, .ref (z 5)), (8, .ref (z 6)), (9, .int (nI tn)), (10, .int zz), (14, .int (tv)), (15, .int (tv))] → W p0 l e0 room_1 s0 m0 #[Value.ref bb] b0 t0 c0 H locs (cells + 1) (slots + 8) Q0 (F0 m0 1009 ls [])) : W p0 l e0 room_1 s0 m0 #[Value.ref bb] b0 t0 c0 H locs cells slots Q0 (F0 m0 833 ls []) := by
  obtain ⟨S, hL, hX, hbl, hK, hXS⟩ := id X
  have hA : ∀ q : Nat, s0.heap.size ≤ q → AL s0 q := fun _ h => h
  have hinj : inj n pa := inj_D (X := cX cT c a6 a7 n ro cl fb rn nd V V2 PR pa) (fr_Dr hD)
  obtain ⟨hn, hcl, hfb, hrn, hnd, hper⟩ := id hwf
  have hpi := hper p
  refine lv_iload S.1 S.2.1 dL_law_833 (lv_at hl 10 rfl) ?_
  refine lv_bipush (v := (nI 11)) S.1 S.2.1 dL_law_835 (by decide) ?_
  refine lv_ishr S.1 S.2.1 dL_law_837 ?_
  refine lv_aload S.1 S.2.1 dL_law_838 (lv_at hl 8 rfl) ?_
  refine lv_iconst (v := (nI 0)) S.1 S.2.1 dL_law_840 (by decide) ?_
  refine g_iald S 6 hK hP rfl (by omega) dL_law_841 ?_
  refine n_top (show (nI ((qfn n cl ro) 0)) = (nI n) from rfl) ?_
  refine rd_callS (rest := []) S (r_L_low l D cT (zz >>> ((nI 11) &&& 31)) n (by omega)) gL_law_L_low rfl pd_L_low ⟨rfl, rfl, Nat.le_of_ble_eq_true rfl, Nat.le_of_ble_eq_true rfl⟩ (sx_P0 D _) hK hl rfl rfl (Nat.le_of_ble_eq_true rfl) hcs0 dL_law_842 ?_
  have ho2 := Nat.mod_lt (lowb (zz >>> ((nI 11) &&& 31))) (show n > 0 from by omega)
  generalize lowb (zz >>> ((nI 11) &&& 31)) % n = o2 at ho2 ⊢
  refine lv_istore (lv' := [(16, .int (nI o2)), (0, .ref bb), (1, .ref (c 0)), (2, .ref (z 0)), (3, .ref (z 1)), (4, .ref (z 2)), (5, .ref (z 3)), (6, .ref (z 4)), (7, .ref (z 5)), (8, .ref (z 6)), (9, .int (nI tn)), (10, .int zz), (11, .int (nI act)), (12, .int (nI p)), (13, .int (nI dy)), (14, .int (nI 0)), (15, .int (nI 0))]) S.1 S.2.1 dL_law_845 hl (by decide) rfl (fun ls hl => ?_)
  refine lv_iload S.1 S.2.1 dL_law_847 (lv_at hl 13 rfl) ?_
  refine lv_iload S.1 S.2.1 dL_law_849 (lv_at hl 0 rfl) ?_
  refine lv_iload S.1 S.2.1 dL_law_851 (lv_at hl 14 rfl) ?_
  refine lv_aload S.1 S.2.1 dL_law_853 (lv_at hl 7 rfl) ?_
  refine lv_aload_n S.1 S.2.1 dL_law_855 rfl (lv_at hl 3 rfl) ?_
  refine lv_aload_n S.1 S.2.1 dL_law_856 rfl (lv_at hl 4 rfl) ?_
  refine lv_aload S.1 S.2.1 dL_law_857 (lv_at hl 5 rfl) ?_
  refine lv_aload S.1 S.2.1 dL_law_859 (lv_at hl 6 rfl) ?_
  refine fr1_callSi (rest := []) S (w_L_canSwap l D cT _ z bd n ro cl fb rn nd sk mo wk fx wi la da we Wv Bv p o2 dy (hwf) (hz) (by omega) (by omega) (hdy)) gL_law_L_canSwap rfl pd_L_canSwap ⟨rfl, rfl, Nat.le_of_ble_eq_true rfl, Nat.le_of_ble_eq_true rfl⟩ hP hK hD hS hA hl rfl rfl (Nat.le_of_ble_eq_true rfl) hcs0 dL_law_861 (fun r_ u1 H locs hr_ hP hD hS => ?_)
  subst hr_
  have hP : va_P D vwCl (lX cT z n ro cl fb rn nd sk mo wk fx wi la da we u1 Bv ++ (cX cT c a6 a7 n ro cl fb rn nd V V2 PR pa ++ pool n pa (per sk mo wk fx wi la da we))) H := hP
  have hD : va_D (AL s0) (lX cT z n ro cl fb rn nd sk mo wk fx wi la da we u1 Bv ++ (cX cT c a6 a7 n ro cl fb rn nd V V2 PR pa ++ pool n pa (per sk mo wk fx wi la da we))) := hD
  rcases Bool.eq_false_or_eq_true (p != o2 && csw sk mo wk fx la da fb rn p o2 dy) with hcan | hcan
  · refine n_top (show nI (p != o2 && csw sk mo wk fx la da fb rn p o2 dy).toNat = nI 1 from by rw [hcan]; rfl) ?_
    refine lv_istore (lv' := [(17, .int (nI 1)), (16, .int (nI o2)), (0, .ref bb), (1, .ref (c 0)), (2, .ref (z 0)), (3, .ref (z 1)), (4, .ref (z 2)), (5, .ref (z 3)), (6, .ref (z 4)), (7, .ref (z 5)), (8, .ref (z 6)), (9, .int (nI tn)), (10, .int zz), (11, .int (nI act)), (12, .int (nI p)), (13, .int (nI dy)), (14, .int (nI 0)), (15, .int (nI 0))]) S.1 S.2.1 dL_law_864 hl (by decide) rfl (fun ls hl => ?_)
    have hs2 : p ≠ o2 ∧ csw sk mo wk fx la da fb rn p o2 dy = true := by rw [Bool.and_eq_true] at hcan; exact ⟨bne_iff_ne.mp hcan.1, hcan.2⟩
    have hij : p ≠ o2 := hs2.1
    refine lv_aload_n S.1 S.2.1 dL_law_866 rfl (lv_at hl 5 rfl) ?_
    refine lv_bipush (v := (nI 7)) S.1 S.2.1 dL_law_867 (by decide) ?_
    refine lv_iload S.1 S.2.1 dL_law_869 (lv_at hl 14 rfl) ?_
    refine n_mul S dL_law_871 ?_
    refine lv_iload S.1 S.2.1 dL_law_872 (lv_at hl 15 rfl) ?_
    refine n_add S dL_law_874 ?_
    refine g_iald S 1 hK hP rfl (by omega) dL_law_875 ?_
    refine n_top (show (nI ((enf wk) ((7 * p) + dy))) = (nI (ent (wk p) dy)) from congrArg nI (en_at hdy)) ?_
    refine lv_istore (lv' := [(18, .int (nI (ent (wk p) dy))), (17, .int (nI 1)), (16, .int (nI o2)), (0, .ref bb), (1, .ref (c 0)), (2, .ref (z 0)), (3, .ref (z 1)), (4, .ref (z 2)), (5, .ref (z 3)), (6, .ref (z 4)), (7, .ref (z 5)), (8, .ref (z 6)), (9, .int (nI tn)), (10, .int zz), (11, .int (nI act)), (12, .int (nI p)), (13, .int (nI dy)), (14, .int (nI 0)), (15, .int (nI 0))]) S.1 S.2.1 dL_law_876 hl (by decide) rfl (fun ls hl => ?_)
    refine lv_aload_n S.1 S.2.1 dL_law_878 rfl (lv_at hl 6 rfl) ?_
    refine lv_bipush (v := (nI 7)) S.1 S.2.1 dL_law_879 (by decide) ?_
    refine lv_iload S.1 S.2.1 dL_law_881 (lv_at hl 15 rfl) ?_
    refine n_mul S dL_law_883 ?_
    refine lv_iload S.1 S.2.1 dL_law_884 (lv_at hl 16 rfl) ?_
    refine n_add S dL_law_886 ?_
    refine lv_iload S.1 S.2.1 dL_law_887 (lv_at hl 1 rfl) ?_
    refine n_zeq S (tgt := 905) (by decide) dL_law_889 (by decide) (fun q => absurd q (by decide)) (fun _ => ?_)
    refine lv_aload_n S.1 S.2.1 dL_law_892 rfl (lv_at hl 6 rfl) ?_
    refine lv_bipush (v := (nI 7)) S.1 S.2.1 dL_law_893 (by decide) ?_
    refine lv_iload S.1 S.2.1 dL_law_895 (lv_at hl 2 rfl) ?_
    refine n_mul S dL_law_897 ?_
    refine lv_iload S.1 S.2.1 dL_law_898 (lv_at hl 16 rfl) ?_
    refine n_add S dL_law_900 ?_
    refine g_iald S 1 hK hP rfl (by omega) dL_law_901 ?_
    refine n_top (show (nI ((enf wk) ((7 * o2) + dy))) = (nI (ent (wk o2) dy)) from congrArg nI (en_at hdy)) ?_
    refine lv_goto (tgt := 907) S.1 S.2.1 dL_law_902 (by decide) ?_
    refine w_iast S 1 hK hP hD hS rfl (by omega) dL_law_907 (fun H locs hP hD hS => ?_)
    have hP : va_P D vwCl (lX cT z n ro cl fb rn nd sk mo (va_up wk p (wset (wk p) dy (ent (wk o2) dy))) fx wi la da we u1 Bv ++ (cX cT c a6 a7 n ro cl fb rn nd V V2 PR pa ++ pool n pa (per sk mo wk fx wi la da we))) H := by rw [en_up (wk := wk) (i := p) (d := dy) (v := ent (wk o2) dy) (by omega) (by first | omega | exact ent_lt _ _)] at hP; exact hP
    have hD : va_D (AL s0) (lX cT z n ro cl fb rn nd sk mo (va_up wk p (wset (wk p) dy (ent (wk o2) dy))) fx wi la da we u1 Bv ++ (cX cT c a6 a7 n ro cl fb rn nd V V2 PR pa ++ pool n pa (per sk mo wk fx wi la da we))) := by rw [en_up (wk := wk) (i := p) (d := dy) (v := ent (wk o2) dy) (by omega) (by first | omega | exact ent_lt _ _)] at hD; exact hD
    refine lv_aload_n S.1 S.2.1 dL_law_908 rfl (lv_at hl 6 rfl) ?_
    refine lv_bipush (v := (nI 7)) S.1 S.2.1 dL_law_909 (by decide) ?_
    refine lv_iload S.1 S.2.1 dL_law_911 (lv_at hl 2 rfl) ?_
    refine n_mul S dL_law_913 ?_
    refine lv_iload S.1 S.2.1 dL_law_914 (lv_at hl 16 rfl) ?_
    refine n_add S dL_law_916 ?_
    refine lv_iload S.1 S.2.1 dL_law_917 (lv_at hl 1 rfl) ?_
    refine n_zeq S (tgt := 927) (by decide) dL_law_919 (by decide) (fun q => absurd q (by decide)) (fun _ => ?_)
    refine lv_iload S.1 S.2.1 dL_law_922 (lv_at hl 0 rfl) ?_
    refine lv_goto (tgt := 937) S.1 S.2.1 dL_law_924 (by decide) ?_
    refine w_iast S 1 hK hP hD hS rfl (by omega) dL_law_937 (fun H locs hP hD hS => ?_)
    have hP : va_P D vwCl (lX cT z n ro cl fb rn nd sk mo (va_up (va_up wk p (wset (wk p) dy (ent (wk o2) dy))) o2 (wset ((va_up wk p (wset (wk p) dy (ent (wk o2) dy))) o2) dy (ent (wk p) dy))) fx wi la da we u1 Bv ++ (cX cT c a6 a7 n ro cl fb rn nd V V2 PR pa ++ pool n pa (per sk mo wk fx wi la da we))) H := by rw [en_up (wk := va_up wk p (wset (wk p) dy (ent (wk o2) dy))) (i := o2) (d := dy) (v := ent (wk p) dy) (by omega) (by first | omega | exact ent_lt _ _)] at hP; exact hP
    have hD : va_D (AL s0) (lX cT z n ro cl fb rn nd sk mo (va_up (va_up wk p (wset (wk p) dy (ent (wk o2) dy))) o2 (wset ((va_up wk p (wset (wk p) dy (ent (wk o2) dy))) o2) dy (ent (wk p) dy))) fx wi la da we u1 Bv ++ (cX cT c a6 a7 n ro cl fb rn nd V V2 PR pa ++ pool n pa (per sk mo wk fx wi la da we))) := by rw [en_up (wk := va_up wk p (wset (wk p) dy (ent (wk o2) dy))) (i := o2) (d := dy) (v := ent (wk p) dy) (by omega) (by first | omega | exact ent_lt _ _)] at hD; exact hD
    have hwj : (va_up wk p (wset (wk p) dy (ent (wk o2) dy))) o2 = wk o2 := vu_n (fun q => hij q.symm)
    rw [hwj] at hP hD
    have hP : va_P D vwCl (lX cT z n ro cl fb rn nd sk mo (va_up (va_up wk p (wset (wk p) dy (ent (wk o2) dy))) o2 (wset (wk o2) dy (ent (wk p) dy))) fx wi la da we u1 Bv ++ (cX cT c a6 a7 n ro cl fb rn nd V V2 PR pa ++ pool n pa (per sk mo wk fx wi la da we))) H := hP
    have hD : va_D (AL s0) (lX cT z n ro cl fb rn nd sk mo (va_up (va_up wk p (wset (wk p) dy (ent (wk o2) dy))) o2 (wset (wk o2) dy (ent (wk p) dy))) fx wi la da we u1 Bv ++ (cX cT c a6 a7 n ro cl fb rn nd V V2 PR pa ++ pool n pa (per sk mo wk fx wi la da we))) := hD
    have hwf2 : wfC n bd fb rn nd sk mo (va_up (va_up wk p (wset (wk p) dy (ent (wk o2) dy))) o2 (wset (wk o2) dy (ent (wk p) dy))) fx wi la da we := wf_wk (wf_wk hwf p (wset_lt (hper p).2.2.1 hdy (ent_lt _ _))) o2 (wset_lt (hper o2).2.2.1 hdy (ent_lt _ _))
    refine lv_iload S.1 S.2.1 dL_law_938 (lv_at hl 1 rfl) ?_
    refine n_zeq S (tgt := 961) (by decide) dL_law_940 (by decide) (fun q => absurd q (by decide)) (fun _ => ?_)
    refine lv_iload S.1 S.2.1 dL_law_943 (lv_at hl 15 rfl) ?_
    refine lv_aload_n S.1 S.2.1 dL_law_945 rfl (lv_at hl 5 rfl) ?_
    refine lv_aload_n S.1 S.2.1 dL_law_946 rfl (lv_at hl 6 rfl) ?_
    refine rd_callS (rest := []) S (r_L_broken l D cT z bd n ro cl fb rn nd sk mo (va_up (va_up wk p (wset (wk p) dy (ent (wk o2) dy))) o2 (wset (wk o2) dy (ent (wk p) dy))) fx wi la da we u1 Bv p (hwf2) (by omega)) gL_law_L_broken rfl pd_L_broken ⟨rfl, rfl, Nat.le_of_ble_eq_true rfl, Nat.le_of_ble_eq_true rfl⟩ (fr_l hP) hK hl rfl rfl (Nat.le_of_ble_eq_true rfl) hcs0 dL_law_947 ?_
    refine n_top (show (nI (brc (wi p) ((va_up (va_up wk p (wset (wk p) dy (ent (wk o2) dy))) o2 (wset (wk o2) dy (ent (wk p) dy))) p) 7)) = (nI (brc (wi p) (wset (wk p) dy (ent (wk o2) dy)) 7)) from by rw [vu_n hij, vu_s]) ?_
    refine lv_iload S.1 S.2.1 dL_law_950 (lv_at hl 2 rfl) ?_
    refine lv_aload_n S.1 S.2.1 dL_law_952 rfl (lv_at hl 5 rfl) ?_
    refine lv_aload_n S.1 S.2.1 dL_law_953 rfl (lv_at hl 6 rfl) ?_
    refine rd_callS (rest := [.int (nI (brc (wi p) (wset (wk p) dy (ent (wk o2) dy)) 7))]) S (r_L_broken l D cT z bd n ro cl fb rn nd sk mo (va_up (va_up wk p (wset (wk p) dy (ent (wk o2) dy))) o2 (wset (wk o2) dy (ent (wk p) dy))) fx wi la da we u1 Bv o2 (hwf2) (by omega)) gL_law_L_broken rfl pd_L_broken ⟨rfl, rfl, Nat.le_of_ble_eq_true rfl, Nat.le_of_ble_eq_true rfl⟩ (fr_l hP) hK hl rfl rfl (Nat.le_of_ble_eq_true rfl) hcs0 dL_law_954 ?_
    refine n_top (show (nI (brc (wi o2) ((va_up (va_up wk p (wset (wk p) dy (ent (wk o2) dy))) o2 (wset (wk o2) dy (ent (wk p) dy))) o2) 7)) = (nI (brc (wi o2) (wset (wk o2) dy (ent (wk p) dy)) 7)) from by rw [vu_s]) ?_
    refine n_add S dL_law_957 ?_
    refine lv_goto (tgt := 963) S.1 S.2.1 dL_law_958 (by decide) ?_
    refine lv_istore (lv' := [(14, .int (nI ((brc (wi p) (wset (wk p) dy (ent (wk o2) dy)) 7) + (brc (wi o2) (wset (wk o2) dy (ent (wk p) dy)) 7)))), (18, .int (nI (ent (wk p) dy))), (17, .int (nI 1)), (16, .int (nI o2)), (0, .ref bb), (1, .ref (c 0)), (2, .ref (z 0)), (3, .ref (z 1)), (4, .ref (z 2)), (5, .ref (z 3)), (6, .ref (z 4)), (7, .ref (z 5)), (8, .ref (z 6)), (9, .int (nI tn)), (10, .int zz), (11, .int (nI act)), (12, .int (nI p)), (13, .int (nI dy)), (15, .int (nI 0))]) S.1 S.2.1 dL_law_963 hl (by decide) rfl (fun ls hl => ?_)
    refine lv_aload_n S.1 S.2.1 dL_law_965 rfl (lv_at hl 5 rfl) ?_
    refine lv_iconst (v := (nI 2)) S.1 S.2.1 dL_law_966 (by decide) ?_
    refine lv_iload S.1 S.2.1 dL_law_967 (lv_at hl 16 rfl) ?_
    refine lv_iload S.1 S.2.1 dL_law_969 (lv_at hl 3 rfl) ?_
    refine lv_iload S.1 S.2.1 dL_law_971 (lv_at hl 17 rfl) ?_
    refine fr2_callSx (As := [.ref (c 0), .int (nI 2), .int (nI p), .int (nI o2), .int (nI dy)]) (rest := []) S (co_swap l D cT _ (c 0) (nI p) (nI o2) (nI dy) (fun sz => w_X8_swap l D cT sz c pa bd a6 a7 n ro cl fb rn nd sk mo wk fx wi la da we V V2 PR p o2 dy hwf hp ho2 hdy hinj hs2) ⟨rfl, rfl, by decide, by decide⟩ ⟨by decide, by decide⟩ rfl) gL_law_L_calls rfl pd_L_calls ⟨rfl, rfl, Nat.le_of_ble_eq_true rfl, Nat.le_of_ble_eq_true rfl⟩ hP hK (XS.law hXS hS) hD hS hA hl rfl rfl (Nat.le_of_ble_eq_true rfl) hroom dL_law_973 (fun r_ u9 H locs hr_ hP hD hS => ?_)
    subst hr_
    have hP : va_P D vwCl (lX cT z n ro cl fb rn nd sk mo (va_up (va_up wk p (wset (wk p) dy (ent (wk o2) dy))) o2 (wset (wk o2) dy (ent (wk p) dy))) fx wi la da we u1 Bv ++ (cX cT c a6 a7 n ro cl fb rn nd V V2 PR pa ++ pool n pa (per sk mo (va_up (va_up wk p (wset (wk p) dy (ent (wk o2) dy))) o2 (wset (wk o2) dy (ent (wk p) dy))) fx wi la da we))) H := hP
    have hD : va_D (AL s0) (lX cT z n ro cl fb rn nd sk mo (va_up (va_up wk p (wset (wk p) dy (ent (wk o2) dy))) o2 (wset (wk o2) dy (ent (wk p) dy))) fx wi la da we u1 Bv ++ (cX cT c a6 a7 n ro cl fb rn nd V V2 PR pa ++ pool n pa (per sk mo (va_up (va_up wk p (wset (wk p) dy (ent (wk o2) dy))) o2 (wset (wk o2) dy (ent (wk p) dy))) fx wi la da we))) := hD
    refine lv_istore (lv' := [(15, .int (nI (brc (wi p) (wset (wk p) dy (ent (wk o2) dy)) 7 + brc (wi o2) (wset (wk o2) dy (ent (wk p) dy)) 7))), (14, .int (nI ((brc (wi p) (wset (wk p) dy (ent (wk o2) dy)) 7) + (brc (wi o2) (wset (wk o2) dy (ent (wk p) dy)) 7)))), (18, .int (nI (ent (wk p) dy))), (17, .int (nI 1)), (16, .int (nI o2)), (0, .ref bb), (1, .ref (c 0)), (2, .ref (z 0)), (3, .ref (z 1)), (4, .ref (z 2)), (5, .ref (z 3)), (6, .ref (z 4)), (7, .ref (z 5)), (8, .ref (z 6)), (9, .int (nI tn)), (10, .int zz), (11, .int (nI act)), (12, .int (nI p)), (13, .int (nI dy))]) S.1 S.2.1 dL_law_976 hl (by decide) rfl (fun ls hl => ?_)
    refine lv_goto (tgt := 1009) S.1 S.2.1 dL_law_978 (by decide) ?_
    refine W.widen (k := cells + 1) (n := slots + 8) (by omega) (by omega) ?_
    exact kk (va_up (va_up wk p (wset (wk p) dy (ent (wk o2) dy))) o2 (wset (wk o2) dy (ent (wk p) dy))) u1 (nI (brc (wi p) (wset (wk p) dy (ent (wk o2) dy)) 7 + brc (wi o2) (wset (wk o2) dy (ent (wk p) dy)) 7)) (fun j => up_all (P := fun z => z < 16384) (up_all (P := fun z => z < 16384) (fun j => (hper j).2.2.1) (wset_lt (hper p).2.2.1 hdy (ent_lt _ _))) (wset_lt (hper o2).2.2.1 hdy (ent_lt _ _)) j) (fun j hj => by rw [vu_n (by omega), vu_n (by omega)]; exact (h0 j hj).1) H locs hP hD hS ls (lv_sub hl [5, 6, 7, 8, 9, 10, 11, 12, 13, 14, 15, 1, 0] rfl)
  · refine n_top (show nI (p != o2 && csw sk mo wk fx la da fb rn p o2 dy).toNat = nI 0 from by rw [hcan]; rfl) ?_
    refine lv_istore (lv' := [(17, .int (nI 0)), (16, .int (nI o2)), (0, .ref bb), (1, .ref (c 0)), (2, .ref (z 0)), (3, .ref (z 1)), (4, .ref (z 2)), (5, .ref (z 3)), (6, .ref (z 4)), (7, .ref (z 5)), (8, .ref (z 6)), (9, .int (nI tn)), (10, .int zz), (11, .int (nI act)), (12, .int (nI p)), (13, .int (nI dy)), (14, .int (nI 0)), (15, .int (nI 0))]) S.1 S.2.1 dL_law_864 hl (by decide) rfl (fun ls hl => ?_)
    refine lv_aload_n S.1 S.2.1 dL_law_866 rfl (lv_at hl 5 rfl) ?_
    refine lv_bipush (v := (nI 7)) S.1 S.2.1 dL_law_867 (by decide) ?_
    refine lv_iload S.1 S.2.1 dL_law_869 (lv_at hl 14 rfl) ?_
    refine n_mul S dL_law_871 ?_
    refine lv_iload S.1 S.2.1 dL_law_872 (lv_at hl 15 rfl) ?_
    refine n_add S dL_law_874 ?_
    refine g_iald S 1 hK hP rfl (by omega) dL_law_875 ?_
    refine n_top (show (nI ((enf wk) ((7 * p) + dy))) = (nI (ent (wk p) dy)) from congrArg nI (en_at hdy)) ?_
    refine lv_istore (lv' := [(18, .int (nI (ent (wk p) dy))), (17, .int (nI 0)), (16, .int (nI o2)), (0, .ref bb), (1, .ref (c 0)), (2, .ref (z 0)), (3, .ref (z 1)), (4, .ref (z 2)), (5, .ref (z 3)), (6, .ref (z 4)), (7, .ref (z 5)), (8, .ref (z 6)), (9, .int (nI tn)), (10, .int zz), (11, .int (nI act)), (12, .int (nI p)), (13, .int (nI dy)), (14, .int (nI 0)), (15, .int (nI 0))]) S.1 S.2.1 dL_law_876 hl (by decide) rfl (fun ls hl => ?_)
    refine lv_aload_n S.1 S.2.1 dL_law_878 rfl (lv_at hl 6 rfl) ?_
    refine lv_bipush (v := (nI 7)) S.1 S.2.1 dL_law_879 (by decide) ?_
    refine lv_iload S.1 S.2.1 dL_law_881 (lv_at hl 15 rfl) ?_
    refine n_mul S dL_law_883 ?_
    refine lv_iload S.1 S.2.1 dL_law_884 (lv_at hl 16 rfl) ?_
    refine n_add S dL_law_886 ?_
    refine lv_iload S.1 S.2.1 dL_law_887 (lv_at hl 1 rfl) ?_
    refine n_zeq S (tgt := 905) (by decide) dL_law_889 (by decide) (fun _ => ?_) (fun q => absurd q (by decide))
    refine lv_iload S.1 S.2.1 dL_law_905 (lv_at hl 0 rfl) ?_
    refine w_iast S 1 hK hP hD hS rfl (by omega) dL_law_907 (fun H locs hP hD hS => ?_)
    have hP : va_P D vwCl (lX cT z n ro cl fb rn nd sk mo (va_up wk p (wset (wk p) dy (ent (wk p) dy))) fx wi la da we u1 Bv ++ (cX cT c a6 a7 n ro cl fb rn nd V V2 PR pa ++ pool n pa (per sk mo wk fx wi la da we))) H := by rw [en_up (wk := wk) (i := p) (d := dy) (v := ent (wk p) dy) (by omega) (by first | omega | exact ent_lt _ _)] at hP; exact hP
    have hD : va_D (AL s0) (lX cT z n ro cl fb rn nd sk mo (va_up wk p (wset (wk p) dy (ent (wk p) dy))) fx wi la da we u1 Bv ++ (cX cT c a6 a7 n ro cl fb rn nd V V2 PR pa ++ pool n pa (per sk mo wk fx wi la da we))) := by rw [en_up (wk := wk) (i := p) (d := dy) (v := ent (wk p) dy) (by omega) (by first | omega | exact ent_lt _ _)] at hD; exact hD
    have ei : va_up wk p (wset (wk p) dy (ent (wk p) dy)) = wk := by rw [ws_id, vu_id]
    rw [ei] at hP hD
    have hP : va_P D vwCl (lX cT z n ro cl fb rn nd sk mo wk fx wi la da we u1 Bv ++ (cX cT c a6 a7 n ro cl fb rn nd V V2 PR pa ++ pool n pa (per sk mo wk fx wi la da we))) H := hP
    have hD : va_D (AL s0) (lX cT z n ro cl fb rn nd sk mo wk fx wi la da we u1 Bv ++ (cX cT c a6 a7 n ro cl fb rn nd V V2 PR pa ++ pool n pa (per sk mo wk fx wi la da we))) := hD
    refine lv_aload_n S.1 S.2.1 dL_law_908 rfl (lv_at hl 6 rfl) ?_
    refine lv_bipush (v := (nI 7)) S.1 S.2.1 dL_law_909 (by decide) ?_
    refine lv_iload S.1 S.2.1 dL_law_911 (lv_at hl 2 rfl) ?_
    refine n_mul S dL_law_913 ?_
    refine lv_iload S.1 S.2.1 dL_law_914 (lv_at hl 16 rfl) ?_
    refine n_add S dL_law_916 ?_
    refine lv_iload S.1 S.2.1 dL_law_917 (lv_at hl 1 rfl) ?_
    refine n_zeq S (tgt := 927) (by decide) dL_law_919 (by decide) (fun _ => ?_) (fun q => absurd q (by decide))
    refine lv_aload_n S.1 S.2.1 dL_law_927 rfl (lv_at hl 6 rfl) ?_
    refine lv_bipush (v := (nI 7)) S.1 S.2.1 dL_law_928 (by decide) ?_
    refine lv_iload S.1 S.2.1 dL_law_930 (lv_at hl 2 rfl) ?_
    refine n_mul S dL_law_932 ?_
    refine lv_iload S.1 S.2.1 dL_law_933 (lv_at hl 16 rfl) ?_
    refine n_add S dL_law_935 ?_
    refine g_iald S 1 hK hP rfl (by omega) dL_law_936 ?_
    refine n_top (show (nI ((enf wk) ((7 * o2) + dy))) = (nI (ent (wk o2) dy)) from congrArg nI (en_at hdy)) ?_
    refine w_iast S 1 hK hP hD hS rfl (by omega) dL_law_937 (fun H locs hP hD hS => ?_)
    have hP : va_P D vwCl (lX cT z n ro cl fb rn nd sk mo (va_up wk o2 (wset (wk o2) dy (ent (wk o2) dy))) fx wi la da we u1 Bv ++ (cX cT c a6 a7 n ro cl fb rn nd V V2 PR pa ++ pool n pa (per sk mo wk fx wi la da we))) H := by rw [en_up (wk := wk) (i := o2) (d := dy) (v := ent (wk o2) dy) (by omega) (by first | omega | exact ent_lt _ _)] at hP; exact hP
    have hD : va_D (AL s0) (lX cT z n ro cl fb rn nd sk mo (va_up wk o2 (wset (wk o2) dy (ent (wk o2) dy))) fx wi la da we u1 Bv ++ (cX cT c a6 a7 n ro cl fb rn nd V V2 PR pa ++ pool n pa (per sk mo wk fx wi la da we))) := by rw [en_up (wk := wk) (i := o2) (d := dy) (v := ent (wk o2) dy) (by omega) (by first | omega | exact ent_lt _ _)] at hD; exact hD
    have ej : va_up wk o2 (wset (wk o2) dy (ent (wk o2) dy)) = wk := by rw [ws_id, vu_id]
    rw [ej] at hP hD
    have hP : va_P D vwCl (lX cT z n ro cl fb rn nd sk mo wk fx wi la da we u1 Bv ++ (cX cT c a6 a7 n ro cl fb rn nd V V2 PR pa ++ pool n pa (per sk mo wk fx wi la da we))) H := hP
    have hD : va_D (AL s0) (lX cT z n ro cl fb rn nd sk mo wk fx wi la da we u1 Bv ++ (cX cT c a6 a7 n ro cl fb rn nd V V2 PR pa ++ pool n pa (per sk mo wk fx wi la da we))) := hD
    refine lv_iload S.1 S.2.1 dL_law_938 (lv_at hl 1 rfl) ?_
    refine n_zeq S (tgt := 961) (by decide) dL_law_940 (by decide) (fun _ => ?_) (fun q => absurd q (by decide))
    refine lv_bipush (v := (-3)) S.1 S.2.1 dL_law_961 (by decide) ?_
    refine lv_istore (lv' := [(14, .int (-3)), (18, .int (nI (ent (wk p) dy))), (17, .int (nI 0)), (16, .int (nI o2)), (0, .ref bb), (1, .ref (c 0)), (2, .ref (z 0)), (3, .ref (z 1)), (4, .ref (z 2)), (5, .ref (z 3)), (6, .ref (z 4)), (7, .ref (z 5)), (8, .ref (z 6)), (9, .int (nI tn)), (10, .int zz), (11, .int (nI act)), (12, .int (nI p)), (13, .int (nI dy)), (15, .int (nI 0))]) S.1 S.2.1 dL_law_963 hl (by decide) rfl (fun ls hl => ?_)
    refine lv_aload_n S.1 S.2.1 dL_law_965 rfl (lv_at hl 5 rfl) ?_
    refine lv_iconst (v := (nI 2)) S.1 S.2.1 dL_law_966 (by decide) ?_
    refine lv_iload S.1 S.2.1 dL_law_967 (lv_at hl 16 rfl) ?_
    refine lv_iload S.1 S.2.1 dL_law_969 (lv_at hl 3 rfl) ?_
    refine lv_iload S.1 S.2.1 dL_law_971 (lv_at hl 17 rfl) ?_
    refine fr2_callSx (As := [.ref (c 0), .int (nI 2), .int (nI p), .int (nI o2), .int (nI dy)]) (rest := []) S (ct_swap l D cT _ (c 0) (nI p) (nI o2) (nI dy) (fun sz => t_X8_swap_x3 l D cT sz c pa bd a6 a7 n ro cl fb rn nd sk mo wk fx wi la da we V V2 PR p o2 dy hwf hp ho2 hdy hcan hfl) rfl) gL_law_L_calls rfl pd_L_calls ⟨rfl, rfl, Nat.le_of_ble_eq_true rfl, Nat.le_of_ble_eq_true rfl⟩ hP hK (XS.law hXS hS) hD hS hA hl rfl rfl (Nat.le_of_ble_eq_true rfl) hroom dL_law_973 (fun r_ u9 H locs hr_ hP hD hS => ?_)
    subst hr_
    have hP : va_P D vwCl (lX cT z n ro cl fb rn nd sk mo wk fx wi la da we u1 Bv ++ (cX cT c a6 a7 n ro cl fb rn nd V V2 PR pa ++ pool n pa (per sk mo wk fx wi la da we))) H := hP
    have hD : va_D (AL s0) (lX cT z n ro cl fb rn nd sk mo wk fx wi la da we u1 Bv ++ (cX cT c a6 a7 n ro cl fb rn nd V V2 PR pa ++ pool n pa (per sk mo wk fx wi la da we))) := hD
    refine lv_istore (lv' := [(15, .int (-3)), (14, .int (-3)), (18, .int (nI (ent (wk p) dy))), (17, .int (nI 0)), (16, .int (nI o2)), (0, .ref bb), (1, .ref (c 0)), (2, .ref (z 0)), (3, .ref (z 1)), (4, .ref (z 2)), (5, .ref (z 3)), (6, .ref (z 4)), (7, .ref (z 5)), (8, .ref (z 6)), (9, .int (nI tn)), (10, .int zz), (11, .int (nI act)), (12, .int (nI p)), (13, .int (nI dy))]) S.1 S.2.1 dL_law_976 hl (by decide) rfl (fun ls hl => ?_)
    refine lv_goto (tgt := 1009) S.1 S.2.1 dL_law_978 (by decide) ?_
    refine W.widen (k := cells + 1) (n := slots + 8) (by omega) (by omega) ?_
    exact kk wk u1 (-3) (fun j => (hper j).2.2.1) (fun j hj => (h0 j hj).1) H locs hP hD hS ls (lv_sub hl [5, 6, 7, 8, 9, 10, 11, 12, 13, 14, 15, 1, 0] rfl)

set_option maxHeartbeats 4000000 in
set_option maxRecDepth 100000 in
theorem lc_close (X : LA p0 s0 m0 t0 c0 bb L xs D cT) (hcs0 : cells ≤ room_1.cells ∧ slots ≤ room_1.slots) (hroom : cells + 1 ≤ room_1.cells ∧ slots + 8 ≤ room_1.slots) (hwf : wfC n bd fb rn nd sk mo wk fx wi la da we) (hz : ∀ k, k < 4 → bit fb k = 0) (h0 : ∀ j, n ≤ j → wk j = 0 ∧ wi j = 0 ∧ la j = 0 ∧ da j = 0 ∧ we j = 0 ∧ fx j = 0) (hbd : bd + 1 < 4096) (hP : va_P D vwCl (lX cT z n ro cl fb rn nd sk mo wk fx wi la da we Wv Bv ++ (cX cT c a6 a7 n ro cl fb rn nd V V2 PR pa ++ pool n pa (per sk mo wk fx wi la da we))) H) (hD : va_D (AL s0) (lX cT z n ro cl fb rn nd sk mo wk fx wi la da we Wv Bv ++ (cX cT c a6 a7 n ro cl fb rn nd V V2 PR pa ++ pool n pa (per sk mo wk fx wi la da we)))) (hS : va_S (AL s0) s0.heap H locs) (hl : lv_has ls 19 [(0, .ref bb), (1, .ref (c 0)), (2, .ref (z 0)), (3, .ref (z 1)), (4, .ref (z 2)), (5, .ref (z 3)), (6, .ref (z 4)), (7, .ref (z 5)), (8, .ref (z 6)), (9, .int (nI tn)), (10, .int zz), (11, .int (nI act)), (12, .int (nI p)), (13, .int (nI dy)), (14, .int (nI 0)), (15, .int (nI 0))]) (kk : ∀ (H : Heap) (locs : List Loc), va_P D vwCl (lX cT z n ro (cl + 1) fb rn nd sk mo (upn wk (fun _ => 0) n) (upn fx (fun _ => 0) n) (upn wi (fun _ => 0) n) (upn la (clL wk) n) (upn da (clG wk da) n) (upn we (clE wk we) n) Wv Bv ++ (cX cT c a6 a7 n ro (cl + 1) fb rn nd V V2 PR pa ++ pool n pa (per sk mo (upn wk (fun _ => 0) n) (upn fx (fun _ => 0) n) (upn wi (fun _ => 0) n) (upn la (clL wk) n) (upn da (clG wk da) n) (upn we (clE wk we) n)))) H → va_D (AL s0) (lX cT z n ro (cl + 1) fb rn nd sk mo (upn wk (fun _ => 0) n) (upn fx (fun _ => 0) n) (upn wi (fun _ => 0) n) (upn la (clL wk) n) (upn da (clG wk da) n) (upn we (clE wk we) n) Wv Bv ++ (cX cT c a6 a7 n ro (cl + 1) fb rn nd V V2 PR pa ++ pool n pa (per sk mo (upn wk (fun _ => 0) n) (upn fx (fun _ => 0) n) (upn wi (fun _ => 0) n) (upn la (clL wk) n) (upn da (clG wk da) n) (upn we (clE wk we) n)))) → va_S (AL s0) s0.heap H locs → ∀ ls : Array Slot, lv_has ls 19 [(0, .ref bb), (1, .ref (c 0)), (2, .ref (z 0)), (3, .ref (z 1)), (4, .ref (z 2)), (5, .ref (z 3)), (6, .ref (z 4)), (7, .ref (z 5)), (8, .ref (z 6)), (9, .int (nI tn)), (10, .int zz), (14, .int (nI (cl + 1))), (15, .int (nI (cl + 1)))] → W p0 l e0 room_1 s0 m0 #[Value.ref bb] b0 t0 c0 H locs (cells + 1) (slots + 8) Q0 (F0 m0 1009 ls [])) : W p0 l e0 room_1 s0 m0 #[Value.ref bb] b0 t0 c0 H locs cells slots Q0 (F0 m0 988 ls []) := by
  obtain ⟨S, hL, hX, hbl, hK, hXS⟩ := id X
  have hA : ∀ q : Nat, s0.heap.size ≤ q → AL s0 q := fun _ h => h
  have hinj : inj n pa := inj_D (X := cX cT c a6 a7 n ro cl fb rn nd V V2 PR pa) (fr_Dr hD)
  obtain ⟨hn, hcl, hfb, hrn, hnd, hper⟩ := id hwf
  refine lv_aload_n S.1 S.2.1 dL_law_988 rfl (lv_at hl 2 rfl) ?_
  refine lv_aload_n S.1 S.2.1 dL_law_989 rfl (lv_at hl 3 rfl) ?_
  refine lv_aload S.1 S.2.1 dL_law_990 (lv_at hl 4 rfl) ?_
  refine lv_aload S.1 S.2.1 dL_law_992 (lv_at hl 8 rfl) ?_
  refine fr1_callSv (rest := []) S (w_L_closes l D cT _ z bd n ro cl fb rn nd sk mo wk fx wi la da we Wv Bv (hwf)) gL_law_L_closes rfl pd_L_closes ⟨rfl, rfl, Nat.le_of_ble_eq_true rfl, Nat.le_of_ble_eq_true rfl⟩ hP hK hD hS hA hl rfl rfl (Nat.le_of_ble_eq_true rfl) hcs0 dL_law_994 (fun u_ H locs hr_ hP hD hS => ?_)
  have hP : va_P D vwCl (lX cT z n ro (cl + 1) fb rn nd sk mo (upn wk (fun _ => 0) n) (upn fx (fun _ => 0) n) (upn wi (fun _ => 0) n) (upn la (clL wk) n) (upn da (clG wk da) n) (upn we (clE wk we) n) Wv Bv ++ (cX cT c a6 a7 n ro cl fb rn nd V V2 PR pa ++ pool n pa (per sk mo wk fx wi la da we))) H := hP
  have hD : va_D (AL s0) (lX cT z n ro (cl + 1) fb rn nd sk mo (upn wk (fun _ => 0) n) (upn fx (fun _ => 0) n) (upn wi (fun _ => 0) n) (upn la (clL wk) n) (upn da (clG wk da) n) (upn we (clE wk we) n) Wv Bv ++ (cX cT c a6 a7 n ro cl fb rn nd V V2 PR pa ++ pool n pa (per sk mo wk fx wi la da we))) := hD
  refine lv_aload S.1 S.2.1 dL_law_997 (lv_at hl 8 rfl) ?_
  refine lv_iconst (v := (nI 1)) S.1 S.2.1 dL_law_999 (by decide) ?_
  refine g_iald S 6 hK hP rfl (by omega) dL_law_1000 ?_
  refine n_top (show (nI ((qfn n (cl + 1) ro) 1)) = (nI (cl + 1)) from rfl) ?_
  refine lv_istore (lv' := [(14, .int (nI (cl + 1))), (0, .ref bb), (1, .ref (c 0)), (2, .ref (z 0)), (3, .ref (z 1)), (4, .ref (z 2)), (5, .ref (z 3)), (6, .ref (z 4)), (7, .ref (z 5)), (8, .ref (z 6)), (9, .int (nI tn)), (10, .int zz), (11, .int (nI act)), (12, .int (nI p)), (13, .int (nI dy)), (15, .int (nI 0))]) S.1 S.2.1 dL_law_1001 hl (by decide) rfl (fun ls hl => ?_)
  refine lv_aload_n S.1 S.2.1 dL_law_1003 rfl (lv_at hl 2 rfl) ?_
  refine fr2_callVi (rest := []) S (w_X8_closeWeek l D cT _ c pa bd a6 a7 n ro cl fb rn nd sk mo wk fx wi la da we V V2 PR (hwf) (hbd)) gL_law_X8_closeWeek rfl pd_X8_closeWeek ⟨rfl, rfl, Nat.le_of_ble_eq_true rfl, Nat.le_of_ble_eq_true rfl⟩ hP hK hD hS hA (va_recv hK.1 (fr_r hP) (ci := 6) (q0 := 0) rfl rfl) hl rfl rfl (Nat.le_of_ble_eq_true rfl) hcs0 dL_law_1004 (fun r_ u_ H locs hr_ hP hD hS => ?_)
  subst hr_
  have hP : va_P D vwCl (lX cT z n ro (cl + 1) fb rn nd sk mo (upn wk (fun _ => 0) n) (upn fx (fun _ => 0) n) (upn wi (fun _ => 0) n) (upn la (clL wk) n) (upn da (clG wk da) n) (upn we (clE wk we) n) Wv Bv ++ (cX cT c a6 a7 n ro (cl + 1) fb rn nd V V2 PR pa ++ pool n pa (per sk mo (upn wk (fun _ => 0) n) (upn fx (fun _ => 0) n) (upn wi (fun _ => 0) n) (upn la (clL wk) n) (upn da (clG wk da) n) (upn we (clE wk we) n)))) H := hP
  have hD : va_D (AL s0) (lX cT z n ro (cl + 1) fb rn nd sk mo (upn wk (fun _ => 0) n) (upn fx (fun _ => 0) n) (upn wi (fun _ => 0) n) (upn la (clL wk) n) (upn da (clG wk da) n) (upn we (clE wk we) n) Wv Bv ++ (cX cT c a6 a7 n ro (cl + 1) fb rn nd V V2 PR pa ++ pool n pa (per sk mo (upn wk (fun _ => 0) n) (upn fx (fun _ => 0) n) (upn wi (fun _ => 0) n) (upn la (clL wk) n) (upn da (clG wk da) n) (upn we (clE wk we) n)))) := hD
  refine lv_istore (lv' := [(15, .int (nI (cl + 1))), (14, .int (nI (cl + 1))), (0, .ref bb), (1, .ref (c 0)), (2, .ref (z 0)), (3, .ref (z 1)), (4, .ref (z 2)), (5, .ref (z 3)), (6, .ref (z 4)), (7, .ref (z 5)), (8, .ref (z 6)), (9, .int (nI tn)), (10, .int zz), (11, .int (nI act)), (12, .int (nI p)), (13, .int (nI dy))]) S.1 S.2.1 dL_law_1007 hl (by decide) rfl (fun ls hl => ?_)
  refine W.widen (k := cells + 1) (n := slots + 8) (by omega) (by omega) ?_
  exact kk   H locs hP hD hS ls (lv_sub hl [2, 3, 4, 5, 6, 7, 8, 9, 10, 11, 12, 1, 0] rfl)

end LAWC
