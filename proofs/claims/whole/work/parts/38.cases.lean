/-! the law's cases, over contracts of the desk's side and of the reference's -/
theorem l_sld_clamp {i L : Nat} (h : i < L) (hL : L ≤ 2048) : (nI i).toNatClampNeg = i := nI_clamp (Nat.lt_of_lt_of_le h (Nat.le_trans hL (by decide)))
def zb (z : Int32) : Bool := decide (z ≠ 0)
theorem lg_same (x : Int64) : lg_cmp x x = 0 := by unfold lg_cmp; rw [if_neg Int64.lt_irrefl, if_pos rfl]
/-- what stands through the law -/
def LA (p : Program) (s : State) (m : MethodId) (meth : Method) (c : Code) (b L : Nat) (xs : Nat → Int32) (D : va_G) (cT : ClassId × ClassId × ClassId) : Prop :=
  CallFix p m c cL_law 7 s #[Value.ref b] wsL_law RL ∧ L ≤ 2048 ∧ va_X b L xs s s.heap ∧ b < s.heap.size ∧ KN D (TY cT) s ∧ XS (fun q => s.heap.size ≤ q) s s.heap
abbrev AL (s : State) : Nat → Prop := fun q => s.heap.size ≤ q
abbrev ou (cT : ClassId × ClassId × ClassId) (o : Nat) (g : Nat → Int64) : va_W := [(o, .inl (cT.2.1, 1, .inr (.inl g)))]
section FRL
variable {p : Program} {l : Launch} {e : Env} {R : Room} {s : State} {m : MethodId} {args : Array Value} {below : List Frame} {meth : Method} {c : Code} {H : Heap} {locs : List Loc} {cells slots : Nat} {Q : State → Prop}
variable {cc : ByteArray} {nL : Nat} {Ts : List Cond} {own : String} {pc : Nat} {ls : Array Slot} {rest : List Value}
theorem l_sld {b L i : Nat} {xs : Nat → Int32} {v : Int32} (S : CallFix p m c cc nL s args Ts own) (hX : va_X b L xs s s.heap) (hb : b < s.heap.size) (hS : va_S (AL s) s.heap H locs) (hL : L ≤ 2048) (hi : i < L) (hv : xs i = v) (d : decode cc pc = .ok (.iaload, 1)) (kk : W p l e R s m args below meth c H locs cells slots Q (F0 m (pc + 1) ls (.int v :: rest))) : W p l e R s m args below meth c H locs cells slots Q (F0 m pc ls (.int (nI i) :: .ref b :: rest)) :=
  va_sld (xs := xs) S.1 S.2.1 hX hb (Nat.not_le.mpr hb) hS (sx_in ⟨hi, Nat.lt_of_le_of_lt hL (by decide)⟩) d (by rw [l_sld_clamp hi hL, hv]; exact kk)
theorem l_bool {z : Int32} {t j : Nat} {off off2 : Int} {w : Bool} (S : CallFix p m c cc nL s args Ts own) (hz : zb z = w) (d1 : decode cc pc = .ok (.ifCond .eq off, 3)) (d2 : decode cc (pc + 3) = .ok (.iconst 1, 1)) (d3 : decode cc (pc + 4) = .ok (.goto off2, 3)) (d4 : decode cc t = .ok (.iconst 0, 1)) (ht : (pc : Int) + off = (t : Int)) (ht2 : ((pc + 4 : Nat) : Int) + off2 = (j : Int)) (hj : t + 1 = j) (kk : W p l e R s m args below meth c H locs cells slots Q (F0 m j ls (.int (nI w.toNat) :: rest))) : W p l e R s m args below meth c H locs cells slots Q (F0 m pc ls (.int z :: rest)) := by
  subst hj
  refine lv_if_eq (tgt := t) S.1 S.2.1 d1 ht (fun cz => ?_) (fun cz => ?_)
  · refine lv_iconst (v := nI 0) S.1 S.2.1 d4 (by decide) ?_
    have e : w = false := by rw [← hz]; exact decide_eq_false (fun q => q cz)
    rw [e] at kk; exact kk
  · refine lv_iconst (v := nI 1) S.1 S.2.1 d2 (by decide) ?_
    refine lv_goto (tgt := t + 1) S.1 S.2.1 d3 ht2 ?_
    have e : w = true := by rw [← hz]; exact decide_eq_true cz
    rw [e] at kk; exact kk
theorem l_bl {a : Int32} {t j : Nat} {off off2 : Int} (S : CallFix p m c cc nL s args Ts own) (d1 : decode cc pc = .ok (.ifCond .eq off, 3)) (d2 : decode cc (pc + 3) = .ok (.lconst 1, 1)) (d3 : decode cc (pc + 4) = .ok (.goto off2, 3)) (d4 : decode cc t = .ok (.lconst 0, 1)) (ht : (pc : Int) + off = (t : Int)) (ht2 : ((pc + 4 : Nat) : Int) + off2 = (j : Int)) (hj : t + 1 = j) (kk : W p l e R s m args below meth c H locs cells slots Q (F0 m j ls (.long (bl a) :: rest))) : W p l e R s m args below meth c H locs cells slots Q (F0 m pc ls (.int a :: rest)) := by
  subst hj
  refine lv_if_eq (tgt := t) S.1 S.2.1 d1 ht (fun cz => ?_) (fun cz => ?_)
  · refine lv_lconst (v := 0) S.1 S.2.1 d4 (by decide) ?_
    have e : bl a = 0 := if_pos cz
    rw [e] at kk; exact kk
  · refine lv_lconst (v := 1) S.1 S.2.1 d2 (by decide) ?_
    refine lv_goto (tgt := t + 1) S.1 S.2.1 d3 ht2 ?_
    have e : bl a = 1 := if_neg cz
    rw [e] at kk; exact kk
theorem l_leq {x y : Int64} {tgt : Nat} {off : Int} (S : CallFix p m c cc nL s args Ts own) (h : x = y) (d : decode cc pc = .ok (.lcmp, 1)) (d2 : decode cc (pc + 1) = .ok (.ifCond .eq off, 3)) (ht : ((pc + 1 : Nat) : Int) + off = (tgt : Int)) (kk : W p l e R s m args below meth c H locs cells slots Q (F0 m tgt ls rest)) : W p l e R s m args below meth c H locs cells slots Q (F0 m pc ls (.long y :: .long x :: rest)) := by
  subst h
  refine W.lcmp S.1 S.2.1 d ?_
  rw [lg_same]
  exact lv_if_eq (tgt := tgt) S.1 S.2.1 d2 ht (fun _ => kk) (fun q => absurd rfl q)
end FRL
set_option maxHeartbeats 4000000 in
set_option maxRecDepth 100000 in
theorem lc_addPerson {p : Program} {l : Launch} {e : Env} {s : State} {m : MethodId} {below : List Frame} {meth : Method} {c : Code} {b L : Nat} {xs : Nat → Int32} {D : va_G} {cT : ClassId × ClassId × ClassId} {Q : State → Prop} {H : Heap} {locs : List Loc} {cells slots : Nat} {ls : Array Slot} {St1 St2 : Type} {post : Int32 → St1 → Prop} {wd1 : St1 → va_W} {g1 : St1 → Nat → Int64} {postm : Int32 → St2 → Prop} {wm1 : St2 → va_W} {th : St2 → Nat} {wd wm : va_W} {g : Nat → Int64} {rm : Room} {fs : List Value} {i c9 q9 o : Nat} (X : LA p s m meth c b L xs D cT) (hi : i + 3 < L) (p0 : Int32) (p1 : Int32) (e0 : xs (i + 1) = p0) (e1 : xs (i + 2) = p1)
    (hW : ∀ sz, Met l yL_addPerson wsL_addPerson ({ frames := 8, cells := 1, slots := 8, locals := 200 } : Room) (va_Pc [.ref c9, .int p0, .int p1, .ref o] (wx_R D (TY cT) (wd ++ ou cT o g) sz)) (wQi post D (fun u => wd1 u ++ ou cT o (g1 u)) (va_A (wd ++ ou cT o g) sz)) 1 8 (va_A (wd ++ ou cT o g) sz))
    (hM : ∀ sz, Met l yX9_addPerson wsX9_addPerson rm (va_Pc [.ref q9, .int p0, .int p1] (wr_R D (TY cT) wm sz)) (wQi postm D wm1 (va_A wm sz)) 0 0 (va_A wm sz)) (hrm : rm.cells = 0 ∧ rm.slots = 0 ∧ rm.frames + 1 ≤ room_1.frames ∧ 8 + (4 + 11) + rm.locals ≤ room_1.locals) (hq : wm[0]? = some (q9, .inr (7, fs))) (hqm : ∀ v, ∃ fs, (wm1 v)[0]? = some (q9, .inr (7, fs)))
    (hT : ∀ v sz, Met l yX9_thrown wsX9_thrown ({ frames := 0, cells := 0, slots := 0, locals := 0 } : Room) (va_Pc [.ref q9] (wr_R D (TY cT) (wm1 v) sz)) (wQi (fun (r_ : Int32) (_ : Unit) => r_ = nI (th v)) D (fun (_ : Unit) => wm1 v) (va_A (wm1 v) sz)) 0 0 (va_A (wm1 v) sz))
    (hcmp : ∀ r u a v, post r u → postm a v → r = nI (th v) ∧ (r = nI 0 → g1 u 0 = a.toInt64))
    (hroom : cells + 1 ≤ room_1.cells ∧ slots + 8 ≤ room_1.slots) (hP : va_P D vwCl ((wd ++ ou cT o g) ++ wm) H) (hD : va_D (AL s) ((wd ++ ou cT o g) ++ wm)) (hS : va_S (AL s) s.heap H locs) (hl : lv_has ls 7 [(0, .ref b), (1, .ref c9), (2, .ref q9), (3, .ref o), (4, .int (nI i))])
    (kk : ∀ r u a v H locs, post r u → postm a v → va_P D vwCl ((wd1 u ++ ou cT o (g1 u)) ++ wm1 v) H → va_D (AL s) ((wd1 u ++ ou cT o (g1 u)) ++ wm1 v) → va_S (AL s) s.heap H locs → ∀ ls, lv_has ls 7 [(0, .ref b), (1, .ref c9), (2, .ref q9), (3, .ref o), (4, .int (nI i))] → W p l e room_1 s m #[Value.ref b] below meth c H locs (cells + 1) (slots + 8) Q (F0 m 1551 ls [])) : W p l e room_1 s m #[Value.ref b] below meth c H locs cells slots Q (F0 m 152 ls []) := by
  obtain ⟨S, hL, hX, hbs, hK, hXS⟩ := X
  have hA : ∀ q, s.heap.size ≤ q → AL s q := fun _ h => h
  refine lv_aload_n S.1 S.2.1 dL_law_152 rfl (lv_at hl 1 rfl) ?_
  refine lv_aload_n S.1 S.2.1 dL_law_153 rfl (lv_at hl 0 rfl) ?_
  refine lv_iload S.1 S.2.1 dL_law_154 (lv_at hl 4 rfl) ?_
  refine lv_iconst (v := (nI 1)) S.1 S.2.1 dL_law_156 (by decide) ?_
  refine n_add S dL_law_157 ?_
  refine l_sld S hX hbs hS hL (by omega) e0 dL_law_158 ?_
  refine lv_aload_n S.1 S.2.1 dL_law_159 rfl (lv_at hl 0 rfl) ?_
  refine lv_iload S.1 S.2.1 dL_law_160 (lv_at hl 4 rfl) ?_
  refine lv_iconst (v := (nI 2)) S.1 S.2.1 dL_law_162 (by decide) ?_
  refine n_add S dL_law_163 ?_
  refine l_sld S hX hbs hS hL (by omega) e1 dL_law_164 ?_
  refine lv_aload_n S.1 S.2.1 dL_law_165 rfl (lv_at hl 3 rfl) ?_
  refine fr_callSi (As := [.ref c9, .int p0, .int p1, .ref o]) (rest := []) (n := 4) (wc := wd ++ ou cT o g) (wr := wm) S (hW _) gL_law_L_addPerson rfl ⟨by decide +kernel, by decide +kernel, by decide +kernel⟩ ⟨rfl, rfl, Nat.le_of_ble_eq_true rfl, Nat.le_of_ble_eq_true rfl⟩ hP hK (XS.law hXS hS) hD hS hA hl rfl rfl (Nat.le_of_ble_eq_true rfl) hroom dL_law_166 (fun r u H locs hp hP hD hS => ?_)
  refine lv_istore (lv' := [(5, .int r), (0, .ref b), (1, .ref c9), (2, .ref q9), (3, .ref o), (4, .int (nI i))]) S.1 S.2.1 dL_law_169 hl (by decide) rfl (fun ls hl => ?_)
  refine lv_aload_n S.1 S.2.1 dL_law_171 rfl (lv_at hl 3 rfl) ?_
  refine lv_aload_n S.1 S.2.1 dL_law_172 rfl (lv_at hl 1 rfl) ?_
  refine lv_iload S.1 S.2.1 dL_law_173 (lv_at hl 5 rfl) ?_
  refine lv_iconst (v := (nI 1)) S.1 S.2.1 dL_law_175 (by decide) ?_
  refine n_add S dL_law_176 ?_
  refine l_sld S hX hbs hS hL (by omega) e0 dL_law_177 ?_
  refine lv_aload_n S.1 S.2.1 dL_law_178 rfl (lv_at hl 1 rfl) ?_
  refine lv_iload S.1 S.2.1 dL_law_179 (lv_at hl 5 rfl) ?_
  refine lv_iconst (v := (nI 2)) S.1 S.2.1 dL_law_181 (by decide) ?_
  refine n_add S dL_law_182 ?_
  refine l_sld S hX hbs hS hL (by omega) e1 dL_law_183 ?_
  have hP := fr_Pc hP
  have hD := fr_Dc hD
  refine fr_callVi (As := [.int p0, .int p1]) (rest := []) (n := 2) (wc := wm) (wr := wd1 u ++ ou cT o (g1 u)) S (hM _) gL_law_X9_addPerson rfl ⟨rfl, by decide +kernel, by decide +kernel, by decide +kernel⟩ hrm hP hK hD hS hA (va_recv hK.1 (fr_l hP) (ci := 7) (q0 := 0) rfl hq) hl rfl rfl (Nat.le_of_ble_eq_true rfl) ⟨hroom.1, hroom.2⟩ dL_law_184 (fun a v H locs hpm hP hD hS => ?_)
  refine lv_istore (lv' := [(6, .int a), (5, .int r), (0, .ref b), (1, .ref c9), (2, .ref q9), (3, .ref o), (4, .int (nI i))]) S.1 S.2.1 dL_law_187 hl (by decide) rfl (fun ls hl => ?_)
  refine lv_aload_n S.1 S.2.1 dL_law_189 rfl (lv_at hl 4 rfl) ?_
  obtain ⟨fsv, hqv⟩ := hqm v
  refine fr_callVi (As := []) (rest := []) (n := 0) (wc := wm1 v) (wr := wd1 u ++ ou cT o (g1 u)) S (hT v _) gL_law_X9_thrown rfl ⟨rfl, by decide +kernel, by decide +kernel, by decide +kernel⟩ ⟨rfl, rfl, Nat.le_of_ble_eq_true rfl, Nat.le_of_ble_eq_true rfl⟩ hP hK hD hS hA (va_recv hK.1 (fr_l hP) (ci := 7) (q0 := 0) rfl hqv) hl rfl rfl (Nat.le_of_ble_eq_true rfl) ⟨hroom.1, hroom.2⟩ dL_law_190 (fun t _ H locs ht hP hD hS => ?_)
  subst ht
  obtain ⟨hc1, hc2⟩ := hcmp r u a v hp hpm
  refine lv_iload S.1 S.2.1 dL_law_193 (lv_at hl 1 rfl) ?_
  refine lv_icmp_eq (tgt := 200) S.1 S.2.1 dL_law_195 (by decide) (fun _ => ?_) (fun q => absurd hc1.symm q)
  refine lv_iload S.1 S.2.1 dL_law_200 (lv_at hl 1 rfl) ?_
  have fin : W p l e room_1 s m #[Value.ref b] below meth c H locs (cells + 1) (slots + 8) Q (F0 m 217 ls []) := lv_goto (tgt := 1551) S.1 S.2.1 dL_law_217 (by decide) (kk r u a v H locs hp hpm (fr_Pc hP) (fr_Dc hD) hS ls (lv_sub hl [2, 3, 4, 5, 6] rfl))
  refine lv_if_ne (tgt := 217) S.1 S.2.1 dL_law_202 (by decide) (fun _ => fin) (fun q0 => ?_)
  have hr0 : r = nI 0 := q0
  refine lv_aload_n S.1 S.2.1 dL_law_205 rfl (lv_at hl 5 rfl) ?_
  refine lv_iconst (v := (nI 0)) S.1 S.2.1 dL_law_206 (by decide) ?_
  refine g_lald (i := 0) (n := 1) (g := g1 u) S ((wd1 u).length + 0) hK (fr_r hP) (ap_at.trans rfl) (by decide) dL_law_207 ?_
  refine lv_iload S.1 S.2.1 dL_law_208 (lv_at hl 0 rfl) ?_
  refine lv_i2l S.1 S.2.1 dL_law_210 rfl ?_
  exact l_leq (tgt := 217) S (hc2 hr0) dL_law_211 dL_law_212 (by decide) fin
set_option maxHeartbeats 4000000 in
set_option maxRecDepth 100000 in
theorem lc_setNeed {p : Program} {l : Launch} {e : Env} {s : State} {m : MethodId} {below : List Frame} {meth : Method} {c : Code} {b L : Nat} {xs : Nat → Int32} {D : va_G} {cT : ClassId × ClassId × ClassId} {Q : State → Prop} {H : Heap} {locs : List Loc} {cells slots : Nat} {ls : Array Slot} {St1 St2 : Type} {post : Int32 → St1 → Prop} {wd1 : St1 → va_W} {g1 : St1 → Nat → Int64} {postm : Int32 → St2 → Prop} {wm1 : St2 → va_W} {th : St2 → Nat} {wd wm : va_W} {g : Nat → Int64} {rm : Room} {fs : List Value} {i c9 q9 o : Nat} (X : LA p s m meth c b L xs D cT) (hi : i + 3 < L) (p0 : Int32) (p1 : Int32) (p2 : Int32) (e0 : xs (i + 1) = p0) (e1 : xs (i + 2) = p1) (e2 : xs (i + 3) = p2)
    (hW : ∀ sz, Met l yL_setNeed wsL_setNeed ({ frames := 8, cells := 1, slots := 8, locals := 200 } : Room) (va_Pc [.ref c9, .int p0, .int p1, .int p2, .ref o] (wx_R D (TY cT) (wd ++ ou cT o g) sz)) (wQi post D (fun u => wd1 u ++ ou cT o (g1 u)) (va_A (wd ++ ou cT o g) sz)) 1 8 (va_A (wd ++ ou cT o g) sz))
    (hM : ∀ sz, Met l yX9_setNeed wsX9_setNeed rm (va_Pc [.ref q9, .int p0, .int p1, .int p2] (wr_R D (TY cT) wm sz)) (wQi postm D wm1 (va_A wm sz)) 0 0 (va_A wm sz)) (hrm : rm.cells = 0 ∧ rm.slots = 0 ∧ rm.frames + 1 ≤ room_1.frames ∧ 8 + (5 + 11) + rm.locals ≤ room_1.locals) (hq : wm[0]? = some (q9, .inr (7, fs))) (hqm : ∀ v, ∃ fs, (wm1 v)[0]? = some (q9, .inr (7, fs)))
    (hT : ∀ v sz, Met l yX9_thrown wsX9_thrown ({ frames := 0, cells := 0, slots := 0, locals := 0 } : Room) (va_Pc [.ref q9] (wr_R D (TY cT) (wm1 v) sz)) (wQi (fun (r_ : Int32) (_ : Unit) => r_ = nI (th v)) D (fun (_ : Unit) => wm1 v) (va_A (wm1 v) sz)) 0 0 (va_A (wm1 v) sz))
    (hcmp : ∀ r u a v, post r u → postm a v → r = nI (th v) ∧ (r = nI 0 → g1 u 0 = a.toInt64))
    (hroom : cells + 1 ≤ room_1.cells ∧ slots + 8 ≤ room_1.slots) (hP : va_P D vwCl ((wd ++ ou cT o g) ++ wm) H) (hD : va_D (AL s) ((wd ++ ou cT o g) ++ wm)) (hS : va_S (AL s) s.heap H locs) (hl : lv_has ls 7 [(0, .ref b), (1, .ref c9), (2, .ref q9), (3, .ref o), (4, .int (nI i))])
    (kk : ∀ r u a v H locs, post r u → postm a v → va_P D vwCl ((wd1 u ++ ou cT o (g1 u)) ++ wm1 v) H → va_D (AL s) ((wd1 u ++ ou cT o (g1 u)) ++ wm1 v) → va_S (AL s) s.heap H locs → ∀ ls, lv_has ls 7 [(0, .ref b), (1, .ref c9), (2, .ref q9), (3, .ref o), (4, .int (nI i))] → W p l e room_1 s m #[Value.ref b] below meth c H locs (cells + 1) (slots + 8) Q (F0 m 1551 ls [])) : W p l e room_1 s m #[Value.ref b] below meth c H locs cells slots Q (F0 m 220 ls []) := by
  obtain ⟨S, hL, hX, hbs, hK, hXS⟩ := X
  have hA : ∀ q, s.heap.size ≤ q → AL s q := fun _ h => h
  refine lv_aload_n S.1 S.2.1 dL_law_220 rfl (lv_at hl 1 rfl) ?_
  refine lv_aload_n S.1 S.2.1 dL_law_221 rfl (lv_at hl 0 rfl) ?_
  refine lv_iload S.1 S.2.1 dL_law_222 (lv_at hl 4 rfl) ?_
  refine lv_iconst (v := (nI 1)) S.1 S.2.1 dL_law_224 (by decide) ?_
  refine n_add S dL_law_225 ?_
  refine l_sld S hX hbs hS hL (by omega) e0 dL_law_226 ?_
  refine lv_aload_n S.1 S.2.1 dL_law_227 rfl (lv_at hl 0 rfl) ?_
  refine lv_iload S.1 S.2.1 dL_law_228 (lv_at hl 4 rfl) ?_
  refine lv_iconst (v := (nI 2)) S.1 S.2.1 dL_law_230 (by decide) ?_
  refine n_add S dL_law_231 ?_
  refine l_sld S hX hbs hS hL (by omega) e1 dL_law_232 ?_
  refine lv_aload_n S.1 S.2.1 dL_law_233 rfl (lv_at hl 0 rfl) ?_
  refine lv_iload S.1 S.2.1 dL_law_234 (lv_at hl 4 rfl) ?_
  refine lv_iconst (v := (nI 3)) S.1 S.2.1 dL_law_236 (by decide) ?_
  refine n_add S dL_law_237 ?_
  refine l_sld S hX hbs hS hL (by omega) e2 dL_law_238 ?_
  refine lv_aload_n S.1 S.2.1 dL_law_239 rfl (lv_at hl 3 rfl) ?_
  refine fr_callSi (As := [.ref c9, .int p0, .int p1, .int p2, .ref o]) (rest := []) (n := 5) (wc := wd ++ ou cT o g) (wr := wm) S (hW _) gL_law_L_setNeed rfl ⟨by decide +kernel, by decide +kernel, by decide +kernel⟩ ⟨rfl, rfl, Nat.le_of_ble_eq_true rfl, Nat.le_of_ble_eq_true rfl⟩ hP hK (XS.law hXS hS) hD hS hA hl rfl rfl (Nat.le_of_ble_eq_true rfl) hroom dL_law_240 (fun r u H locs hp hP hD hS => ?_)
  refine lv_istore (lv' := [(5, .int r), (0, .ref b), (1, .ref c9), (2, .ref q9), (3, .ref o), (4, .int (nI i))]) S.1 S.2.1 dL_law_243 hl (by decide) rfl (fun ls hl => ?_)
  refine lv_aload_n S.1 S.2.1 dL_law_245 rfl (lv_at hl 3 rfl) ?_
  refine lv_aload_n S.1 S.2.1 dL_law_246 rfl (lv_at hl 1 rfl) ?_
  refine lv_iload S.1 S.2.1 dL_law_247 (lv_at hl 5 rfl) ?_
  refine lv_iconst (v := (nI 1)) S.1 S.2.1 dL_law_249 (by decide) ?_
  refine n_add S dL_law_250 ?_
  refine l_sld S hX hbs hS hL (by omega) e0 dL_law_251 ?_
  refine lv_aload_n S.1 S.2.1 dL_law_252 rfl (lv_at hl 1 rfl) ?_
  refine lv_iload S.1 S.2.1 dL_law_253 (lv_at hl 5 rfl) ?_
  refine lv_iconst (v := (nI 2)) S.1 S.2.1 dL_law_255 (by decide) ?_
  refine n_add S dL_law_256 ?_
  refine l_sld S hX hbs hS hL (by omega) e1 dL_law_257 ?_
  refine lv_aload_n S.1 S.2.1 dL_law_258 rfl (lv_at hl 1 rfl) ?_
  refine lv_iload S.1 S.2.1 dL_law_259 (lv_at hl 5 rfl) ?_
  refine lv_iconst (v := (nI 3)) S.1 S.2.1 dL_law_261 (by decide) ?_
  refine n_add S dL_law_262 ?_
  refine l_sld S hX hbs hS hL (by omega) e2 dL_law_263 ?_
  have hP := fr_Pc hP
  have hD := fr_Dc hD
  refine fr_callVi (As := [.int p0, .int p1, .int p2]) (rest := []) (n := 3) (wc := wm) (wr := wd1 u ++ ou cT o (g1 u)) S (hM _) gL_law_X9_setNeed rfl ⟨rfl, by decide +kernel, by decide +kernel, by decide +kernel⟩ hrm hP hK hD hS hA (va_recv hK.1 (fr_l hP) (ci := 7) (q0 := 0) rfl hq) hl rfl rfl (Nat.le_of_ble_eq_true rfl) ⟨hroom.1, hroom.2⟩ dL_law_264 (fun a v H locs hpm hP hD hS => ?_)
  refine lv_istore (lv' := [(6, .int a), (5, .int r), (0, .ref b), (1, .ref c9), (2, .ref q9), (3, .ref o), (4, .int (nI i))]) S.1 S.2.1 dL_law_267 hl (by decide) rfl (fun ls hl => ?_)
  refine lv_aload_n S.1 S.2.1 dL_law_269 rfl (lv_at hl 4 rfl) ?_
  obtain ⟨fsv, hqv⟩ := hqm v
  refine fr_callVi (As := []) (rest := []) (n := 0) (wc := wm1 v) (wr := wd1 u ++ ou cT o (g1 u)) S (hT v _) gL_law_X9_thrown rfl ⟨rfl, by decide +kernel, by decide +kernel, by decide +kernel⟩ ⟨rfl, rfl, Nat.le_of_ble_eq_true rfl, Nat.le_of_ble_eq_true rfl⟩ hP hK hD hS hA (va_recv hK.1 (fr_l hP) (ci := 7) (q0 := 0) rfl hqv) hl rfl rfl (Nat.le_of_ble_eq_true rfl) ⟨hroom.1, hroom.2⟩ dL_law_270 (fun t _ H locs ht hP hD hS => ?_)
  subst ht
  obtain ⟨hc1, hc2⟩ := hcmp r u a v hp hpm
  refine lv_iload S.1 S.2.1 dL_law_273 (lv_at hl 1 rfl) ?_
  refine lv_icmp_eq (tgt := 280) S.1 S.2.1 dL_law_275 (by decide) (fun _ => ?_) (fun q => absurd hc1.symm q)
  refine lv_iload S.1 S.2.1 dL_law_280 (lv_at hl 1 rfl) ?_
  have fin : W p l e room_1 s m #[Value.ref b] below meth c H locs (cells + 1) (slots + 8) Q (F0 m 297 ls []) := lv_goto (tgt := 1551) S.1 S.2.1 dL_law_297 (by decide) (kk r u a v H locs hp hpm (fr_Pc hP) (fr_Dc hD) hS ls (lv_sub hl [2, 3, 4, 5, 6] rfl))
  refine lv_if_ne (tgt := 297) S.1 S.2.1 dL_law_282 (by decide) (fun _ => fin) (fun q0 => ?_)
  have hr0 : r = nI 0 := q0
  refine lv_aload_n S.1 S.2.1 dL_law_285 rfl (lv_at hl 5 rfl) ?_
  refine lv_iconst (v := (nI 0)) S.1 S.2.1 dL_law_286 (by decide) ?_
  refine g_lald (i := 0) (n := 1) (g := g1 u) S ((wd1 u).length + 0) hK (fr_r hP) (ap_at.trans rfl) (by decide) dL_law_287 ?_
  refine lv_iload S.1 S.2.1 dL_law_288 (lv_at hl 0 rfl) ?_
  refine lv_i2l S.1 S.2.1 dL_law_290 rfl ?_
  exact l_leq (tgt := 297) S (hc2 hr0) dL_law_291 dL_law_292 (by decide) fin
set_option maxHeartbeats 4000000 in
set_option maxRecDepth 100000 in
theorem lc_forbid {p : Program} {l : Launch} {e : Env} {s : State} {m : MethodId} {below : List Frame} {meth : Method} {c : Code} {b L : Nat} {xs : Nat → Int32} {D : va_G} {cT : ClassId × ClassId × ClassId} {Q : State → Prop} {H : Heap} {locs : List Loc} {cells slots : Nat} {ls : Array Slot} {St1 St2 : Type} {post : Int32 → St1 → Prop} {wd1 : St1 → va_W} {g1 : St1 → Nat → Int64} {postm : Int32 → St2 → Prop} {wm1 : St2 → va_W} {th : St2 → Nat} {wd wm : va_W} {g : Nat → Int64} {rm : Room} {fs : List Value} {i c9 q9 o : Nat} (X : LA p s m meth c b L xs D cT) (hi : i + 3 < L) (p0 : Int32) (p1 : Int32) (w2 : Bool) (e0 : xs (i + 1) = p0) (e1 : xs (i + 2) = p1) (e2 : zb (xs (i + 3)) = w2)
    (hW : ∀ sz, Met l yL_forbid wsL_forbid ({ frames := 8, cells := 1, slots := 8, locals := 200 } : Room) (va_Pc [.ref c9, .int p0, .int p1, .int (nI w2.toNat), .ref o] (wx_R D (TY cT) (wd ++ ou cT o g) sz)) (wQi post D (fun u => wd1 u ++ ou cT o (g1 u)) (va_A (wd ++ ou cT o g) sz)) 1 8 (va_A (wd ++ ou cT o g) sz))
    (hM : ∀ sz, Met l yX9_forbid wsX9_forbid rm (va_Pc [.ref q9, .int p0, .int p1, .int (nI w2.toNat)] (wr_R D (TY cT) wm sz)) (wQi postm D wm1 (va_A wm sz)) 0 0 (va_A wm sz)) (hrm : rm.cells = 0 ∧ rm.slots = 0 ∧ rm.frames + 1 ≤ room_1.frames ∧ 8 + (6 + 11) + rm.locals ≤ room_1.locals) (hq : wm[0]? = some (q9, .inr (7, fs))) (hqm : ∀ v, ∃ fs, (wm1 v)[0]? = some (q9, .inr (7, fs)))
    (hT : ∀ v sz, Met l yX9_thrown wsX9_thrown ({ frames := 0, cells := 0, slots := 0, locals := 0 } : Room) (va_Pc [.ref q9] (wr_R D (TY cT) (wm1 v) sz)) (wQi (fun (r_ : Int32) (_ : Unit) => r_ = nI (th v)) D (fun (_ : Unit) => wm1 v) (va_A (wm1 v) sz)) 0 0 (va_A (wm1 v) sz))
    (hcmp : ∀ r u a v, post r u → postm a v → r = nI (th v) ∧ (r = nI 0 → g1 u 0 = bl a))
    (hroom : cells + 1 ≤ room_1.cells ∧ slots + 8 ≤ room_1.slots) (hP : va_P D vwCl ((wd ++ ou cT o g) ++ wm) H) (hD : va_D (AL s) ((wd ++ ou cT o g) ++ wm)) (hS : va_S (AL s) s.heap H locs) (hl : lv_has ls 7 [(0, .ref b), (1, .ref c9), (2, .ref q9), (3, .ref o), (4, .int (nI i))])
    (kk : ∀ r u a v H locs, post r u → postm a v → va_P D vwCl ((wd1 u ++ ou cT o (g1 u)) ++ wm1 v) H → va_D (AL s) ((wd1 u ++ ou cT o (g1 u)) ++ wm1 v) → va_S (AL s) s.heap H locs → ∀ ls, lv_has ls 7 [(0, .ref b), (1, .ref c9), (2, .ref q9), (3, .ref o), (4, .int (nI i))] → W p l e room_1 s m #[Value.ref b] below meth c H locs (cells + 1) (slots + 8) Q (F0 m 1551 ls [])) : W p l e room_1 s m #[Value.ref b] below meth c H locs cells slots Q (F0 m 300 ls []) := by
  obtain ⟨S, hL, hX, hbs, hK, hXS⟩ := X
  have hA : ∀ q, s.heap.size ≤ q → AL s q := fun _ h => h
  refine lv_aload_n S.1 S.2.1 dL_law_300 rfl (lv_at hl 1 rfl) ?_
  refine lv_aload_n S.1 S.2.1 dL_law_301 rfl (lv_at hl 0 rfl) ?_
  refine lv_iload S.1 S.2.1 dL_law_302 (lv_at hl 4 rfl) ?_
  refine lv_iconst (v := (nI 1)) S.1 S.2.1 dL_law_304 (by decide) ?_
  refine n_add S dL_law_305 ?_
  refine l_sld S hX hbs hS hL (by omega) e0 dL_law_306 ?_
  refine lv_aload_n S.1 S.2.1 dL_law_307 rfl (lv_at hl 0 rfl) ?_
  refine lv_iload S.1 S.2.1 dL_law_308 (lv_at hl 4 rfl) ?_
  refine lv_iconst (v := (nI 2)) S.1 S.2.1 dL_law_310 (by decide) ?_
  refine n_add S dL_law_311 ?_
  refine l_sld S hX hbs hS hL (by omega) e1 dL_law_312 ?_
  refine lv_aload_n S.1 S.2.1 dL_law_313 rfl (lv_at hl 0 rfl) ?_
  refine lv_iload S.1 S.2.1 dL_law_314 (lv_at hl 4 rfl) ?_
  refine lv_iconst (v := (nI 3)) S.1 S.2.1 dL_law_316 (by decide) ?_
  refine n_add S dL_law_317 ?_
  refine l_sld S hX hbs hS hL (by omega) rfl dL_law_318 ?_
  refine l_bool (t := 326) (j := 327) S e2 dL_law_319 dL_law_322 dL_law_323 dL_law_326 (by decide) (by decide) rfl ?_
  refine lv_aload_n S.1 S.2.1 dL_law_327 rfl (lv_at hl 3 rfl) ?_
  refine fr_callSi (As := [.ref c9, .int p0, .int p1, .int (nI w2.toNat), .ref o]) (rest := []) (n := 5) (wc := wd ++ ou cT o g) (wr := wm) S (hW _) gL_law_L_forbid rfl ⟨by decide +kernel, by decide +kernel, by decide +kernel⟩ ⟨rfl, rfl, Nat.le_of_ble_eq_true rfl, Nat.le_of_ble_eq_true rfl⟩ hP hK (XS.law hXS hS) hD hS hA hl rfl rfl (Nat.le_of_ble_eq_true rfl) hroom dL_law_328 (fun r u H locs hp hP hD hS => ?_)
  refine lv_istore (lv' := [(5, .int r), (0, .ref b), (1, .ref c9), (2, .ref q9), (3, .ref o), (4, .int (nI i))]) S.1 S.2.1 dL_law_331 hl (by decide) rfl (fun ls hl => ?_)
  refine lv_aload_n S.1 S.2.1 dL_law_333 rfl (lv_at hl 3 rfl) ?_
  refine lv_aload_n S.1 S.2.1 dL_law_334 rfl (lv_at hl 1 rfl) ?_
  refine lv_iload S.1 S.2.1 dL_law_335 (lv_at hl 5 rfl) ?_
  refine lv_iconst (v := (nI 1)) S.1 S.2.1 dL_law_337 (by decide) ?_
  refine n_add S dL_law_338 ?_
  refine l_sld S hX hbs hS hL (by omega) e0 dL_law_339 ?_
  refine lv_aload_n S.1 S.2.1 dL_law_340 rfl (lv_at hl 1 rfl) ?_
  refine lv_iload S.1 S.2.1 dL_law_341 (lv_at hl 5 rfl) ?_
  refine lv_iconst (v := (nI 2)) S.1 S.2.1 dL_law_343 (by decide) ?_
  refine n_add S dL_law_344 ?_
  refine l_sld S hX hbs hS hL (by omega) e1 dL_law_345 ?_
  refine lv_aload_n S.1 S.2.1 dL_law_346 rfl (lv_at hl 1 rfl) ?_
  refine lv_iload S.1 S.2.1 dL_law_347 (lv_at hl 5 rfl) ?_
  refine lv_iconst (v := (nI 3)) S.1 S.2.1 dL_law_349 (by decide) ?_
  refine n_add S dL_law_350 ?_
  refine l_sld S hX hbs hS hL (by omega) rfl dL_law_351 ?_
  refine l_bool (t := 359) (j := 360) S e2 dL_law_352 dL_law_355 dL_law_356 dL_law_359 (by decide) (by decide) rfl ?_
  have hP := fr_Pc hP
  have hD := fr_Dc hD
  refine fr_callVi (As := [.int p0, .int p1, .int (nI w2.toNat)]) (rest := []) (n := 3) (wc := wm) (wr := wd1 u ++ ou cT o (g1 u)) S (hM _) gL_law_X9_forbid rfl ⟨rfl, by decide +kernel, by decide +kernel, by decide +kernel⟩ hrm hP hK hD hS hA (va_recv hK.1 (fr_l hP) (ci := 7) (q0 := 0) rfl hq) hl rfl rfl (Nat.le_of_ble_eq_true rfl) ⟨hroom.1, hroom.2⟩ dL_law_360 (fun a v H locs hpm hP hD hS => ?_)
  refine lv_istore (lv' := [(6, .int a), (5, .int r), (0, .ref b), (1, .ref c9), (2, .ref q9), (3, .ref o), (4, .int (nI i))]) S.1 S.2.1 dL_law_363 hl (by decide) rfl (fun ls hl => ?_)
  refine lv_aload_n S.1 S.2.1 dL_law_365 rfl (lv_at hl 4 rfl) ?_
  obtain ⟨fsv, hqv⟩ := hqm v
  refine fr_callVi (As := []) (rest := []) (n := 0) (wc := wm1 v) (wr := wd1 u ++ ou cT o (g1 u)) S (hT v _) gL_law_X9_thrown rfl ⟨rfl, by decide +kernel, by decide +kernel, by decide +kernel⟩ ⟨rfl, rfl, Nat.le_of_ble_eq_true rfl, Nat.le_of_ble_eq_true rfl⟩ hP hK hD hS hA (va_recv hK.1 (fr_l hP) (ci := 7) (q0 := 0) rfl hqv) hl rfl rfl (Nat.le_of_ble_eq_true rfl) ⟨hroom.1, hroom.2⟩ dL_law_366 (fun t _ H locs ht hP hD hS => ?_)
  subst ht
  obtain ⟨hc1, hc2⟩ := hcmp r u a v hp hpm
  refine lv_iload S.1 S.2.1 dL_law_369 (lv_at hl 1 rfl) ?_
  refine lv_icmp_eq (tgt := 376) S.1 S.2.1 dL_law_371 (by decide) (fun _ => ?_) (fun q => absurd hc1.symm q)
  refine lv_iload S.1 S.2.1 dL_law_376 (lv_at hl 1 rfl) ?_
  have fin : W p l e room_1 s m #[Value.ref b] below meth c H locs (cells + 1) (slots + 8) Q (F0 m 400 ls []) := lv_goto (tgt := 1551) S.1 S.2.1 dL_law_400 (by decide) (kk r u a v H locs hp hpm (fr_Pc hP) (fr_Dc hD) hS ls (lv_sub hl [2, 3, 4, 5, 6] rfl))
  refine lv_if_ne (tgt := 400) S.1 S.2.1 dL_law_378 (by decide) (fun _ => fin) (fun q0 => ?_)
  have hr0 : r = nI 0 := q0
  refine lv_aload_n S.1 S.2.1 dL_law_381 rfl (lv_at hl 5 rfl) ?_
  refine lv_iconst (v := (nI 0)) S.1 S.2.1 dL_law_382 (by decide) ?_
  refine g_lald (i := 0) (n := 1) (g := g1 u) S ((wd1 u).length + 0) hK (fr_r hP) (ap_at.trans rfl) (by decide) dL_law_383 ?_
  refine lv_iload S.1 S.2.1 dL_law_384 (lv_at hl 0 rfl) ?_
  refine l_bl (t := 393) (j := 394) S dL_law_386 dL_law_389 dL_law_390 dL_law_393 (by decide) (by decide) rfl ?_
  exact l_leq (tgt := 400) S (hc2 hr0) dL_law_394 dL_law_395 (by decide) fin
set_option maxHeartbeats 4000000 in
set_option maxRecDepth 100000 in
theorem lc_setRun {p : Program} {l : Launch} {e : Env} {s : State} {m : MethodId} {below : List Frame} {meth : Method} {c : Code} {b L : Nat} {xs : Nat → Int32} {D : va_G} {cT : ClassId × ClassId × ClassId} {Q : State → Prop} {H : Heap} {locs : List Loc} {cells slots : Nat} {ls : Array Slot} {St1 St2 : Type} {post : Int32 → St1 → Prop} {wd1 : St1 → va_W} {g1 : St1 → Nat → Int64} {postm : Int32 → St2 → Prop} {wm1 : St2 → va_W} {th : St2 → Nat} {wd wm : va_W} {g : Nat → Int64} {rm : Room} {fs : List Value} {i c9 q9 o : Nat} (X : LA p s m meth c b L xs D cT) (hi : i + 3 < L) (p0 : Int32) (e0 : xs (i + 1) = p0)
    (hW : ∀ sz, Met l yL_setRun wsL_setRun ({ frames := 8, cells := 1, slots := 8, locals := 200 } : Room) (va_Pc [.ref c9, .int p0, .ref o] (wx_R D (TY cT) (wd ++ ou cT o g) sz)) (wQi post D (fun u => wd1 u ++ ou cT o (g1 u)) (va_A (wd ++ ou cT o g) sz)) 1 8 (va_A (wd ++ ou cT o g) sz))
    (hM : ∀ sz, Met l yX9_setRun wsX9_setRun rm (va_Pc [.ref q9, .int p0] (wr_R D (TY cT) wm sz)) (wQi postm D wm1 (va_A wm sz)) 0 0 (va_A wm sz)) (hrm : rm.cells = 0 ∧ rm.slots = 0 ∧ rm.frames + 1 ≤ room_1.frames ∧ 8 + (3 + 11) + rm.locals ≤ room_1.locals) (hq : wm[0]? = some (q9, .inr (7, fs))) (hqm : ∀ v, ∃ fs, (wm1 v)[0]? = some (q9, .inr (7, fs)))
    (hT : ∀ v sz, Met l yX9_thrown wsX9_thrown ({ frames := 0, cells := 0, slots := 0, locals := 0 } : Room) (va_Pc [.ref q9] (wr_R D (TY cT) (wm1 v) sz)) (wQi (fun (r_ : Int32) (_ : Unit) => r_ = nI (th v)) D (fun (_ : Unit) => wm1 v) (va_A (wm1 v) sz)) 0 0 (va_A (wm1 v) sz))
    (hcmp : ∀ r u a v, post r u → postm a v → r = nI (th v) ∧ (r = nI 0 → g1 u 0 = a.toInt64))
    (hroom : cells + 1 ≤ room_1.cells ∧ slots + 8 ≤ room_1.slots) (hP : va_P D vwCl ((wd ++ ou cT o g) ++ wm) H) (hD : va_D (AL s) ((wd ++ ou cT o g) ++ wm)) (hS : va_S (AL s) s.heap H locs) (hl : lv_has ls 7 [(0, .ref b), (1, .ref c9), (2, .ref q9), (3, .ref o), (4, .int (nI i))])
    (kk : ∀ r u a v H locs, post r u → postm a v → va_P D vwCl ((wd1 u ++ ou cT o (g1 u)) ++ wm1 v) H → va_D (AL s) ((wd1 u ++ ou cT o (g1 u)) ++ wm1 v) → va_S (AL s) s.heap H locs → ∀ ls, lv_has ls 7 [(0, .ref b), (1, .ref c9), (2, .ref q9), (3, .ref o), (4, .int (nI i))] → W p l e room_1 s m #[Value.ref b] below meth c H locs (cells + 1) (slots + 8) Q (F0 m 1551 ls [])) : W p l e room_1 s m #[Value.ref b] below meth c H locs cells slots Q (F0 m 403 ls []) := by
  obtain ⟨S, hL, hX, hbs, hK, hXS⟩ := X
  have hA : ∀ q, s.heap.size ≤ q → AL s q := fun _ h => h
  refine lv_aload_n S.1 S.2.1 dL_law_403 rfl (lv_at hl 1 rfl) ?_
  refine lv_aload_n S.1 S.2.1 dL_law_404 rfl (lv_at hl 0 rfl) ?_
  refine lv_iload S.1 S.2.1 dL_law_405 (lv_at hl 4 rfl) ?_
  refine lv_iconst (v := (nI 1)) S.1 S.2.1 dL_law_407 (by decide) ?_
  refine n_add S dL_law_408 ?_
  refine l_sld S hX hbs hS hL (by omega) e0 dL_law_409 ?_
  refine lv_aload_n S.1 S.2.1 dL_law_410 rfl (lv_at hl 3 rfl) ?_
  refine fr_callSi (As := [.ref c9, .int p0, .ref o]) (rest := []) (n := 3) (wc := wd ++ ou cT o g) (wr := wm) S (hW _) gL_law_L_setRun rfl ⟨by decide +kernel, by decide +kernel, by decide +kernel⟩ ⟨rfl, rfl, Nat.le_of_ble_eq_true rfl, Nat.le_of_ble_eq_true rfl⟩ hP hK (XS.law hXS hS) hD hS hA hl rfl rfl (Nat.le_of_ble_eq_true rfl) hroom dL_law_411 (fun r u H locs hp hP hD hS => ?_)
  refine lv_istore (lv' := [(5, .int r), (0, .ref b), (1, .ref c9), (2, .ref q9), (3, .ref o), (4, .int (nI i))]) S.1 S.2.1 dL_law_414 hl (by decide) rfl (fun ls hl => ?_)
  refine lv_aload_n S.1 S.2.1 dL_law_416 rfl (lv_at hl 3 rfl) ?_
  refine lv_aload_n S.1 S.2.1 dL_law_417 rfl (lv_at hl 1 rfl) ?_
  refine lv_iload S.1 S.2.1 dL_law_418 (lv_at hl 5 rfl) ?_
  refine lv_iconst (v := (nI 1)) S.1 S.2.1 dL_law_420 (by decide) ?_
  refine n_add S dL_law_421 ?_
  refine l_sld S hX hbs hS hL (by omega) e0 dL_law_422 ?_
  have hP := fr_Pc hP
  have hD := fr_Dc hD
  refine fr_callVi (As := [.int p0]) (rest := []) (n := 1) (wc := wm) (wr := wd1 u ++ ou cT o (g1 u)) S (hM _) gL_law_X9_setRun rfl ⟨rfl, by decide +kernel, by decide +kernel, by decide +kernel⟩ hrm hP hK hD hS hA (va_recv hK.1 (fr_l hP) (ci := 7) (q0 := 0) rfl hq) hl rfl rfl (Nat.le_of_ble_eq_true rfl) ⟨hroom.1, hroom.2⟩ dL_law_423 (fun a v H locs hpm hP hD hS => ?_)
  refine lv_istore (lv' := [(6, .int a), (5, .int r), (0, .ref b), (1, .ref c9), (2, .ref q9), (3, .ref o), (4, .int (nI i))]) S.1 S.2.1 dL_law_426 hl (by decide) rfl (fun ls hl => ?_)
  refine lv_aload_n S.1 S.2.1 dL_law_428 rfl (lv_at hl 4 rfl) ?_
  obtain ⟨fsv, hqv⟩ := hqm v
  refine fr_callVi (As := []) (rest := []) (n := 0) (wc := wm1 v) (wr := wd1 u ++ ou cT o (g1 u)) S (hT v _) gL_law_X9_thrown rfl ⟨rfl, by decide +kernel, by decide +kernel, by decide +kernel⟩ ⟨rfl, rfl, Nat.le_of_ble_eq_true rfl, Nat.le_of_ble_eq_true rfl⟩ hP hK hD hS hA (va_recv hK.1 (fr_l hP) (ci := 7) (q0 := 0) rfl hqv) hl rfl rfl (Nat.le_of_ble_eq_true rfl) ⟨hroom.1, hroom.2⟩ dL_law_429 (fun t _ H locs ht hP hD hS => ?_)
  subst ht
  obtain ⟨hc1, hc2⟩ := hcmp r u a v hp hpm
  refine lv_iload S.1 S.2.1 dL_law_432 (lv_at hl 1 rfl) ?_
  refine lv_icmp_eq (tgt := 439) S.1 S.2.1 dL_law_434 (by decide) (fun _ => ?_) (fun q => absurd hc1.symm q)
  refine lv_iload S.1 S.2.1 dL_law_439 (lv_at hl 1 rfl) ?_
  have fin : W p l e room_1 s m #[Value.ref b] below meth c H locs (cells + 1) (slots + 8) Q (F0 m 456 ls []) := lv_goto (tgt := 1551) S.1 S.2.1 dL_law_456 (by decide) (kk r u a v H locs hp hpm (fr_Pc hP) (fr_Dc hD) hS ls (lv_sub hl [2, 3, 4, 5, 6] rfl))
  refine lv_if_ne (tgt := 456) S.1 S.2.1 dL_law_441 (by decide) (fun _ => fin) (fun q0 => ?_)
  have hr0 : r = nI 0 := q0
  refine lv_aload_n S.1 S.2.1 dL_law_444 rfl (lv_at hl 5 rfl) ?_
  refine lv_iconst (v := (nI 0)) S.1 S.2.1 dL_law_445 (by decide) ?_
  refine g_lald (i := 0) (n := 1) (g := g1 u) S ((wd1 u).length + 0) hK (fr_r hP) (ap_at.trans rfl) (by decide) dL_law_446 ?_
  refine lv_iload S.1 S.2.1 dL_law_447 (lv_at hl 0 rfl) ?_
  refine lv_i2l S.1 S.2.1 dL_law_449 rfl ?_
  exact l_leq (tgt := 456) S (hc2 hr0) dL_law_450 dL_law_451 (by decide) fin
set_option maxHeartbeats 4000000 in
set_option maxRecDepth 100000 in
theorem lc_wish {p : Program} {l : Launch} {e : Env} {s : State} {m : MethodId} {below : List Frame} {meth : Method} {c : Code} {b L : Nat} {xs : Nat → Int32} {D : va_G} {cT : ClassId × ClassId × ClassId} {Q : State → Prop} {H : Heap} {locs : List Loc} {cells slots : Nat} {ls : Array Slot} {St1 St2 : Type} {post : Int32 → St1 → Prop} {wd1 : St1 → va_W} {g1 : St1 → Nat → Int64} {postm : Int32 → St2 → Prop} {wm1 : St2 → va_W} {th : St2 → Nat} {wd wm : va_W} {g : Nat → Int64} {rm : Room} {fs : List Value} {i c9 q9 o : Nat} (X : LA p s m meth c b L xs D cT) (hi : i + 3 < L) (p0 : Int32) (p1 : Int32) (w2 : Bool) (e0 : xs (i + 1) = p0) (e1 : xs (i + 2) = p1) (e2 : zb (xs (i + 3)) = w2)
    (hW : ∀ sz, Met l yL_wish wsL_wish ({ frames := 8, cells := 1, slots := 8, locals := 200 } : Room) (va_Pc [.ref c9, .int p0, .int p1, .int (nI w2.toNat), .ref o] (wx_R D (TY cT) (wd ++ ou cT o g) sz)) (wQi post D (fun u => wd1 u ++ ou cT o (g1 u)) (va_A (wd ++ ou cT o g) sz)) 1 8 (va_A (wd ++ ou cT o g) sz))
    (hM : ∀ sz, Met l yX9_wish wsX9_wish rm (va_Pc [.ref q9, .int p0, .int p1, .int (nI w2.toNat)] (wr_R D (TY cT) wm sz)) (wQi postm D wm1 (va_A wm sz)) 0 0 (va_A wm sz)) (hrm : rm.cells = 0 ∧ rm.slots = 0 ∧ rm.frames + 1 ≤ room_1.frames ∧ 8 + (5 + 11) + rm.locals ≤ room_1.locals) (hq : wm[0]? = some (q9, .inr (7, fs))) (hqm : ∀ v, ∃ fs, (wm1 v)[0]? = some (q9, .inr (7, fs)))
    (hT : ∀ v sz, Met l yX9_thrown wsX9_thrown ({ frames := 0, cells := 0, slots := 0, locals := 0 } : Room) (va_Pc [.ref q9] (wr_R D (TY cT) (wm1 v) sz)) (wQi (fun (r_ : Int32) (_ : Unit) => r_ = nI (th v)) D (fun (_ : Unit) => wm1 v) (va_A (wm1 v) sz)) 0 0 (va_A (wm1 v) sz))
    (hcmp : ∀ r u a v, post r u → postm a v → r = nI (th v) ∧ (r = nI 0 → g1 u 0 = bl a))
    (hroom : cells + 1 ≤ room_1.cells ∧ slots + 8 ≤ room_1.slots) (hP : va_P D vwCl ((wd ++ ou cT o g) ++ wm) H) (hD : va_D (AL s) ((wd ++ ou cT o g) ++ wm)) (hS : va_S (AL s) s.heap H locs) (hl : lv_has ls 7 [(0, .ref b), (1, .ref c9), (2, .ref q9), (3, .ref o), (4, .int (nI i))])
    (kk : ∀ r u a v H locs, post r u → postm a v → va_P D vwCl ((wd1 u ++ ou cT o (g1 u)) ++ wm1 v) H → va_D (AL s) ((wd1 u ++ ou cT o (g1 u)) ++ wm1 v) → va_S (AL s) s.heap H locs → ∀ ls, lv_has ls 7 [(0, .ref b), (1, .ref c9), (2, .ref q9), (3, .ref o), (4, .int (nI i))] → W p l e room_1 s m #[Value.ref b] below meth c H locs (cells + 1) (slots + 8) Q (F0 m 1551 ls [])) : W p l e room_1 s m #[Value.ref b] below meth c H locs cells slots Q (F0 m 459 ls []) := by
  obtain ⟨S, hL, hX, hbs, hK, hXS⟩ := X
  have hA : ∀ q, s.heap.size ≤ q → AL s q := fun _ h => h
  refine lv_aload_n S.1 S.2.1 dL_law_459 rfl (lv_at hl 1 rfl) ?_
  refine lv_aload_n S.1 S.2.1 dL_law_460 rfl (lv_at hl 0 rfl) ?_
  refine lv_iload S.1 S.2.1 dL_law_461 (lv_at hl 4 rfl) ?_
  refine lv_iconst (v := (nI 1)) S.1 S.2.1 dL_law_463 (by decide) ?_
  refine n_add S dL_law_464 ?_
  refine l_sld S hX hbs hS hL (by omega) e0 dL_law_465 ?_
  refine lv_aload_n S.1 S.2.1 dL_law_466 rfl (lv_at hl 0 rfl) ?_
  refine lv_iload S.1 S.2.1 dL_law_467 (lv_at hl 4 rfl) ?_
  refine lv_iconst (v := (nI 2)) S.1 S.2.1 dL_law_469 (by decide) ?_
  refine n_add S dL_law_470 ?_
  refine l_sld S hX hbs hS hL (by omega) e1 dL_law_471 ?_
  refine lv_aload_n S.1 S.2.1 dL_law_472 rfl (lv_at hl 0 rfl) ?_
  refine lv_iload S.1 S.2.1 dL_law_473 (lv_at hl 4 rfl) ?_
  refine lv_iconst (v := (nI 3)) S.1 S.2.1 dL_law_475 (by decide) ?_
  refine n_add S dL_law_476 ?_
  refine l_sld S hX hbs hS hL (by omega) rfl dL_law_477 ?_
  refine l_bool (t := 485) (j := 486) S e2 dL_law_478 dL_law_481 dL_law_482 dL_law_485 (by decide) (by decide) rfl ?_
  refine lv_aload_n S.1 S.2.1 dL_law_486 rfl (lv_at hl 3 rfl) ?_
  refine fr_callSi (As := [.ref c9, .int p0, .int p1, .int (nI w2.toNat), .ref o]) (rest := []) (n := 5) (wc := wd ++ ou cT o g) (wr := wm) S (hW _) gL_law_L_wish rfl ⟨by decide +kernel, by decide +kernel, by decide +kernel⟩ ⟨rfl, rfl, Nat.le_of_ble_eq_true rfl, Nat.le_of_ble_eq_true rfl⟩ hP hK (XS.law hXS hS) hD hS hA hl rfl rfl (Nat.le_of_ble_eq_true rfl) hroom dL_law_487 (fun r u H locs hp hP hD hS => ?_)
  refine lv_istore (lv' := [(5, .int r), (0, .ref b), (1, .ref c9), (2, .ref q9), (3, .ref o), (4, .int (nI i))]) S.1 S.2.1 dL_law_490 hl (by decide) rfl (fun ls hl => ?_)
  refine lv_aload_n S.1 S.2.1 dL_law_492 rfl (lv_at hl 3 rfl) ?_
  refine lv_aload_n S.1 S.2.1 dL_law_493 rfl (lv_at hl 1 rfl) ?_
  refine lv_iload S.1 S.2.1 dL_law_494 (lv_at hl 5 rfl) ?_
  refine lv_iconst (v := (nI 1)) S.1 S.2.1 dL_law_496 (by decide) ?_
  refine n_add S dL_law_497 ?_
  refine l_sld S hX hbs hS hL (by omega) e0 dL_law_498 ?_
  refine lv_aload_n S.1 S.2.1 dL_law_499 rfl (lv_at hl 1 rfl) ?_
  refine lv_iload S.1 S.2.1 dL_law_500 (lv_at hl 5 rfl) ?_
  refine lv_iconst (v := (nI 2)) S.1 S.2.1 dL_law_502 (by decide) ?_
  refine n_add S dL_law_503 ?_
  refine l_sld S hX hbs hS hL (by omega) e1 dL_law_504 ?_
  refine lv_aload_n S.1 S.2.1 dL_law_505 rfl (lv_at hl 1 rfl) ?_
  refine lv_iload S.1 S.2.1 dL_law_506 (lv_at hl 5 rfl) ?_
  refine lv_iconst (v := (nI 3)) S.1 S.2.1 dL_law_508 (by decide) ?_
  refine n_add S dL_law_509 ?_
  refine l_sld S hX hbs hS hL (by omega) rfl dL_law_510 ?_
  refine l_bool (t := 518) (j := 519) S e2 dL_law_511 dL_law_514 dL_law_515 dL_law_518 (by decide) (by decide) rfl ?_
  have hP := fr_Pc hP
  have hD := fr_Dc hD
  refine fr_callVi (As := [.int p0, .int p1, .int (nI w2.toNat)]) (rest := []) (n := 3) (wc := wm) (wr := wd1 u ++ ou cT o (g1 u)) S (hM _) gL_law_X9_wish rfl ⟨rfl, by decide +kernel, by decide +kernel, by decide +kernel⟩ hrm hP hK hD hS hA (va_recv hK.1 (fr_l hP) (ci := 7) (q0 := 0) rfl hq) hl rfl rfl (Nat.le_of_ble_eq_true rfl) ⟨hroom.1, hroom.2⟩ dL_law_519 (fun a v H locs hpm hP hD hS => ?_)
  refine lv_istore (lv' := [(6, .int a), (5, .int r), (0, .ref b), (1, .ref c9), (2, .ref q9), (3, .ref o), (4, .int (nI i))]) S.1 S.2.1 dL_law_522 hl (by decide) rfl (fun ls hl => ?_)
  refine lv_aload_n S.1 S.2.1 dL_law_524 rfl (lv_at hl 4 rfl) ?_
  obtain ⟨fsv, hqv⟩ := hqm v
  refine fr_callVi (As := []) (rest := []) (n := 0) (wc := wm1 v) (wr := wd1 u ++ ou cT o (g1 u)) S (hT v _) gL_law_X9_thrown rfl ⟨rfl, by decide +kernel, by decide +kernel, by decide +kernel⟩ ⟨rfl, rfl, Nat.le_of_ble_eq_true rfl, Nat.le_of_ble_eq_true rfl⟩ hP hK hD hS hA (va_recv hK.1 (fr_l hP) (ci := 7) (q0 := 0) rfl hqv) hl rfl rfl (Nat.le_of_ble_eq_true rfl) ⟨hroom.1, hroom.2⟩ dL_law_525 (fun t _ H locs ht hP hD hS => ?_)
  subst ht
  obtain ⟨hc1, hc2⟩ := hcmp r u a v hp hpm
  refine lv_iload S.1 S.2.1 dL_law_528 (lv_at hl 1 rfl) ?_
  refine lv_icmp_eq (tgt := 535) S.1 S.2.1 dL_law_530 (by decide) (fun _ => ?_) (fun q => absurd hc1.symm q)
  refine lv_iload S.1 S.2.1 dL_law_535 (lv_at hl 1 rfl) ?_
  have fin : W p l e room_1 s m #[Value.ref b] below meth c H locs (cells + 1) (slots + 8) Q (F0 m 559 ls []) := lv_goto (tgt := 1551) S.1 S.2.1 dL_law_559 (by decide) (kk r u a v H locs hp hpm (fr_Pc hP) (fr_Dc hD) hS ls (lv_sub hl [2, 3, 4, 5, 6] rfl))
  refine lv_if_ne (tgt := 559) S.1 S.2.1 dL_law_537 (by decide) (fun _ => fin) (fun q0 => ?_)
  have hr0 : r = nI 0 := q0
  refine lv_aload_n S.1 S.2.1 dL_law_540 rfl (lv_at hl 5 rfl) ?_
  refine lv_iconst (v := (nI 0)) S.1 S.2.1 dL_law_541 (by decide) ?_
  refine g_lald (i := 0) (n := 1) (g := g1 u) S ((wd1 u).length + 0) hK (fr_r hP) (ap_at.trans rfl) (by decide) dL_law_542 ?_
  refine lv_iload S.1 S.2.1 dL_law_543 (lv_at hl 0 rfl) ?_
  refine l_bl (t := 552) (j := 553) S dL_law_545 dL_law_548 dL_law_549 dL_law_552 (by decide) (by decide) rfl ?_
  exact l_leq (tgt := 559) S (hc2 hr0) dL_law_553 dL_law_554 (by decide) fin
set_option maxHeartbeats 4000000 in
set_option maxRecDepth 100000 in
theorem lc_fix {p : Program} {l : Launch} {e : Env} {s : State} {m : MethodId} {below : List Frame} {meth : Method} {c : Code} {b L : Nat} {xs : Nat → Int32} {D : va_G} {cT : ClassId × ClassId × ClassId} {Q : State → Prop} {H : Heap} {locs : List Loc} {cells slots : Nat} {ls : Array Slot} {St1 St2 : Type} {post : Int32 → St1 → Prop} {wd1 : St1 → va_W} {g1 : St1 → Nat → Int64} {postm : Int32 → St2 → Prop} {wm1 : St2 → va_W} {th : St2 → Nat} {wd wm : va_W} {g : Nat → Int64} {rm : Room} {fs : List Value} {i c9 q9 o : Nat} (X : LA p s m meth c b L xs D cT) (hi : i + 3 < L) (p0 : Int32) (p1 : Int32) (p2 : Int32) (e0 : xs (i + 1) = p0) (e1 : xs (i + 2) = p1) (e2 : xs (i + 3) = p2)
    (hW : ∀ sz, Met l yL_fix wsL_fix ({ frames := 8, cells := 1, slots := 8, locals := 200 } : Room) (va_Pc [.ref c9, .int p0, .int p1, .int p2, .ref o] (wx_R D (TY cT) (wd ++ ou cT o g) sz)) (wQi post D (fun u => wd1 u ++ ou cT o (g1 u)) (va_A (wd ++ ou cT o g) sz)) 1 8 (va_A (wd ++ ou cT o g) sz))
    (hM : ∀ sz, Met l yX9_fix wsX9_fix rm (va_Pc [.ref q9, .int p0, .int p1, .int p2] (wr_R D (TY cT) wm sz)) (wQi postm D wm1 (va_A wm sz)) 0 0 (va_A wm sz)) (hrm : rm.cells = 0 ∧ rm.slots = 0 ∧ rm.frames + 1 ≤ room_1.frames ∧ 8 + (5 + 11) + rm.locals ≤ room_1.locals) (hq : wm[0]? = some (q9, .inr (7, fs))) (hqm : ∀ v, ∃ fs, (wm1 v)[0]? = some (q9, .inr (7, fs)))
    (hT : ∀ v sz, Met l yX9_thrown wsX9_thrown ({ frames := 0, cells := 0, slots := 0, locals := 0 } : Room) (va_Pc [.ref q9] (wr_R D (TY cT) (wm1 v) sz)) (wQi (fun (r_ : Int32) (_ : Unit) => r_ = nI (th v)) D (fun (_ : Unit) => wm1 v) (va_A (wm1 v) sz)) 0 0 (va_A (wm1 v) sz))
    (hcmp : ∀ r u a v, post r u → postm a v → r = nI (th v) ∧ (r = nI 0 → g1 u 0 = a.toInt64))
    (hroom : cells + 1 ≤ room_1.cells ∧ slots + 8 ≤ room_1.slots) (hP : va_P D vwCl ((wd ++ ou cT o g) ++ wm) H) (hD : va_D (AL s) ((wd ++ ou cT o g) ++ wm)) (hS : va_S (AL s) s.heap H locs) (hl : lv_has ls 7 [(0, .ref b), (1, .ref c9), (2, .ref q9), (3, .ref o), (4, .int (nI i))])
    (kk : ∀ r u a v H locs, post r u → postm a v → va_P D vwCl ((wd1 u ++ ou cT o (g1 u)) ++ wm1 v) H → va_D (AL s) ((wd1 u ++ ou cT o (g1 u)) ++ wm1 v) → va_S (AL s) s.heap H locs → ∀ ls, lv_has ls 7 [(0, .ref b), (1, .ref c9), (2, .ref q9), (3, .ref o), (4, .int (nI i))] → W p l e room_1 s m #[Value.ref b] below meth c H locs (cells + 1) (slots + 8) Q (F0 m 1551 ls [])) : W p l e room_1 s m #[Value.ref b] below meth c H locs cells slots Q (F0 m 562 ls []) := by
  obtain ⟨S, hL, hX, hbs, hK, hXS⟩ := X
  have hA : ∀ q, s.heap.size ≤ q → AL s q := fun _ h => h
  refine lv_aload_n S.1 S.2.1 dL_law_562 rfl (lv_at hl 1 rfl) ?_
  refine lv_aload_n S.1 S.2.1 dL_law_563 rfl (lv_at hl 0 rfl) ?_
  refine lv_iload S.1 S.2.1 dL_law_564 (lv_at hl 4 rfl) ?_
  refine lv_iconst (v := (nI 1)) S.1 S.2.1 dL_law_566 (by decide) ?_
  refine n_add S dL_law_567 ?_
  refine l_sld S hX hbs hS hL (by omega) e0 dL_law_568 ?_
  refine lv_aload_n S.1 S.2.1 dL_law_569 rfl (lv_at hl 0 rfl) ?_
  refine lv_iload S.1 S.2.1 dL_law_570 (lv_at hl 4 rfl) ?_
  refine lv_iconst (v := (nI 2)) S.1 S.2.1 dL_law_572 (by decide) ?_
  refine n_add S dL_law_573 ?_
  refine l_sld S hX hbs hS hL (by omega) e1 dL_law_574 ?_
  refine lv_aload_n S.1 S.2.1 dL_law_575 rfl (lv_at hl 0 rfl) ?_
  refine lv_iload S.1 S.2.1 dL_law_576 (lv_at hl 4 rfl) ?_
  refine lv_iconst (v := (nI 3)) S.1 S.2.1 dL_law_578 (by decide) ?_
  refine n_add S dL_law_579 ?_
  refine l_sld S hX hbs hS hL (by omega) e2 dL_law_580 ?_
  refine lv_aload_n S.1 S.2.1 dL_law_581 rfl (lv_at hl 3 rfl) ?_
  refine fr_callSi (As := [.ref c9, .int p0, .int p1, .int p2, .ref o]) (rest := []) (n := 5) (wc := wd ++ ou cT o g) (wr := wm) S (hW _) gL_law_L_fix rfl ⟨by decide +kernel, by decide +kernel, by decide +kernel⟩ ⟨rfl, rfl, Nat.le_of_ble_eq_true rfl, Nat.le_of_ble_eq_true rfl⟩ hP hK (XS.law hXS hS) hD hS hA hl rfl rfl (Nat.le_of_ble_eq_true rfl) hroom dL_law_582 (fun r u H locs hp hP hD hS => ?_)
  refine lv_istore (lv' := [(5, .int r), (0, .ref b), (1, .ref c9), (2, .ref q9), (3, .ref o), (4, .int (nI i))]) S.1 S.2.1 dL_law_585 hl (by decide) rfl (fun ls hl => ?_)
  refine lv_aload_n S.1 S.2.1 dL_law_587 rfl (lv_at hl 3 rfl) ?_
  refine lv_aload_n S.1 S.2.1 dL_law_588 rfl (lv_at hl 1 rfl) ?_
  refine lv_iload S.1 S.2.1 dL_law_589 (lv_at hl 5 rfl) ?_
  refine lv_iconst (v := (nI 1)) S.1 S.2.1 dL_law_591 (by decide) ?_
  refine n_add S dL_law_592 ?_
  refine l_sld S hX hbs hS hL (by omega) e0 dL_law_593 ?_
  refine lv_aload_n S.1 S.2.1 dL_law_594 rfl (lv_at hl 1 rfl) ?_
  refine lv_iload S.1 S.2.1 dL_law_595 (lv_at hl 5 rfl) ?_
  refine lv_iconst (v := (nI 2)) S.1 S.2.1 dL_law_597 (by decide) ?_
  refine n_add S dL_law_598 ?_
  refine l_sld S hX hbs hS hL (by omega) e1 dL_law_599 ?_
  refine lv_aload_n S.1 S.2.1 dL_law_600 rfl (lv_at hl 1 rfl) ?_
  refine lv_iload S.1 S.2.1 dL_law_601 (lv_at hl 5 rfl) ?_
  refine lv_iconst (v := (nI 3)) S.1 S.2.1 dL_law_603 (by decide) ?_
  refine n_add S dL_law_604 ?_
  refine l_sld S hX hbs hS hL (by omega) e2 dL_law_605 ?_
  have hP := fr_Pc hP
  have hD := fr_Dc hD
  refine fr_callVi (As := [.int p0, .int p1, .int p2]) (rest := []) (n := 3) (wc := wm) (wr := wd1 u ++ ou cT o (g1 u)) S (hM _) gL_law_X9_fix rfl ⟨rfl, by decide +kernel, by decide +kernel, by decide +kernel⟩ hrm hP hK hD hS hA (va_recv hK.1 (fr_l hP) (ci := 7) (q0 := 0) rfl hq) hl rfl rfl (Nat.le_of_ble_eq_true rfl) ⟨hroom.1, hroom.2⟩ dL_law_606 (fun a v H locs hpm hP hD hS => ?_)
  refine lv_istore (lv' := [(6, .int a), (5, .int r), (0, .ref b), (1, .ref c9), (2, .ref q9), (3, .ref o), (4, .int (nI i))]) S.1 S.2.1 dL_law_609 hl (by decide) rfl (fun ls hl => ?_)
  refine lv_aload_n S.1 S.2.1 dL_law_611 rfl (lv_at hl 4 rfl) ?_
  obtain ⟨fsv, hqv⟩ := hqm v
  refine fr_callVi (As := []) (rest := []) (n := 0) (wc := wm1 v) (wr := wd1 u ++ ou cT o (g1 u)) S (hT v _) gL_law_X9_thrown rfl ⟨rfl, by decide +kernel, by decide +kernel, by decide +kernel⟩ ⟨rfl, rfl, Nat.le_of_ble_eq_true rfl, Nat.le_of_ble_eq_true rfl⟩ hP hK hD hS hA (va_recv hK.1 (fr_l hP) (ci := 7) (q0 := 0) rfl hqv) hl rfl rfl (Nat.le_of_ble_eq_true rfl) ⟨hroom.1, hroom.2⟩ dL_law_612 (fun t _ H locs ht hP hD hS => ?_)
  subst ht
  obtain ⟨hc1, hc2⟩ := hcmp r u a v hp hpm
  refine lv_iload S.1 S.2.1 dL_law_615 (lv_at hl 1 rfl) ?_
  refine lv_icmp_eq (tgt := 622) S.1 S.2.1 dL_law_617 (by decide) (fun _ => ?_) (fun q => absurd hc1.symm q)
  refine lv_iload S.1 S.2.1 dL_law_622 (lv_at hl 1 rfl) ?_
  have fin : W p l e room_1 s m #[Value.ref b] below meth c H locs (cells + 1) (slots + 8) Q (F0 m 639 ls []) := lv_goto (tgt := 1551) S.1 S.2.1 dL_law_639 (by decide) (kk r u a v H locs hp hpm (fr_Pc hP) (fr_Dc hD) hS ls (lv_sub hl [2, 3, 4, 5, 6] rfl))
  refine lv_if_ne (tgt := 639) S.1 S.2.1 dL_law_624 (by decide) (fun _ => fin) (fun q0 => ?_)
  have hr0 : r = nI 0 := q0
  refine lv_aload_n S.1 S.2.1 dL_law_627 rfl (lv_at hl 5 rfl) ?_
  refine lv_iconst (v := (nI 0)) S.1 S.2.1 dL_law_628 (by decide) ?_
  refine g_lald (i := 0) (n := 1) (g := g1 u) S ((wd1 u).length + 0) hK (fr_r hP) (ap_at.trans rfl) (by decide) dL_law_629 ?_
  refine lv_iload S.1 S.2.1 dL_law_630 (lv_at hl 0 rfl) ?_
  refine lv_i2l S.1 S.2.1 dL_law_632 rfl ?_
  exact l_leq (tgt := 639) S (hc2 hr0) dL_law_633 dL_law_634 (by decide) fin
set_option maxHeartbeats 4000000 in
set_option maxRecDepth 100000 in
theorem lc_plan {p : Program} {l : Launch} {e : Env} {s : State} {m : MethodId} {below : List Frame} {meth : Method} {c : Code} {b L : Nat} {xs : Nat → Int32} {D : va_G} {cT : ClassId × ClassId × ClassId} {Q : State → Prop} {H : Heap} {locs : List Loc} {cells slots : Nat} {ls : Array Slot} {St1 St2 : Type} {post : Int32 → St1 → Prop} {wd1 : St1 → va_W} {postm : Int32 → St2 → Prop} {wm1 : St2 → va_W} {wd wm : va_W} {g : Nat → Int64} {rd rm : Room} {fs fd : List Value} {i c9 q9 o : Nat} (X : LA p s m meth c b L xs D cT)
    (hW : ∀ sz, Met l yX8_plan wsX8_plan rd (va_Pc [.ref c9] (wr_R D (TY cT) wd sz)) (wQi post D wd1 (va_A wd sz)) 0 0 (va_A wd sz)) (hrd : rd.cells = 0 ∧ rd.slots = 0 ∧ rd.frames + 1 ≤ room_1.frames ∧ 8 + (5 + 11) + rd.locals ≤ room_1.locals) (hqd : wd[0]? = some (c9, .inr (6, fd)))
    (hM : ∀ sz, Met l yX9_plan wsX9_plan rm (va_Pc [.ref q9] (wr_R D (TY cT) wm sz)) (wQi postm D wm1 (va_A wm sz)) 0 0 (va_A wm sz)) (hrm : rm.cells = 0 ∧ rm.slots = 0 ∧ rm.frames + 1 ≤ room_1.frames ∧ 8 + (4 + 11) + rm.locals ≤ room_1.locals) (hq : wm[0]? = some (q9, .inr (7, fs)))
    (hcmp : ∀ r u a v, post r u → postm a v → r = a)
    (hroom : cells + 1 ≤ room_1.cells ∧ slots + 8 ≤ room_1.slots) (hP : va_P D vwCl ((wd ++ ou cT o g) ++ wm) H) (hD : va_D (AL s) ((wd ++ ou cT o g) ++ wm)) (hS : va_S (AL s) s.heap H locs) (hl : lv_has ls 7 [(0, .ref b), (1, .ref c9), (2, .ref q9), (3, .ref o), (4, .int (nI i))])
    (kk : ∀ r u a v H locs, post r u → postm a v → va_P D vwCl ((wd1 u ++ ou cT o g) ++ wm1 v) H → va_D (AL s) ((wd1 u ++ ou cT o g) ++ wm1 v) → va_S (AL s) s.heap H locs → ∀ ls, lv_has ls 7 [(0, .ref b), (1, .ref c9), (2, .ref q9), (3, .ref o), (4, .int (nI i))] → W p l e room_1 s m #[Value.ref b] below meth c H locs (cells + 1) (slots + 8) Q (F0 m 1551 ls [])) : W p l e room_1 s m #[Value.ref b] below meth c H locs cells slots Q (F0 m 642 ls []) := by
  obtain ⟨S, hL, hX, hbs, hK, hXS⟩ := X
  have hA : ∀ q, s.heap.size ≤ q → AL s q := fun _ h => h
  refine lv_aload_n S.1 S.2.1 dL_law_642 rfl (lv_at hl 1 rfl) ?_
  rw [List.append_assoc] at hP hD
  refine fr_callVi (As := []) (rest := []) (n := 0) (wc := wd) (wr := ou cT o g ++ wm) S (hW _) gL_law_X8_plan rfl ⟨rfl, by decide +kernel, by decide +kernel, by decide +kernel⟩ hrd hP hK hD hS hA (va_recv hK.1 (fr_l hP) (ci := 6) (q0 := 0) rfl hqd) hl rfl rfl (Nat.le_of_ble_eq_true rfl) ⟨Nat.le_of_succ_le hroom.1, Nat.le_trans (Nat.le_add_right slots 8) hroom.2⟩ dL_law_643 (fun r u H locs hp hP hD hS => ?_)
  refine lv_aload_n S.1 S.2.1 dL_law_646 rfl (lv_at hl 2 rfl) ?_
  rw [← List.append_assoc] at hP hD
  have hP := fr_Pc hP
  have hD := fr_Dc hD
  refine fr_callVi (As := []) (rest := [.int r]) (n := 0) (wc := wm) (wr := wd1 u ++ ou cT o g) S (hM _) gL_law_X9_plan rfl ⟨rfl, by decide +kernel, by decide +kernel, by decide +kernel⟩ hrm hP hK hD hS hA (va_recv hK.1 (fr_l hP) (ci := 7) (q0 := 0) rfl hq) hl rfl rfl (Nat.le_of_ble_eq_true rfl) ⟨Nat.le_of_succ_le hroom.1, Nat.le_trans (Nat.le_add_right slots 8) hroom.2⟩ dL_law_647 (fun a v H locs hpm hP hD hS => ?_)
  refine lv_icmp_eq (tgt := 1551) S.1 S.2.1 dL_law_650 (by decide) (fun _ => ?_) (fun q => absurd (hcmp r u a v hp hpm) q)
  refine W.widen (k := cells + 1) (n := slots + 8) (Nat.le_succ _) (Nat.le_add_right _ _) ?_
  exact kk r u a v H locs hp hpm (fr_Pc hP) (fr_Dc hD) hS ls hl
set_option maxHeartbeats 4000000 in
set_option maxRecDepth 100000 in
theorem lc_rounds {p : Program} {l : Launch} {e : Env} {s : State} {m : MethodId} {below : List Frame} {meth : Method} {c : Code} {b L : Nat} {xs : Nat → Int32} {D : va_G} {cT : ClassId × ClassId × ClassId} {Q : State → Prop} {H : Heap} {locs : List Loc} {cells slots : Nat} {ls : Array Slot} {St1 St2 : Type} {post : Int32 → St1 → Prop} {wd1 : St1 → va_W} {postm : Int32 → St2 → Prop} {wm1 : St2 → va_W} {wd wm : va_W} {g : Nat → Int64} {rd rm : Room} {fs fd : List Value} {i c9 q9 o : Nat} (X : LA p s m meth c b L xs D cT)
    (hW : ∀ sz, Met l yX8_rounds wsX8_rounds rd (va_Pc [.ref c9] (wr_R D (TY cT) wd sz)) (wQi post D wd1 (va_A wd sz)) 0 0 (va_A wd sz)) (hrd : rd.cells = 0 ∧ rd.slots = 0 ∧ rd.frames + 1 ≤ room_1.frames ∧ 8 + (1 + 11) + rd.locals ≤ room_1.locals) (hqd : wd[0]? = some (c9, .inr (6, fd)))
    (hM : ∀ sz, Met l yX9_rounds wsX9_rounds rm (va_Pc [.ref q9] (wr_R D (TY cT) wm sz)) (wQi postm D wm1 (va_A wm sz)) 0 0 (va_A wm sz)) (hrm : rm.cells = 0 ∧ rm.slots = 0 ∧ rm.frames + 1 ≤ room_1.frames ∧ 8 + (1 + 11) + rm.locals ≤ room_1.locals) (hq : wm[0]? = some (q9, .inr (7, fs)))
    (hcmp : ∀ r u a v, post r u → postm a v → r = a)
    (hroom : cells + 1 ≤ room_1.cells ∧ slots + 8 ≤ room_1.slots) (hP : va_P D vwCl ((wd ++ ou cT o g) ++ wm) H) (hD : va_D (AL s) ((wd ++ ou cT o g) ++ wm)) (hS : va_S (AL s) s.heap H locs) (hl : lv_has ls 7 [(0, .ref b), (1, .ref c9), (2, .ref q9), (3, .ref o), (4, .int (nI i))])
    (kk : ∀ r u a v H locs, post r u → postm a v → va_P D vwCl ((wd1 u ++ ou cT o g) ++ wm1 v) H → va_D (AL s) ((wd1 u ++ ou cT o g) ++ wm1 v) → va_S (AL s) s.heap H locs → ∀ ls, lv_has ls 7 [(0, .ref b), (1, .ref c9), (2, .ref q9), (3, .ref o), (4, .int (nI i))] → W p l e room_1 s m #[Value.ref b] below meth c H locs (cells + 1) (slots + 8) Q (F0 m 1551 ls [])) : W p l e room_1 s m #[Value.ref b] below meth c H locs cells slots Q (F0 m 655 ls []) := by
  obtain ⟨S, hL, hX, hbs, hK, hXS⟩ := X
  have hA : ∀ q, s.heap.size ≤ q → AL s q := fun _ h => h
  refine lv_aload_n S.1 S.2.1 dL_law_655 rfl (lv_at hl 1 rfl) ?_
  rw [List.append_assoc] at hP hD
  refine fr_callVi (As := []) (rest := []) (n := 0) (wc := wd) (wr := ou cT o g ++ wm) S (hW _) gL_law_X8_rounds rfl ⟨rfl, by decide +kernel, by decide +kernel, by decide +kernel⟩ hrd hP hK hD hS hA (va_recv hK.1 (fr_l hP) (ci := 6) (q0 := 0) rfl hqd) hl rfl rfl (Nat.le_of_ble_eq_true rfl) ⟨Nat.le_of_succ_le hroom.1, Nat.le_trans (Nat.le_add_right slots 8) hroom.2⟩ dL_law_656 (fun r u H locs hp hP hD hS => ?_)
  refine lv_aload_n S.1 S.2.1 dL_law_659 rfl (lv_at hl 2 rfl) ?_
  rw [← List.append_assoc] at hP hD
  have hP := fr_Pc hP
  have hD := fr_Dc hD
  refine fr_callVi (As := []) (rest := [.int r]) (n := 0) (wc := wm) (wr := wd1 u ++ ou cT o g) S (hM _) gL_law_X9_rounds rfl ⟨rfl, by decide +kernel, by decide +kernel, by decide +kernel⟩ hrm hP hK hD hS hA (va_recv hK.1 (fr_l hP) (ci := 7) (q0 := 0) rfl hq) hl rfl rfl (Nat.le_of_ble_eq_true rfl) ⟨Nat.le_of_succ_le hroom.1, Nat.le_trans (Nat.le_add_right slots 8) hroom.2⟩ dL_law_660 (fun a v H locs hpm hP hD hS => ?_)
  refine lv_icmp_eq (tgt := 1551) S.1 S.2.1 dL_law_663 (by decide) (fun _ => ?_) (fun q => absurd (hcmp r u a v hp hpm) q)
  refine W.widen (k := cells + 1) (n := slots + 8) (Nat.le_succ _) (Nat.le_add_right _ _) ?_
  exact kk r u a v H locs hp hpm (fr_Pc hP) (fr_Dc hD) hS ls hl
set_option maxHeartbeats 4000000 in
set_option maxRecDepth 100000 in
theorem lc_set {p : Program} {l : Launch} {e : Env} {s : State} {m : MethodId} {below : List Frame} {meth : Method} {c : Code} {b L : Nat} {xs : Nat → Int32} {D : va_G} {cT : ClassId × ClassId × ClassId} {Q : State → Prop} {H : Heap} {locs : List Loc} {cells slots : Nat} {ls : Array Slot} {St1 St2 : Type} {post : Int32 → St1 → Prop} {wd1 : St1 → va_W} {g1 : St1 → Nat → Int64} {postm : Int32 → St2 → Prop} {wm1 : St2 → va_W} {th : St2 → Nat} {wd wm : va_W} {g : Nat → Int64} {rm : Room} {fs : List Value} {i c9 q9 o : Nat} (X : LA p s m meth c b L xs D cT) (hi : i + 3 < L) (p0 : Int32) (p1 : Int32) (p2 : Int32) (e0 : xs (i + 1) = p0) (e1 : xs (i + 2) = p1) (e2 : xs (i + 3) = p2)
    (hW : ∀ sz, Met l yL_set wsL_set ({ frames := 8, cells := 1, slots := 8, locals := 200 } : Room) (va_Pc [.ref c9, .int p0, .int p1, .int p2, .ref o] (wx_R D (TY cT) (wd ++ ou cT o g) sz)) (wQi post D (fun u => wd1 u ++ ou cT o (g1 u)) (va_A (wd ++ ou cT o g) sz)) 1 8 (va_A (wd ++ ou cT o g) sz))
    (hM : ∀ sz, Met l yX9_set wsX9_set rm (va_Pc [.ref q9, .int p0, .int p1, .int p2] (wr_R D (TY cT) wm sz)) (wQi postm D wm1 (va_A wm sz)) 0 0 (va_A wm sz)) (hrm : rm.cells = 0 ∧ rm.slots = 0 ∧ rm.frames + 1 ≤ room_1.frames ∧ 8 + (5 + 11) + rm.locals ≤ room_1.locals) (hq : wm[0]? = some (q9, .inr (7, fs))) (hqm : ∀ v, ∃ fs, (wm1 v)[0]? = some (q9, .inr (7, fs)))
    (hT : ∀ v sz, Met l yX9_thrown wsX9_thrown ({ frames := 0, cells := 0, slots := 0, locals := 0 } : Room) (va_Pc [.ref q9] (wr_R D (TY cT) (wm1 v) sz)) (wQi (fun (r_ : Int32) (_ : Unit) => r_ = nI (th v)) D (fun (_ : Unit) => wm1 v) (va_A (wm1 v) sz)) 0 0 (va_A (wm1 v) sz))
    (hcmp : ∀ r u a v, post r u → postm a v → r = nI (th v) ∧ (r = nI 0 → g1 u 0 = a.toInt64))
    (hroom : cells + 1 ≤ room_1.cells ∧ slots + 8 ≤ room_1.slots) (hP : va_P D vwCl ((wd ++ ou cT o g) ++ wm) H) (hD : va_D (AL s) ((wd ++ ou cT o g) ++ wm)) (hS : va_S (AL s) s.heap H locs) (hl : lv_has ls 7 [(0, .ref b), (1, .ref c9), (2, .ref q9), (3, .ref o), (4, .int (nI i))])
    (kk : ∀ r u a v H locs, post r u → postm a v → va_P D vwCl ((wd1 u ++ ou cT o (g1 u)) ++ wm1 v) H → va_D (AL s) ((wd1 u ++ ou cT o (g1 u)) ++ wm1 v) → va_S (AL s) s.heap H locs → ∀ ls, lv_has ls 7 [(0, .ref b), (1, .ref c9), (2, .ref q9), (3, .ref o), (4, .int (nI i))] → W p l e room_1 s m #[Value.ref b] below meth c H locs (cells + 1) (slots + 8) Q (F0 m 1551 ls [])) : W p l e room_1 s m #[Value.ref b] below meth c H locs cells slots Q (F0 m 668 ls []) := by
  obtain ⟨S, hL, hX, hbs, hK, hXS⟩ := X
  have hA : ∀ q, s.heap.size ≤ q → AL s q := fun _ h => h
  refine lv_aload_n S.1 S.2.1 dL_law_668 rfl (lv_at hl 1 rfl) ?_
  refine lv_aload_n S.1 S.2.1 dL_law_669 rfl (lv_at hl 0 rfl) ?_
  refine lv_iload S.1 S.2.1 dL_law_670 (lv_at hl 4 rfl) ?_
  refine lv_iconst (v := (nI 1)) S.1 S.2.1 dL_law_672 (by decide) ?_
  refine n_add S dL_law_673 ?_
  refine l_sld S hX hbs hS hL (by omega) e0 dL_law_674 ?_
  refine lv_aload_n S.1 S.2.1 dL_law_675 rfl (lv_at hl 0 rfl) ?_
  refine lv_iload S.1 S.2.1 dL_law_676 (lv_at hl 4 rfl) ?_
  refine lv_iconst (v := (nI 2)) S.1 S.2.1 dL_law_678 (by decide) ?_
  refine n_add S dL_law_679 ?_
  refine l_sld S hX hbs hS hL (by omega) e1 dL_law_680 ?_
  refine lv_aload_n S.1 S.2.1 dL_law_681 rfl (lv_at hl 0 rfl) ?_
  refine lv_iload S.1 S.2.1 dL_law_682 (lv_at hl 4 rfl) ?_
  refine lv_iconst (v := (nI 3)) S.1 S.2.1 dL_law_684 (by decide) ?_
  refine n_add S dL_law_685 ?_
  refine l_sld S hX hbs hS hL (by omega) e2 dL_law_686 ?_
  refine lv_aload_n S.1 S.2.1 dL_law_687 rfl (lv_at hl 3 rfl) ?_
  refine fr_callSi (As := [.ref c9, .int p0, .int p1, .int p2, .ref o]) (rest := []) (n := 5) (wc := wd ++ ou cT o g) (wr := wm) S (hW _) gL_law_L_set rfl ⟨by decide +kernel, by decide +kernel, by decide +kernel⟩ ⟨rfl, rfl, Nat.le_of_ble_eq_true rfl, Nat.le_of_ble_eq_true rfl⟩ hP hK (XS.law hXS hS) hD hS hA hl rfl rfl (Nat.le_of_ble_eq_true rfl) hroom dL_law_688 (fun r u H locs hp hP hD hS => ?_)
  refine lv_istore (lv' := [(5, .int r), (0, .ref b), (1, .ref c9), (2, .ref q9), (3, .ref o), (4, .int (nI i))]) S.1 S.2.1 dL_law_691 hl (by decide) rfl (fun ls hl => ?_)
  refine lv_aload_n S.1 S.2.1 dL_law_693 rfl (lv_at hl 3 rfl) ?_
  refine lv_aload_n S.1 S.2.1 dL_law_694 rfl (lv_at hl 1 rfl) ?_
  refine lv_iload S.1 S.2.1 dL_law_695 (lv_at hl 5 rfl) ?_
  refine lv_iconst (v := (nI 1)) S.1 S.2.1 dL_law_697 (by decide) ?_
  refine n_add S dL_law_698 ?_
  refine l_sld S hX hbs hS hL (by omega) e0 dL_law_699 ?_
  refine lv_aload_n S.1 S.2.1 dL_law_700 rfl (lv_at hl 1 rfl) ?_
  refine lv_iload S.1 S.2.1 dL_law_701 (lv_at hl 5 rfl) ?_
  refine lv_iconst (v := (nI 2)) S.1 S.2.1 dL_law_703 (by decide) ?_
  refine n_add S dL_law_704 ?_
  refine l_sld S hX hbs hS hL (by omega) e1 dL_law_705 ?_
  refine lv_aload_n S.1 S.2.1 dL_law_706 rfl (lv_at hl 1 rfl) ?_
  refine lv_iload S.1 S.2.1 dL_law_707 (lv_at hl 5 rfl) ?_
  refine lv_iconst (v := (nI 3)) S.1 S.2.1 dL_law_709 (by decide) ?_
  refine n_add S dL_law_710 ?_
  refine l_sld S hX hbs hS hL (by omega) e2 dL_law_711 ?_
  have hP := fr_Pc hP
  have hD := fr_Dc hD
  refine fr_callVi (As := [.int p0, .int p1, .int p2]) (rest := []) (n := 3) (wc := wm) (wr := wd1 u ++ ou cT o (g1 u)) S (hM _) gL_law_X9_set rfl ⟨rfl, by decide +kernel, by decide +kernel, by decide +kernel⟩ hrm hP hK hD hS hA (va_recv hK.1 (fr_l hP) (ci := 7) (q0 := 0) rfl hq) hl rfl rfl (Nat.le_of_ble_eq_true rfl) ⟨hroom.1, hroom.2⟩ dL_law_712 (fun a v H locs hpm hP hD hS => ?_)
  refine lv_istore (lv' := [(6, .int a), (5, .int r), (0, .ref b), (1, .ref c9), (2, .ref q9), (3, .ref o), (4, .int (nI i))]) S.1 S.2.1 dL_law_715 hl (by decide) rfl (fun ls hl => ?_)
  refine lv_aload_n S.1 S.2.1 dL_law_717 rfl (lv_at hl 4 rfl) ?_
  obtain ⟨fsv, hqv⟩ := hqm v
  refine fr_callVi (As := []) (rest := []) (n := 0) (wc := wm1 v) (wr := wd1 u ++ ou cT o (g1 u)) S (hT v _) gL_law_X9_thrown rfl ⟨rfl, by decide +kernel, by decide +kernel, by decide +kernel⟩ ⟨rfl, rfl, Nat.le_of_ble_eq_true rfl, Nat.le_of_ble_eq_true rfl⟩ hP hK hD hS hA (va_recv hK.1 (fr_l hP) (ci := 7) (q0 := 0) rfl hqv) hl rfl rfl (Nat.le_of_ble_eq_true rfl) ⟨hroom.1, hroom.2⟩ dL_law_718 (fun t _ H locs ht hP hD hS => ?_)
  subst ht
  obtain ⟨hc1, hc2⟩ := hcmp r u a v hp hpm
  refine lv_iload S.1 S.2.1 dL_law_721 (lv_at hl 1 rfl) ?_
  refine lv_icmp_eq (tgt := 728) S.1 S.2.1 dL_law_723 (by decide) (fun _ => ?_) (fun q => absurd hc1.symm q)
  refine lv_iload S.1 S.2.1 dL_law_728 (lv_at hl 1 rfl) ?_
  have fin : W p l e room_1 s m #[Value.ref b] below meth c H locs (cells + 1) (slots + 8) Q (F0 m 745 ls []) := lv_goto (tgt := 1551) S.1 S.2.1 dL_law_745 (by decide) (kk r u a v H locs hp hpm (fr_Pc hP) (fr_Dc hD) hS ls (lv_sub hl [2, 3, 4, 5, 6] rfl))
  refine lv_if_ne (tgt := 745) S.1 S.2.1 dL_law_730 (by decide) (fun _ => fin) (fun q0 => ?_)
  have hr0 : r = nI 0 := q0
  refine lv_aload_n S.1 S.2.1 dL_law_733 rfl (lv_at hl 5 rfl) ?_
  refine lv_iconst (v := (nI 0)) S.1 S.2.1 dL_law_734 (by decide) ?_
  refine g_lald (i := 0) (n := 1) (g := g1 u) S ((wd1 u).length + 0) hK (fr_r hP) (ap_at.trans rfl) (by decide) dL_law_735 ?_
  refine lv_iload S.1 S.2.1 dL_law_736 (lv_at hl 0 rfl) ?_
  refine lv_i2l S.1 S.2.1 dL_law_738 rfl ?_
  exact l_leq (tgt := 745) S (hc2 hr0) dL_law_739 dL_law_740 (by decide) fin
set_option maxHeartbeats 4000000 in
set_option maxRecDepth 100000 in
theorem lc_swap {p : Program} {l : Launch} {e : Env} {s : State} {m : MethodId} {below : List Frame} {meth : Method} {c : Code} {b L : Nat} {xs : Nat → Int32} {D : va_G} {cT : ClassId × ClassId × ClassId} {Q : State → Prop} {H : Heap} {locs : List Loc} {cells slots : Nat} {ls : Array Slot} {St1 St2 : Type} {post : Int32 → St1 → Prop} {wd1 : St1 → va_W} {g1 : St1 → Nat → Int64} {postm : Int32 → St2 → Prop} {wm1 : St2 → va_W} {th : St2 → Nat} {wd wm : va_W} {g : Nat → Int64} {rm : Room} {fs : List Value} {i c9 q9 o : Nat} (X : LA p s m meth c b L xs D cT) (hi : i + 3 < L) (p0 : Int32) (p1 : Int32) (p2 : Int32) (e0 : xs (i + 1) = p0) (e1 : xs (i + 2) = p1) (e2 : xs (i + 3) = p2)
    (hW : ∀ sz, Met l yL_swap wsL_swap ({ frames := 8, cells := 1, slots := 8, locals := 200 } : Room) (va_Pc [.ref c9, .int p0, .int p1, .int p2, .ref o] (wx_R D (TY cT) (wd ++ ou cT o g) sz)) (wQi post D (fun u => wd1 u ++ ou cT o (g1 u)) (va_A (wd ++ ou cT o g) sz)) 1 8 (va_A (wd ++ ou cT o g) sz))
    (hM : ∀ sz, Met l yX9_swap wsX9_swap rm (va_Pc [.ref q9, .int p0, .int p1, .int p2] (wr_R D (TY cT) wm sz)) (wQi postm D wm1 (va_A wm sz)) 0 0 (va_A wm sz)) (hrm : rm.cells = 0 ∧ rm.slots = 0 ∧ rm.frames + 1 ≤ room_1.frames ∧ 8 + (5 + 11) + rm.locals ≤ room_1.locals) (hq : wm[0]? = some (q9, .inr (7, fs))) (hqm : ∀ v, ∃ fs, (wm1 v)[0]? = some (q9, .inr (7, fs)))
    (hT : ∀ v sz, Met l yX9_thrown wsX9_thrown ({ frames := 0, cells := 0, slots := 0, locals := 0 } : Room) (va_Pc [.ref q9] (wr_R D (TY cT) (wm1 v) sz)) (wQi (fun (r_ : Int32) (_ : Unit) => r_ = nI (th v)) D (fun (_ : Unit) => wm1 v) (va_A (wm1 v) sz)) 0 0 (va_A (wm1 v) sz))
    (hcmp : ∀ r u a v, post r u → postm a v → r = nI (th v) ∧ (r = nI 0 → g1 u 0 = a.toInt64))
    (hroom : cells + 1 ≤ room_1.cells ∧ slots + 8 ≤ room_1.slots) (hP : va_P D vwCl ((wd ++ ou cT o g) ++ wm) H) (hD : va_D (AL s) ((wd ++ ou cT o g) ++ wm)) (hS : va_S (AL s) s.heap H locs) (hl : lv_has ls 7 [(0, .ref b), (1, .ref c9), (2, .ref q9), (3, .ref o), (4, .int (nI i))])
    (kk : ∀ r u a v H locs, post r u → postm a v → va_P D vwCl ((wd1 u ++ ou cT o (g1 u)) ++ wm1 v) H → va_D (AL s) ((wd1 u ++ ou cT o (g1 u)) ++ wm1 v) → va_S (AL s) s.heap H locs → ∀ ls, lv_has ls 7 [(0, .ref b), (1, .ref c9), (2, .ref q9), (3, .ref o), (4, .int (nI i))] → W p l e room_1 s m #[Value.ref b] below meth c H locs (cells + 1) (slots + 8) Q (F0 m 1551 ls [])) : W p l e room_1 s m #[Value.ref b] below meth c H locs cells slots Q (F0 m 748 ls []) := by
  obtain ⟨S, hL, hX, hbs, hK, hXS⟩ := X
  have hA : ∀ q, s.heap.size ≤ q → AL s q := fun _ h => h
  refine lv_aload_n S.1 S.2.1 dL_law_748 rfl (lv_at hl 1 rfl) ?_
  refine lv_aload_n S.1 S.2.1 dL_law_749 rfl (lv_at hl 0 rfl) ?_
  refine lv_iload S.1 S.2.1 dL_law_750 (lv_at hl 4 rfl) ?_
  refine lv_iconst (v := (nI 1)) S.1 S.2.1 dL_law_752 (by decide) ?_
  refine n_add S dL_law_753 ?_
  refine l_sld S hX hbs hS hL (by omega) e0 dL_law_754 ?_
  refine lv_aload_n S.1 S.2.1 dL_law_755 rfl (lv_at hl 0 rfl) ?_
  refine lv_iload S.1 S.2.1 dL_law_756 (lv_at hl 4 rfl) ?_
  refine lv_iconst (v := (nI 2)) S.1 S.2.1 dL_law_758 (by decide) ?_
  refine n_add S dL_law_759 ?_
  refine l_sld S hX hbs hS hL (by omega) e1 dL_law_760 ?_
  refine lv_aload_n S.1 S.2.1 dL_law_761 rfl (lv_at hl 0 rfl) ?_
  refine lv_iload S.1 S.2.1 dL_law_762 (lv_at hl 4 rfl) ?_
  refine lv_iconst (v := (nI 3)) S.1 S.2.1 dL_law_764 (by decide) ?_
  refine n_add S dL_law_765 ?_
  refine l_sld S hX hbs hS hL (by omega) e2 dL_law_766 ?_
  refine lv_aload_n S.1 S.2.1 dL_law_767 rfl (lv_at hl 3 rfl) ?_
  refine fr_callSi (As := [.ref c9, .int p0, .int p1, .int p2, .ref o]) (rest := []) (n := 5) (wc := wd ++ ou cT o g) (wr := wm) S (hW _) gL_law_L_swap rfl ⟨by decide +kernel, by decide +kernel, by decide +kernel⟩ ⟨rfl, rfl, Nat.le_of_ble_eq_true rfl, Nat.le_of_ble_eq_true rfl⟩ hP hK (XS.law hXS hS) hD hS hA hl rfl rfl (Nat.le_of_ble_eq_true rfl) hroom dL_law_768 (fun r u H locs hp hP hD hS => ?_)
  refine lv_istore (lv' := [(5, .int r), (0, .ref b), (1, .ref c9), (2, .ref q9), (3, .ref o), (4, .int (nI i))]) S.1 S.2.1 dL_law_771 hl (by decide) rfl (fun ls hl => ?_)
  refine lv_aload_n S.1 S.2.1 dL_law_773 rfl (lv_at hl 3 rfl) ?_
  refine lv_aload_n S.1 S.2.1 dL_law_774 rfl (lv_at hl 1 rfl) ?_
  refine lv_iload S.1 S.2.1 dL_law_775 (lv_at hl 5 rfl) ?_
  refine lv_iconst (v := (nI 1)) S.1 S.2.1 dL_law_777 (by decide) ?_
  refine n_add S dL_law_778 ?_
  refine l_sld S hX hbs hS hL (by omega) e0 dL_law_779 ?_
  refine lv_aload_n S.1 S.2.1 dL_law_780 rfl (lv_at hl 1 rfl) ?_
  refine lv_iload S.1 S.2.1 dL_law_781 (lv_at hl 5 rfl) ?_
  refine lv_iconst (v := (nI 2)) S.1 S.2.1 dL_law_783 (by decide) ?_
  refine n_add S dL_law_784 ?_
  refine l_sld S hX hbs hS hL (by omega) e1 dL_law_785 ?_
  refine lv_aload_n S.1 S.2.1 dL_law_786 rfl (lv_at hl 1 rfl) ?_
  refine lv_iload S.1 S.2.1 dL_law_787 (lv_at hl 5 rfl) ?_
  refine lv_iconst (v := (nI 3)) S.1 S.2.1 dL_law_789 (by decide) ?_
  refine n_add S dL_law_790 ?_
  refine l_sld S hX hbs hS hL (by omega) e2 dL_law_791 ?_
  have hP := fr_Pc hP
  have hD := fr_Dc hD
  refine fr_callVi (As := [.int p0, .int p1, .int p2]) (rest := []) (n := 3) (wc := wm) (wr := wd1 u ++ ou cT o (g1 u)) S (hM _) gL_law_X9_swap rfl ⟨rfl, by decide +kernel, by decide +kernel, by decide +kernel⟩ hrm hP hK hD hS hA (va_recv hK.1 (fr_l hP) (ci := 7) (q0 := 0) rfl hq) hl rfl rfl (Nat.le_of_ble_eq_true rfl) ⟨hroom.1, hroom.2⟩ dL_law_792 (fun a v H locs hpm hP hD hS => ?_)
  refine lv_istore (lv' := [(6, .int a), (5, .int r), (0, .ref b), (1, .ref c9), (2, .ref q9), (3, .ref o), (4, .int (nI i))]) S.1 S.2.1 dL_law_795 hl (by decide) rfl (fun ls hl => ?_)
  refine lv_aload_n S.1 S.2.1 dL_law_797 rfl (lv_at hl 4 rfl) ?_
  obtain ⟨fsv, hqv⟩ := hqm v
  refine fr_callVi (As := []) (rest := []) (n := 0) (wc := wm1 v) (wr := wd1 u ++ ou cT o (g1 u)) S (hT v _) gL_law_X9_thrown rfl ⟨rfl, by decide +kernel, by decide +kernel, by decide +kernel⟩ ⟨rfl, rfl, Nat.le_of_ble_eq_true rfl, Nat.le_of_ble_eq_true rfl⟩ hP hK hD hS hA (va_recv hK.1 (fr_l hP) (ci := 7) (q0 := 0) rfl hqv) hl rfl rfl (Nat.le_of_ble_eq_true rfl) ⟨hroom.1, hroom.2⟩ dL_law_798 (fun t _ H locs ht hP hD hS => ?_)
  subst ht
  obtain ⟨hc1, hc2⟩ := hcmp r u a v hp hpm
  refine lv_iload S.1 S.2.1 dL_law_801 (lv_at hl 1 rfl) ?_
  refine lv_icmp_eq (tgt := 808) S.1 S.2.1 dL_law_803 (by decide) (fun _ => ?_) (fun q => absurd hc1.symm q)
  refine lv_iload S.1 S.2.1 dL_law_808 (lv_at hl 1 rfl) ?_
  have fin : W p l e room_1 s m #[Value.ref b] below meth c H locs (cells + 1) (slots + 8) Q (F0 m 825 ls []) := lv_goto (tgt := 1551) S.1 S.2.1 dL_law_825 (by decide) (kk r u a v H locs hp hpm (fr_Pc hP) (fr_Dc hD) hS ls (lv_sub hl [2, 3, 4, 5, 6] rfl))
  refine lv_if_ne (tgt := 825) S.1 S.2.1 dL_law_810 (by decide) (fun _ => fin) (fun q0 => ?_)
  have hr0 : r = nI 0 := q0
  refine lv_aload_n S.1 S.2.1 dL_law_813 rfl (lv_at hl 5 rfl) ?_
  refine lv_iconst (v := (nI 0)) S.1 S.2.1 dL_law_814 (by decide) ?_
  refine g_lald (i := 0) (n := 1) (g := g1 u) S ((wd1 u).length + 0) hK (fr_r hP) (ap_at.trans rfl) (by decide) dL_law_815 ?_
  refine lv_iload S.1 S.2.1 dL_law_816 (lv_at hl 0 rfl) ?_
  refine lv_i2l S.1 S.2.1 dL_law_818 rfl ?_
  exact l_leq (tgt := 825) S (hc2 hr0) dL_law_819 dL_law_820 (by decide) fin
set_option maxHeartbeats 4000000 in
set_option maxRecDepth 100000 in
theorem lc_closeWeek {p : Program} {l : Launch} {e : Env} {s : State} {m : MethodId} {below : List Frame} {meth : Method} {c : Code} {b L : Nat} {xs : Nat → Int32} {D : va_G} {cT : ClassId × ClassId × ClassId} {Q : State → Prop} {H : Heap} {locs : List Loc} {cells slots : Nat} {ls : Array Slot} {St1 St2 : Type} {post : Int32 → St1 → Prop} {wd1 : St1 → va_W} {postm : Int32 → St2 → Prop} {wm1 : St2 → va_W} {wd wm : va_W} {g : Nat → Int64} {rd rm : Room} {fs fd : List Value} {i c9 q9 o : Nat} (X : LA p s m meth c b L xs D cT)
    (hW : ∀ sz, Met l yX8_closeWeek wsX8_closeWeek rd (va_Pc [.ref c9] (wr_R D (TY cT) wd sz)) (wQi post D wd1 (va_A wd sz)) 0 0 (va_A wd sz)) (hrd : rd.cells = 0 ∧ rd.slots = 0 ∧ rd.frames + 1 ≤ room_1.frames ∧ 8 + (5 + 11) + rd.locals ≤ room_1.locals) (hqd : wd[0]? = some (c9, .inr (6, fd)))
    (hM : ∀ sz, Met l yX9_closeWeek wsX9_closeWeek rm (va_Pc [.ref q9] (wr_R D (TY cT) wm sz)) (wQi postm D wm1 (va_A wm sz)) 0 0 (va_A wm sz)) (hrm : rm.cells = 0 ∧ rm.slots = 0 ∧ rm.frames + 1 ≤ room_1.frames ∧ 8 + (4 + 11) + rm.locals ≤ room_1.locals) (hq : wm[0]? = some (q9, .inr (7, fs)))
    (hcmp : ∀ r u a v, post r u → postm a v → r = a)
    (hroom : cells + 1 ≤ room_1.cells ∧ slots + 8 ≤ room_1.slots) (hP : va_P D vwCl ((wd ++ ou cT o g) ++ wm) H) (hD : va_D (AL s) ((wd ++ ou cT o g) ++ wm)) (hS : va_S (AL s) s.heap H locs) (hl : lv_has ls 7 [(0, .ref b), (1, .ref c9), (2, .ref q9), (3, .ref o), (4, .int (nI i))])
    (kk : ∀ r u a v H locs, post r u → postm a v → va_P D vwCl ((wd1 u ++ ou cT o g) ++ wm1 v) H → va_D (AL s) ((wd1 u ++ ou cT o g) ++ wm1 v) → va_S (AL s) s.heap H locs → ∀ ls, lv_has ls 7 [(0, .ref b), (1, .ref c9), (2, .ref q9), (3, .ref o), (4, .int (nI i))] → W p l e room_1 s m #[Value.ref b] below meth c H locs (cells + 1) (slots + 8) Q (F0 m 1551 ls [])) : W p l e room_1 s m #[Value.ref b] below meth c H locs cells slots Q (F0 m 828 ls []) := by
  obtain ⟨S, hL, hX, hbs, hK, hXS⟩ := X
  have hA : ∀ q, s.heap.size ≤ q → AL s q := fun _ h => h
  refine lv_aload_n S.1 S.2.1 dL_law_828 rfl (lv_at hl 1 rfl) ?_
  rw [List.append_assoc] at hP hD
  refine fr_callVi (As := []) (rest := []) (n := 0) (wc := wd) (wr := ou cT o g ++ wm) S (hW _) gL_law_X8_closeWeek rfl ⟨rfl, by decide +kernel, by decide +kernel, by decide +kernel⟩ hrd hP hK hD hS hA (va_recv hK.1 (fr_l hP) (ci := 6) (q0 := 0) rfl hqd) hl rfl rfl (Nat.le_of_ble_eq_true rfl) ⟨Nat.le_of_succ_le hroom.1, Nat.le_trans (Nat.le_add_right slots 8) hroom.2⟩ dL_law_829 (fun r u H locs hp hP hD hS => ?_)
  refine lv_aload_n S.1 S.2.1 dL_law_832 rfl (lv_at hl 2 rfl) ?_
  rw [← List.append_assoc] at hP hD
  have hP := fr_Pc hP
  have hD := fr_Dc hD
  refine fr_callVi (As := []) (rest := [.int r]) (n := 0) (wc := wm) (wr := wd1 u ++ ou cT o g) S (hM _) gL_law_X9_closeWeek rfl ⟨rfl, by decide +kernel, by decide +kernel, by decide +kernel⟩ hrm hP hK hD hS hA (va_recv hK.1 (fr_l hP) (ci := 7) (q0 := 0) rfl hq) hl rfl rfl (Nat.le_of_ble_eq_true rfl) ⟨Nat.le_of_succ_le hroom.1, Nat.le_trans (Nat.le_add_right slots 8) hroom.2⟩ dL_law_833 (fun a v H locs hpm hP hD hS => ?_)
  refine lv_icmp_eq (tgt := 1551) S.1 S.2.1 dL_law_836 (by decide) (fun _ => ?_) (fun q => absurd (hcmp r u a v hp hpm) q)
  refine W.widen (k := cells + 1) (n := slots + 8) (Nat.le_succ _) (Nat.le_add_right _ _) ?_
  exact kk r u a v H locs hp hpm (fr_Pc hP) (fr_Dc hD) hS ls hl
set_option maxHeartbeats 4000000 in
set_option maxRecDepth 100000 in
theorem lc_people {p : Program} {l : Launch} {e : Env} {s : State} {m : MethodId} {below : List Frame} {meth : Method} {c : Code} {b L : Nat} {xs : Nat → Int32} {D : va_G} {cT : ClassId × ClassId × ClassId} {Q : State → Prop} {H : Heap} {locs : List Loc} {cells slots : Nat} {ls : Array Slot} {St1 St2 : Type} {post : Int32 → St1 → Prop} {wd1 : St1 → va_W} {postm : Int32 → St2 → Prop} {wm1 : St2 → va_W} {wd wm : va_W} {g : Nat → Int64} {rd rm : Room} {fs fd : List Value} {i c9 q9 o : Nat} (X : LA p s m meth c b L xs D cT)
    (hW : ∀ sz, Met l yX8_people wsX8_people rd (va_Pc [.ref c9] (wr_R D (TY cT) wd sz)) (wQi post D wd1 (va_A wd sz)) 0 0 (va_A wd sz)) (hrd : rd.cells = 0 ∧ rd.slots = 0 ∧ rd.frames + 1 ≤ room_1.frames ∧ 8 + (1 + 11) + rd.locals ≤ room_1.locals) (hqd : wd[0]? = some (c9, .inr (6, fd)))
    (hM : ∀ sz, Met l yX9_people wsX9_people rm (va_Pc [.ref q9] (wr_R D (TY cT) wm sz)) (wQi postm D wm1 (va_A wm sz)) 0 0 (va_A wm sz)) (hrm : rm.cells = 0 ∧ rm.slots = 0 ∧ rm.frames + 1 ≤ room_1.frames ∧ 8 + (1 + 11) + rm.locals ≤ room_1.locals) (hq : wm[0]? = some (q9, .inr (7, fs)))
    (hcmp : ∀ r u a v, post r u → postm a v → r = a)
    (hroom : cells + 1 ≤ room_1.cells ∧ slots + 8 ≤ room_1.slots) (hP : va_P D vwCl ((wd ++ ou cT o g) ++ wm) H) (hD : va_D (AL s) ((wd ++ ou cT o g) ++ wm)) (hS : va_S (AL s) s.heap H locs) (hl : lv_has ls 7 [(0, .ref b), (1, .ref c9), (2, .ref q9), (3, .ref o), (4, .int (nI i))])
    (kk : ∀ r u a v H locs, post r u → postm a v → va_P D vwCl ((wd1 u ++ ou cT o g) ++ wm1 v) H → va_D (AL s) ((wd1 u ++ ou cT o g) ++ wm1 v) → va_S (AL s) s.heap H locs → ∀ ls, lv_has ls 7 [(0, .ref b), (1, .ref c9), (2, .ref q9), (3, .ref o), (4, .int (nI i))] → W p l e room_1 s m #[Value.ref b] below meth c H locs (cells + 1) (slots + 8) Q (F0 m 1551 ls [])) : W p l e room_1 s m #[Value.ref b] below meth c H locs cells slots Q (F0 m 841 ls []) := by
  obtain ⟨S, hL, hX, hbs, hK, hXS⟩ := X
  have hA : ∀ q, s.heap.size ≤ q → AL s q := fun _ h => h
  refine lv_aload_n S.1 S.2.1 dL_law_841 rfl (lv_at hl 1 rfl) ?_
  rw [List.append_assoc] at hP hD
  refine fr_callVi (As := []) (rest := []) (n := 0) (wc := wd) (wr := ou cT o g ++ wm) S (hW _) gL_law_X8_people rfl ⟨rfl, by decide +kernel, by decide +kernel, by decide +kernel⟩ hrd hP hK hD hS hA (va_recv hK.1 (fr_l hP) (ci := 6) (q0 := 0) rfl hqd) hl rfl rfl (Nat.le_of_ble_eq_true rfl) ⟨Nat.le_of_succ_le hroom.1, Nat.le_trans (Nat.le_add_right slots 8) hroom.2⟩ dL_law_842 (fun r u H locs hp hP hD hS => ?_)
  refine lv_aload_n S.1 S.2.1 dL_law_845 rfl (lv_at hl 2 rfl) ?_
  rw [← List.append_assoc] at hP hD
  have hP := fr_Pc hP
  have hD := fr_Dc hD
  refine fr_callVi (As := []) (rest := [.int r]) (n := 0) (wc := wm) (wr := wd1 u ++ ou cT o g) S (hM _) gL_law_X9_people rfl ⟨rfl, by decide +kernel, by decide +kernel, by decide +kernel⟩ hrm hP hK hD hS hA (va_recv hK.1 (fr_l hP) (ci := 7) (q0 := 0) rfl hq) hl rfl rfl (Nat.le_of_ble_eq_true rfl) ⟨Nat.le_of_succ_le hroom.1, Nat.le_trans (Nat.le_add_right slots 8) hroom.2⟩ dL_law_846 (fun a v H locs hpm hP hD hS => ?_)
  refine lv_icmp_eq (tgt := 1551) S.1 S.2.1 dL_law_849 (by decide) (fun _ => ?_) (fun q => absurd (hcmp r u a v hp hpm) q)
  refine W.widen (k := cells + 1) (n := slots + 8) (Nat.le_succ _) (Nat.le_add_right _ _) ?_
  exact kk r u a v H locs hp hpm (fr_Pc hP) (fr_Dc hD) hS ls hl
set_option maxHeartbeats 4000000 in
set_option maxRecDepth 100000 in
theorem lc_entry {p : Program} {l : Launch} {e : Env} {s : State} {m : MethodId} {below : List Frame} {meth : Method} {c : Code} {b L : Nat} {xs : Nat → Int32} {D : va_G} {cT : ClassId × ClassId × ClassId} {Q : State → Prop} {H : Heap} {locs : List Loc} {cells slots : Nat} {ls : Array Slot} {St1 St2 : Type} {post : Int32 → St1 → Prop} {wd1 : St1 → va_W} {g1 : St1 → Nat → Int64} {postm : Int32 → St2 → Prop} {wm1 : St2 → va_W} {th : St2 → Nat} {wd wm : va_W} {g : Nat → Int64} {rm : Room} {fs : List Value} {i c9 q9 o : Nat} (X : LA p s m meth c b L xs D cT) (hi : i + 3 < L) (p0 : Int32) (p1 : Int32) (e0 : xs (i + 1) = p0) (e1 : xs (i + 2) = p1)
    (hW : ∀ sz, Met l yL_entry wsL_entry ({ frames := 8, cells := 1, slots := 8, locals := 200 } : Room) (va_Pc [.ref c9, .int p0, .int p1, .ref o] (wx_R D (TY cT) (wd ++ ou cT o g) sz)) (wQi post D (fun u => wd1 u ++ ou cT o (g1 u)) (va_A (wd ++ ou cT o g) sz)) 1 8 (va_A (wd ++ ou cT o g) sz))
    (hM : ∀ sz, Met l yX9_entry wsX9_entry rm (va_Pc [.ref q9, .int p0, .int p1] (wr_R D (TY cT) wm sz)) (wQi postm D wm1 (va_A wm sz)) 0 0 (va_A wm sz)) (hrm : rm.cells = 0 ∧ rm.slots = 0 ∧ rm.frames + 1 ≤ room_1.frames ∧ 8 + (3 + 11) + rm.locals ≤ room_1.locals) (hq : wm[0]? = some (q9, .inr (7, fs))) (hqm : ∀ v, ∃ fs, (wm1 v)[0]? = some (q9, .inr (7, fs)))
    (hT : ∀ v sz, Met l yX9_thrown wsX9_thrown ({ frames := 0, cells := 0, slots := 0, locals := 0 } : Room) (va_Pc [.ref q9] (wr_R D (TY cT) (wm1 v) sz)) (wQi (fun (r_ : Int32) (_ : Unit) => r_ = nI (th v)) D (fun (_ : Unit) => wm1 v) (va_A (wm1 v) sz)) 0 0 (va_A (wm1 v) sz))
    (hcmp : ∀ r u a v, post r u → postm a v → r = nI (th v) ∧ (r = nI 0 → g1 u 0 = a.toInt64))
    (hroom : cells + 1 ≤ room_1.cells ∧ slots + 8 ≤ room_1.slots) (hP : va_P D vwCl ((wd ++ ou cT o g) ++ wm) H) (hD : va_D (AL s) ((wd ++ ou cT o g) ++ wm)) (hS : va_S (AL s) s.heap H locs) (hl : lv_has ls 7 [(0, .ref b), (1, .ref c9), (2, .ref q9), (3, .ref o), (4, .int (nI i))])
    (kk : ∀ r u a v H locs, post r u → postm a v → va_P D vwCl ((wd1 u ++ ou cT o (g1 u)) ++ wm1 v) H → va_D (AL s) ((wd1 u ++ ou cT o (g1 u)) ++ wm1 v) → va_S (AL s) s.heap H locs → ∀ ls, lv_has ls 7 [(0, .ref b), (1, .ref c9), (2, .ref q9), (3, .ref o), (4, .int (nI i))] → W p l e room_1 s m #[Value.ref b] below meth c H locs (cells + 1) (slots + 8) Q (F0 m 1551 ls [])) : W p l e room_1 s m #[Value.ref b] below meth c H locs cells slots Q (F0 m 854 ls []) := by
  obtain ⟨S, hL, hX, hbs, hK, hXS⟩ := X
  have hA : ∀ q, s.heap.size ≤ q → AL s q := fun _ h => h
  refine lv_aload_n S.1 S.2.1 dL_law_854 rfl (lv_at hl 1 rfl) ?_
  refine lv_aload_n S.1 S.2.1 dL_law_855 rfl (lv_at hl 0 rfl) ?_
  refine lv_iload S.1 S.2.1 dL_law_856 (lv_at hl 4 rfl) ?_
  refine lv_iconst (v := (nI 1)) S.1 S.2.1 dL_law_858 (by decide) ?_
  refine n_add S dL_law_859 ?_
  refine l_sld S hX hbs hS hL (by omega) e0 dL_law_860 ?_
  refine lv_aload_n S.1 S.2.1 dL_law_861 rfl (lv_at hl 0 rfl) ?_
  refine lv_iload S.1 S.2.1 dL_law_862 (lv_at hl 4 rfl) ?_
  refine lv_iconst (v := (nI 2)) S.1 S.2.1 dL_law_864 (by decide) ?_
  refine n_add S dL_law_865 ?_
  refine l_sld S hX hbs hS hL (by omega) e1 dL_law_866 ?_
  refine lv_aload_n S.1 S.2.1 dL_law_867 rfl (lv_at hl 3 rfl) ?_
  refine fr_callSi (As := [.ref c9, .int p0, .int p1, .ref o]) (rest := []) (n := 4) (wc := wd ++ ou cT o g) (wr := wm) S (hW _) gL_law_L_entry rfl ⟨by decide +kernel, by decide +kernel, by decide +kernel⟩ ⟨rfl, rfl, Nat.le_of_ble_eq_true rfl, Nat.le_of_ble_eq_true rfl⟩ hP hK (XS.law hXS hS) hD hS hA hl rfl rfl (Nat.le_of_ble_eq_true rfl) hroom dL_law_868 (fun r u H locs hp hP hD hS => ?_)
  refine lv_istore (lv' := [(5, .int r), (0, .ref b), (1, .ref c9), (2, .ref q9), (3, .ref o), (4, .int (nI i))]) S.1 S.2.1 dL_law_871 hl (by decide) rfl (fun ls hl => ?_)
  refine lv_aload_n S.1 S.2.1 dL_law_873 rfl (lv_at hl 3 rfl) ?_
  refine lv_aload_n S.1 S.2.1 dL_law_874 rfl (lv_at hl 1 rfl) ?_
  refine lv_iload S.1 S.2.1 dL_law_875 (lv_at hl 5 rfl) ?_
  refine lv_iconst (v := (nI 1)) S.1 S.2.1 dL_law_877 (by decide) ?_
  refine n_add S dL_law_878 ?_
  refine l_sld S hX hbs hS hL (by omega) e0 dL_law_879 ?_
  refine lv_aload_n S.1 S.2.1 dL_law_880 rfl (lv_at hl 1 rfl) ?_
  refine lv_iload S.1 S.2.1 dL_law_881 (lv_at hl 5 rfl) ?_
  refine lv_iconst (v := (nI 2)) S.1 S.2.1 dL_law_883 (by decide) ?_
  refine n_add S dL_law_884 ?_
  refine l_sld S hX hbs hS hL (by omega) e1 dL_law_885 ?_
  have hP := fr_Pc hP
  have hD := fr_Dc hD
  refine fr_callVi (As := [.int p0, .int p1]) (rest := []) (n := 2) (wc := wm) (wr := wd1 u ++ ou cT o (g1 u)) S (hM _) gL_law_X9_entry rfl ⟨rfl, by decide +kernel, by decide +kernel, by decide +kernel⟩ hrm hP hK hD hS hA (va_recv hK.1 (fr_l hP) (ci := 7) (q0 := 0) rfl hq) hl rfl rfl (Nat.le_of_ble_eq_true rfl) ⟨hroom.1, hroom.2⟩ dL_law_886 (fun a v H locs hpm hP hD hS => ?_)
  refine lv_istore (lv' := [(6, .int a), (5, .int r), (0, .ref b), (1, .ref c9), (2, .ref q9), (3, .ref o), (4, .int (nI i))]) S.1 S.2.1 dL_law_889 hl (by decide) rfl (fun ls hl => ?_)
  refine lv_aload_n S.1 S.2.1 dL_law_891 rfl (lv_at hl 4 rfl) ?_
  obtain ⟨fsv, hqv⟩ := hqm v
  refine fr_callVi (As := []) (rest := []) (n := 0) (wc := wm1 v) (wr := wd1 u ++ ou cT o (g1 u)) S (hT v _) gL_law_X9_thrown rfl ⟨rfl, by decide +kernel, by decide +kernel, by decide +kernel⟩ ⟨rfl, rfl, Nat.le_of_ble_eq_true rfl, Nat.le_of_ble_eq_true rfl⟩ hP hK hD hS hA (va_recv hK.1 (fr_l hP) (ci := 7) (q0 := 0) rfl hqv) hl rfl rfl (Nat.le_of_ble_eq_true rfl) ⟨hroom.1, hroom.2⟩ dL_law_892 (fun t _ H locs ht hP hD hS => ?_)
  subst ht
  obtain ⟨hc1, hc2⟩ := hcmp r u a v hp hpm
  refine lv_iload S.1 S.2.1 dL_law_895 (lv_at hl 1 rfl) ?_
  refine lv_icmp_eq (tgt := 902) S.1 S.2.1 dL_law_897 (by decide) (fun _ => ?_) (fun q => absurd hc1.symm q)
  refine lv_iload S.1 S.2.1 dL_law_902 (lv_at hl 1 rfl) ?_
  have fin : W p l e room_1 s m #[Value.ref b] below meth c H locs (cells + 1) (slots + 8) Q (F0 m 919 ls []) := lv_goto (tgt := 1551) S.1 S.2.1 dL_law_919 (by decide) (kk r u a v H locs hp hpm (fr_Pc hP) (fr_Dc hD) hS ls (lv_sub hl [2, 3, 4, 5, 6] rfl))
  refine lv_if_ne (tgt := 919) S.1 S.2.1 dL_law_904 (by decide) (fun _ => fin) (fun q0 => ?_)
  have hr0 : r = nI 0 := q0
  refine lv_aload_n S.1 S.2.1 dL_law_907 rfl (lv_at hl 5 rfl) ?_
  refine lv_iconst (v := (nI 0)) S.1 S.2.1 dL_law_908 (by decide) ?_
  refine g_lald (i := 0) (n := 1) (g := g1 u) S ((wd1 u).length + 0) hK (fr_r hP) (ap_at.trans rfl) (by decide) dL_law_909 ?_
  refine lv_iload S.1 S.2.1 dL_law_910 (lv_at hl 0 rfl) ?_
  refine lv_i2l S.1 S.2.1 dL_law_912 rfl ?_
  exact l_leq (tgt := 919) S (hc2 hr0) dL_law_913 dL_law_914 (by decide) fin
set_option maxHeartbeats 4000000 in
set_option maxRecDepth 100000 in
theorem lc_gaps {p : Program} {l : Launch} {e : Env} {s : State} {m : MethodId} {below : List Frame} {meth : Method} {c : Code} {b L : Nat} {xs : Nat → Int32} {D : va_G} {cT : ClassId × ClassId × ClassId} {Q : State → Prop} {H : Heap} {locs : List Loc} {cells slots : Nat} {ls : Array Slot} {St1 St2 : Type} {post : Int32 → St1 → Prop} {wd1 : St1 → va_W} {postm : Int32 → St2 → Prop} {wm1 : St2 → va_W} {wd wm : va_W} {g : Nat → Int64} {rd rm : Room} {fs fd : List Value} {i c9 q9 o : Nat} (X : LA p s m meth c b L xs D cT)
    (hW : ∀ sz, Met l yX8_gaps wsX8_gaps rd (va_Pc [.ref c9] (wr_R D (TY cT) wd sz)) (wQi post D wd1 (va_A wd sz)) 0 0 (va_A wd sz)) (hrd : rd.cells = 0 ∧ rd.slots = 0 ∧ rd.frames + 1 ≤ room_1.frames ∧ 8 + (1 + 11) + rd.locals ≤ room_1.locals) (hqd : wd[0]? = some (c9, .inr (6, fd)))
    (hM : ∀ sz, Met l yX9_gaps wsX9_gaps rm (va_Pc [.ref q9] (wr_R D (TY cT) wm sz)) (wQi postm D wm1 (va_A wm sz)) 0 0 (va_A wm sz)) (hrm : rm.cells = 0 ∧ rm.slots = 0 ∧ rm.frames + 1 ≤ room_1.frames ∧ 8 + (1 + 11) + rm.locals ≤ room_1.locals) (hq : wm[0]? = some (q9, .inr (7, fs)))
    (hcmp : ∀ r u a v, post r u → postm a v → r = a)
    (hroom : cells + 1 ≤ room_1.cells ∧ slots + 8 ≤ room_1.slots) (hP : va_P D vwCl ((wd ++ ou cT o g) ++ wm) H) (hD : va_D (AL s) ((wd ++ ou cT o g) ++ wm)) (hS : va_S (AL s) s.heap H locs) (hl : lv_has ls 7 [(0, .ref b), (1, .ref c9), (2, .ref q9), (3, .ref o), (4, .int (nI i))])
    (kk : ∀ r u a v H locs, post r u → postm a v → va_P D vwCl ((wd1 u ++ ou cT o g) ++ wm1 v) H → va_D (AL s) ((wd1 u ++ ou cT o g) ++ wm1 v) → va_S (AL s) s.heap H locs → ∀ ls, lv_has ls 7 [(0, .ref b), (1, .ref c9), (2, .ref q9), (3, .ref o), (4, .int (nI i))] → W p l e room_1 s m #[Value.ref b] below meth c H locs (cells + 1) (slots + 8) Q (F0 m 1551 ls [])) : W p l e room_1 s m #[Value.ref b] below meth c H locs cells slots Q (F0 m 922 ls []) := by
  obtain ⟨S, hL, hX, hbs, hK, hXS⟩ := X
  have hA : ∀ q, s.heap.size ≤ q → AL s q := fun _ h => h
  refine lv_aload_n S.1 S.2.1 dL_law_922 rfl (lv_at hl 1 rfl) ?_
  rw [List.append_assoc] at hP hD
  refine fr_callVi (As := []) (rest := []) (n := 0) (wc := wd) (wr := ou cT o g ++ wm) S (hW _) gL_law_X8_gaps rfl ⟨rfl, by decide +kernel, by decide +kernel, by decide +kernel⟩ hrd hP hK hD hS hA (va_recv hK.1 (fr_l hP) (ci := 6) (q0 := 0) rfl hqd) hl rfl rfl (Nat.le_of_ble_eq_true rfl) ⟨Nat.le_of_succ_le hroom.1, Nat.le_trans (Nat.le_add_right slots 8) hroom.2⟩ dL_law_923 (fun r u H locs hp hP hD hS => ?_)
  refine lv_aload_n S.1 S.2.1 dL_law_926 rfl (lv_at hl 2 rfl) ?_
  rw [← List.append_assoc] at hP hD
  have hP := fr_Pc hP
  have hD := fr_Dc hD
  refine fr_callVi (As := []) (rest := [.int r]) (n := 0) (wc := wm) (wr := wd1 u ++ ou cT o g) S (hM _) gL_law_X9_gaps rfl ⟨rfl, by decide +kernel, by decide +kernel, by decide +kernel⟩ hrm hP hK hD hS hA (va_recv hK.1 (fr_l hP) (ci := 7) (q0 := 0) rfl hq) hl rfl rfl (Nat.le_of_ble_eq_true rfl) ⟨Nat.le_of_succ_le hroom.1, Nat.le_trans (Nat.le_add_right slots 8) hroom.2⟩ dL_law_927 (fun a v H locs hpm hP hD hS => ?_)
  refine lv_icmp_eq (tgt := 1551) S.1 S.2.1 dL_law_930 (by decide) (fun _ => ?_) (fun q => absurd (hcmp r u a v hp hpm) q)
  refine W.widen (k := cells + 1) (n := slots + 8) (Nat.le_succ _) (Nat.le_add_right _ _) ?_
  exact kk r u a v H locs hp hpm (fr_Pc hP) (fr_Dc hD) hS ls hl
set_option maxHeartbeats 4000000 in
set_option maxRecDepth 100000 in
theorem lc_gap {p : Program} {l : Launch} {e : Env} {s : State} {m : MethodId} {below : List Frame} {meth : Method} {c : Code} {b L : Nat} {xs : Nat → Int32} {D : va_G} {cT : ClassId × ClassId × ClassId} {Q : State → Prop} {H : Heap} {locs : List Loc} {cells slots : Nat} {ls : Array Slot} {St1 St2 : Type} {post : Int32 → St1 → Prop} {wd1 : St1 → va_W} {g1 : St1 → Nat → Int64} {postm : Int32 → St2 → Prop} {wm1 : St2 → va_W} {th : St2 → Nat} {wd wm : va_W} {g : Nat → Int64} {rm : Room} {fs : List Value} {i c9 q9 o : Nat} (X : LA p s m meth c b L xs D cT) (hi : i + 3 < L) (p0 : Int32) (p1 : Int32) (e0 : xs (i + 1) = p0) (e1 : xs (i + 2) = p1)
    (hW : ∀ sz, Met l yL_gap wsL_gap ({ frames := 8, cells := 1, slots := 8, locals := 200 } : Room) (va_Pc [.ref c9, .int p0, .int p1, .ref o] (wx_R D (TY cT) (wd ++ ou cT o g) sz)) (wQi post D (fun u => wd1 u ++ ou cT o (g1 u)) (va_A (wd ++ ou cT o g) sz)) 1 8 (va_A (wd ++ ou cT o g) sz))
    (hM : ∀ sz, Met l yX9_gap wsX9_gap rm (va_Pc [.ref q9, .int p0, .int p1] (wr_R D (TY cT) wm sz)) (wQi postm D wm1 (va_A wm sz)) 0 0 (va_A wm sz)) (hrm : rm.cells = 0 ∧ rm.slots = 0 ∧ rm.frames + 1 ≤ room_1.frames ∧ 8 + (3 + 11) + rm.locals ≤ room_1.locals) (hq : wm[0]? = some (q9, .inr (7, fs))) (hqm : ∀ v, ∃ fs, (wm1 v)[0]? = some (q9, .inr (7, fs)))
    (hT : ∀ v sz, Met l yX9_thrown wsX9_thrown ({ frames := 0, cells := 0, slots := 0, locals := 0 } : Room) (va_Pc [.ref q9] (wr_R D (TY cT) (wm1 v) sz)) (wQi (fun (r_ : Int32) (_ : Unit) => r_ = nI (th v)) D (fun (_ : Unit) => wm1 v) (va_A (wm1 v) sz)) 0 0 (va_A (wm1 v) sz))
    (hcmp : ∀ r u a v, post r u → postm a v → r = nI (th v) ∧ (r = nI 0 → g1 u 0 = a.toInt64))
    (hroom : cells + 1 ≤ room_1.cells ∧ slots + 8 ≤ room_1.slots) (hP : va_P D vwCl ((wd ++ ou cT o g) ++ wm) H) (hD : va_D (AL s) ((wd ++ ou cT o g) ++ wm)) (hS : va_S (AL s) s.heap H locs) (hl : lv_has ls 7 [(0, .ref b), (1, .ref c9), (2, .ref q9), (3, .ref o), (4, .int (nI i))])
    (kk : ∀ r u a v H locs, post r u → postm a v → va_P D vwCl ((wd1 u ++ ou cT o (g1 u)) ++ wm1 v) H → va_D (AL s) ((wd1 u ++ ou cT o (g1 u)) ++ wm1 v) → va_S (AL s) s.heap H locs → ∀ ls, lv_has ls 7 [(0, .ref b), (1, .ref c9), (2, .ref q9), (3, .ref o), (4, .int (nI i))] → W p l e room_1 s m #[Value.ref b] below meth c H locs (cells + 1) (slots + 8) Q (F0 m 1551 ls [])) : W p l e room_1 s m #[Value.ref b] below meth c H locs cells slots Q (F0 m 935 ls []) := by
  obtain ⟨S, hL, hX, hbs, hK, hXS⟩ := X
  have hA : ∀ q, s.heap.size ≤ q → AL s q := fun _ h => h
  refine lv_aload_n S.1 S.2.1 dL_law_935 rfl (lv_at hl 1 rfl) ?_
  refine lv_aload_n S.1 S.2.1 dL_law_936 rfl (lv_at hl 0 rfl) ?_
  refine lv_iload S.1 S.2.1 dL_law_937 (lv_at hl 4 rfl) ?_
  refine lv_iconst (v := (nI 1)) S.1 S.2.1 dL_law_939 (by decide) ?_
  refine n_add S dL_law_940 ?_
  refine l_sld S hX hbs hS hL (by omega) e0 dL_law_941 ?_
  refine lv_aload_n S.1 S.2.1 dL_law_942 rfl (lv_at hl 0 rfl) ?_
  refine lv_iload S.1 S.2.1 dL_law_943 (lv_at hl 4 rfl) ?_
  refine lv_iconst (v := (nI 2)) S.1 S.2.1 dL_law_945 (by decide) ?_
  refine n_add S dL_law_946 ?_
  refine l_sld S hX hbs hS hL (by omega) e1 dL_law_947 ?_
  refine lv_aload_n S.1 S.2.1 dL_law_948 rfl (lv_at hl 3 rfl) ?_
  refine fr_callSi (As := [.ref c9, .int p0, .int p1, .ref o]) (rest := []) (n := 4) (wc := wd ++ ou cT o g) (wr := wm) S (hW _) gL_law_L_gap rfl ⟨by decide +kernel, by decide +kernel, by decide +kernel⟩ ⟨rfl, rfl, Nat.le_of_ble_eq_true rfl, Nat.le_of_ble_eq_true rfl⟩ hP hK (XS.law hXS hS) hD hS hA hl rfl rfl (Nat.le_of_ble_eq_true rfl) hroom dL_law_949 (fun r u H locs hp hP hD hS => ?_)
  refine lv_istore (lv' := [(5, .int r), (0, .ref b), (1, .ref c9), (2, .ref q9), (3, .ref o), (4, .int (nI i))]) S.1 S.2.1 dL_law_952 hl (by decide) rfl (fun ls hl => ?_)
  refine lv_aload_n S.1 S.2.1 dL_law_954 rfl (lv_at hl 3 rfl) ?_
  refine lv_aload_n S.1 S.2.1 dL_law_955 rfl (lv_at hl 1 rfl) ?_
  refine lv_iload S.1 S.2.1 dL_law_956 (lv_at hl 5 rfl) ?_
  refine lv_iconst (v := (nI 1)) S.1 S.2.1 dL_law_958 (by decide) ?_
  refine n_add S dL_law_959 ?_
  refine l_sld S hX hbs hS hL (by omega) e0 dL_law_960 ?_
  refine lv_aload_n S.1 S.2.1 dL_law_961 rfl (lv_at hl 1 rfl) ?_
  refine lv_iload S.1 S.2.1 dL_law_962 (lv_at hl 5 rfl) ?_
  refine lv_iconst (v := (nI 2)) S.1 S.2.1 dL_law_964 (by decide) ?_
  refine n_add S dL_law_965 ?_
  refine l_sld S hX hbs hS hL (by omega) e1 dL_law_966 ?_
  have hP := fr_Pc hP
  have hD := fr_Dc hD
  refine fr_callVi (As := [.int p0, .int p1]) (rest := []) (n := 2) (wc := wm) (wr := wd1 u ++ ou cT o (g1 u)) S (hM _) gL_law_X9_gap rfl ⟨rfl, by decide +kernel, by decide +kernel, by decide +kernel⟩ hrm hP hK hD hS hA (va_recv hK.1 (fr_l hP) (ci := 7) (q0 := 0) rfl hq) hl rfl rfl (Nat.le_of_ble_eq_true rfl) ⟨hroom.1, hroom.2⟩ dL_law_967 (fun a v H locs hpm hP hD hS => ?_)
  refine lv_istore (lv' := [(6, .int a), (5, .int r), (0, .ref b), (1, .ref c9), (2, .ref q9), (3, .ref o), (4, .int (nI i))]) S.1 S.2.1 dL_law_970 hl (by decide) rfl (fun ls hl => ?_)
  refine lv_aload_n S.1 S.2.1 dL_law_972 rfl (lv_at hl 4 rfl) ?_
  obtain ⟨fsv, hqv⟩ := hqm v
  refine fr_callVi (As := []) (rest := []) (n := 0) (wc := wm1 v) (wr := wd1 u ++ ou cT o (g1 u)) S (hT v _) gL_law_X9_thrown rfl ⟨rfl, by decide +kernel, by decide +kernel, by decide +kernel⟩ ⟨rfl, rfl, Nat.le_of_ble_eq_true rfl, Nat.le_of_ble_eq_true rfl⟩ hP hK hD hS hA (va_recv hK.1 (fr_l hP) (ci := 7) (q0 := 0) rfl hqv) hl rfl rfl (Nat.le_of_ble_eq_true rfl) ⟨hroom.1, hroom.2⟩ dL_law_973 (fun t _ H locs ht hP hD hS => ?_)
  subst ht
  obtain ⟨hc1, hc2⟩ := hcmp r u a v hp hpm
  refine lv_iload S.1 S.2.1 dL_law_976 (lv_at hl 1 rfl) ?_
  refine lv_icmp_eq (tgt := 983) S.1 S.2.1 dL_law_978 (by decide) (fun _ => ?_) (fun q => absurd hc1.symm q)
  refine lv_iload S.1 S.2.1 dL_law_983 (lv_at hl 1 rfl) ?_
  have fin : W p l e room_1 s m #[Value.ref b] below meth c H locs (cells + 1) (slots + 8) Q (F0 m 1000 ls []) := lv_goto (tgt := 1551) S.1 S.2.1 dL_law_1000 (by decide) (kk r u a v H locs hp hpm (fr_Pc hP) (fr_Dc hD) hS ls (lv_sub hl [2, 3, 4, 5, 6] rfl))
  refine lv_if_ne (tgt := 1000) S.1 S.2.1 dL_law_985 (by decide) (fun _ => fin) (fun q0 => ?_)
  have hr0 : r = nI 0 := q0
  refine lv_aload_n S.1 S.2.1 dL_law_988 rfl (lv_at hl 5 rfl) ?_
  refine lv_iconst (v := (nI 0)) S.1 S.2.1 dL_law_989 (by decide) ?_
  refine g_lald (i := 0) (n := 1) (g := g1 u) S ((wd1 u).length + 0) hK (fr_r hP) (ap_at.trans rfl) (by decide) dL_law_990 ?_
  refine lv_iload S.1 S.2.1 dL_law_991 (lv_at hl 0 rfl) ?_
  refine lv_i2l S.1 S.2.1 dL_law_993 rfl ?_
  exact l_leq (tgt := 1000) S (hc2 hr0) dL_law_994 dL_law_995 (by decide) fin
set_option maxHeartbeats 4000000 in
set_option maxRecDepth 100000 in
theorem lc_shifts {p : Program} {l : Launch} {e : Env} {s : State} {m : MethodId} {below : List Frame} {meth : Method} {c : Code} {b L : Nat} {xs : Nat → Int32} {D : va_G} {cT : ClassId × ClassId × ClassId} {Q : State → Prop} {H : Heap} {locs : List Loc} {cells slots : Nat} {ls : Array Slot} {St1 St2 : Type} {post : Int32 → St1 → Prop} {wd1 : St1 → va_W} {g1 : St1 → Nat → Int64} {postm : Int32 → St2 → Prop} {wm1 : St2 → va_W} {th : St2 → Nat} {wd wm : va_W} {g : Nat → Int64} {rm : Room} {fs : List Value} {i c9 q9 o : Nat} (X : LA p s m meth c b L xs D cT) (hi : i + 3 < L) (p0 : Int32) (e0 : xs (i + 1) = p0)
    (hW : ∀ sz, Met l yL_shifts wsL_shifts ({ frames := 8, cells := 1, slots := 8, locals := 200 } : Room) (va_Pc [.ref c9, .int p0, .ref o] (wx_R D (TY cT) (wd ++ ou cT o g) sz)) (wQi post D (fun u => wd1 u ++ ou cT o (g1 u)) (va_A (wd ++ ou cT o g) sz)) 1 8 (va_A (wd ++ ou cT o g) sz))
    (hM : ∀ sz, Met l yX9_shifts wsX9_shifts rm (va_Pc [.ref q9, .int p0] (wr_R D (TY cT) wm sz)) (wQi postm D wm1 (va_A wm sz)) 0 0 (va_A wm sz)) (hrm : rm.cells = 0 ∧ rm.slots = 0 ∧ rm.frames + 1 ≤ room_1.frames ∧ 8 + (2 + 11) + rm.locals ≤ room_1.locals) (hq : wm[0]? = some (q9, .inr (7, fs))) (hqm : ∀ v, ∃ fs, (wm1 v)[0]? = some (q9, .inr (7, fs)))
    (hT : ∀ v sz, Met l yX9_thrown wsX9_thrown ({ frames := 0, cells := 0, slots := 0, locals := 0 } : Room) (va_Pc [.ref q9] (wr_R D (TY cT) (wm1 v) sz)) (wQi (fun (r_ : Int32) (_ : Unit) => r_ = nI (th v)) D (fun (_ : Unit) => wm1 v) (va_A (wm1 v) sz)) 0 0 (va_A (wm1 v) sz))
    (hcmp : ∀ r u a v, post r u → postm a v → r = nI (th v) ∧ (r = nI 0 → g1 u 0 = a.toInt64))
    (hroom : cells + 1 ≤ room_1.cells ∧ slots + 8 ≤ room_1.slots) (hP : va_P D vwCl ((wd ++ ou cT o g) ++ wm) H) (hD : va_D (AL s) ((wd ++ ou cT o g) ++ wm)) (hS : va_S (AL s) s.heap H locs) (hl : lv_has ls 7 [(0, .ref b), (1, .ref c9), (2, .ref q9), (3, .ref o), (4, .int (nI i))])
    (kk : ∀ r u a v H locs, post r u → postm a v → va_P D vwCl ((wd1 u ++ ou cT o (g1 u)) ++ wm1 v) H → va_D (AL s) ((wd1 u ++ ou cT o (g1 u)) ++ wm1 v) → va_S (AL s) s.heap H locs → ∀ ls, lv_has ls 7 [(0, .ref b), (1, .ref c9), (2, .ref q9), (3, .ref o), (4, .int (nI i))] → W p l e room_1 s m #[Value.ref b] below meth c H locs (cells + 1) (slots + 8) Q (F0 m 1551 ls [])) : W p l e room_1 s m #[Value.ref b] below meth c H locs cells slots Q (F0 m 1003 ls []) := by
  obtain ⟨S, hL, hX, hbs, hK, hXS⟩ := X
  have hA : ∀ q, s.heap.size ≤ q → AL s q := fun _ h => h
  refine lv_aload_n S.1 S.2.1 dL_law_1003 rfl (lv_at hl 1 rfl) ?_
  refine lv_aload_n S.1 S.2.1 dL_law_1004 rfl (lv_at hl 0 rfl) ?_
  refine lv_iload S.1 S.2.1 dL_law_1005 (lv_at hl 4 rfl) ?_
  refine lv_iconst (v := (nI 1)) S.1 S.2.1 dL_law_1007 (by decide) ?_
  refine n_add S dL_law_1008 ?_
  refine l_sld S hX hbs hS hL (by omega) e0 dL_law_1009 ?_
  refine lv_aload_n S.1 S.2.1 dL_law_1010 rfl (lv_at hl 3 rfl) ?_
  refine fr_callSi (As := [.ref c9, .int p0, .ref o]) (rest := []) (n := 3) (wc := wd ++ ou cT o g) (wr := wm) S (hW _) gL_law_L_shifts rfl ⟨by decide +kernel, by decide +kernel, by decide +kernel⟩ ⟨rfl, rfl, Nat.le_of_ble_eq_true rfl, Nat.le_of_ble_eq_true rfl⟩ hP hK (XS.law hXS hS) hD hS hA hl rfl rfl (Nat.le_of_ble_eq_true rfl) hroom dL_law_1011 (fun r u H locs hp hP hD hS => ?_)
  refine lv_istore (lv' := [(5, .int r), (0, .ref b), (1, .ref c9), (2, .ref q9), (3, .ref o), (4, .int (nI i))]) S.1 S.2.1 dL_law_1014 hl (by decide) rfl (fun ls hl => ?_)
  refine lv_aload_n S.1 S.2.1 dL_law_1016 rfl (lv_at hl 3 rfl) ?_
  refine lv_aload_n S.1 S.2.1 dL_law_1017 rfl (lv_at hl 1 rfl) ?_
  refine lv_iload S.1 S.2.1 dL_law_1018 (lv_at hl 5 rfl) ?_
  refine lv_iconst (v := (nI 1)) S.1 S.2.1 dL_law_1020 (by decide) ?_
  refine n_add S dL_law_1021 ?_
  refine l_sld S hX hbs hS hL (by omega) e0 dL_law_1022 ?_
  have hP := fr_Pc hP
  have hD := fr_Dc hD
  refine fr_callVi (As := [.int p0]) (rest := []) (n := 1) (wc := wm) (wr := wd1 u ++ ou cT o (g1 u)) S (hM _) gL_law_X9_shifts rfl ⟨rfl, by decide +kernel, by decide +kernel, by decide +kernel⟩ hrm hP hK hD hS hA (va_recv hK.1 (fr_l hP) (ci := 7) (q0 := 0) rfl hq) hl rfl rfl (Nat.le_of_ble_eq_true rfl) ⟨hroom.1, hroom.2⟩ dL_law_1023 (fun a v H locs hpm hP hD hS => ?_)
  refine lv_istore (lv' := [(6, .int a), (5, .int r), (0, .ref b), (1, .ref c9), (2, .ref q9), (3, .ref o), (4, .int (nI i))]) S.1 S.2.1 dL_law_1026 hl (by decide) rfl (fun ls hl => ?_)
  refine lv_aload_n S.1 S.2.1 dL_law_1028 rfl (lv_at hl 4 rfl) ?_
  obtain ⟨fsv, hqv⟩ := hqm v
  refine fr_callVi (As := []) (rest := []) (n := 0) (wc := wm1 v) (wr := wd1 u ++ ou cT o (g1 u)) S (hT v _) gL_law_X9_thrown rfl ⟨rfl, by decide +kernel, by decide +kernel, by decide +kernel⟩ ⟨rfl, rfl, Nat.le_of_ble_eq_true rfl, Nat.le_of_ble_eq_true rfl⟩ hP hK hD hS hA (va_recv hK.1 (fr_l hP) (ci := 7) (q0 := 0) rfl hqv) hl rfl rfl (Nat.le_of_ble_eq_true rfl) ⟨hroom.1, hroom.2⟩ dL_law_1029 (fun t _ H locs ht hP hD hS => ?_)
  subst ht
  obtain ⟨hc1, hc2⟩ := hcmp r u a v hp hpm
  refine lv_iload S.1 S.2.1 dL_law_1032 (lv_at hl 1 rfl) ?_
  refine lv_icmp_eq (tgt := 1039) S.1 S.2.1 dL_law_1034 (by decide) (fun _ => ?_) (fun q => absurd hc1.symm q)
  refine lv_iload S.1 S.2.1 dL_law_1039 (lv_at hl 1 rfl) ?_
  have fin : W p l e room_1 s m #[Value.ref b] below meth c H locs (cells + 1) (slots + 8) Q (F0 m 1056 ls []) := lv_goto (tgt := 1551) S.1 S.2.1 dL_law_1056 (by decide) (kk r u a v H locs hp hpm (fr_Pc hP) (fr_Dc hD) hS ls (lv_sub hl [2, 3, 4, 5, 6] rfl))
  refine lv_if_ne (tgt := 1056) S.1 S.2.1 dL_law_1041 (by decide) (fun _ => fin) (fun q0 => ?_)
  have hr0 : r = nI 0 := q0
  refine lv_aload_n S.1 S.2.1 dL_law_1044 rfl (lv_at hl 5 rfl) ?_
  refine lv_iconst (v := (nI 0)) S.1 S.2.1 dL_law_1045 (by decide) ?_
  refine g_lald (i := 0) (n := 1) (g := g1 u) S ((wd1 u).length + 0) hK (fr_r hP) (ap_at.trans rfl) (by decide) dL_law_1046 ?_
  refine lv_iload S.1 S.2.1 dL_law_1047 (lv_at hl 0 rfl) ?_
  refine lv_i2l S.1 S.2.1 dL_law_1049 rfl ?_
  exact l_leq (tgt := 1056) S (hc2 hr0) dL_law_1050 dL_law_1051 (by decide) fin
set_option maxHeartbeats 4000000 in
set_option maxRecDepth 100000 in
theorem lc_weekends {p : Program} {l : Launch} {e : Env} {s : State} {m : MethodId} {below : List Frame} {meth : Method} {c : Code} {b L : Nat} {xs : Nat → Int32} {D : va_G} {cT : ClassId × ClassId × ClassId} {Q : State → Prop} {H : Heap} {locs : List Loc} {cells slots : Nat} {ls : Array Slot} {St1 St2 : Type} {post : Int32 → St1 → Prop} {wd1 : St1 → va_W} {g1 : St1 → Nat → Int64} {postm : Int32 → St2 → Prop} {wm1 : St2 → va_W} {th : St2 → Nat} {wd wm : va_W} {g : Nat → Int64} {rm : Room} {fs : List Value} {i c9 q9 o : Nat} (X : LA p s m meth c b L xs D cT) (hi : i + 3 < L) (p0 : Int32) (e0 : xs (i + 1) = p0)
    (hW : ∀ sz, Met l yL_weekends wsL_weekends ({ frames := 8, cells := 1, slots := 8, locals := 200 } : Room) (va_Pc [.ref c9, .int p0, .ref o] (wx_R D (TY cT) (wd ++ ou cT o g) sz)) (wQi post D (fun u => wd1 u ++ ou cT o (g1 u)) (va_A (wd ++ ou cT o g) sz)) 1 8 (va_A (wd ++ ou cT o g) sz))
    (hM : ∀ sz, Met l yX9_weekends wsX9_weekends rm (va_Pc [.ref q9, .int p0] (wr_R D (TY cT) wm sz)) (wQi postm D wm1 (va_A wm sz)) 0 0 (va_A wm sz)) (hrm : rm.cells = 0 ∧ rm.slots = 0 ∧ rm.frames + 1 ≤ room_1.frames ∧ 8 + (2 + 11) + rm.locals ≤ room_1.locals) (hq : wm[0]? = some (q9, .inr (7, fs))) (hqm : ∀ v, ∃ fs, (wm1 v)[0]? = some (q9, .inr (7, fs)))
    (hT : ∀ v sz, Met l yX9_thrown wsX9_thrown ({ frames := 0, cells := 0, slots := 0, locals := 0 } : Room) (va_Pc [.ref q9] (wr_R D (TY cT) (wm1 v) sz)) (wQi (fun (r_ : Int32) (_ : Unit) => r_ = nI (th v)) D (fun (_ : Unit) => wm1 v) (va_A (wm1 v) sz)) 0 0 (va_A (wm1 v) sz))
    (hcmp : ∀ r u a v, post r u → postm a v → r = nI (th v) ∧ (r = nI 0 → g1 u 0 = a.toInt64))
    (hroom : cells + 1 ≤ room_1.cells ∧ slots + 8 ≤ room_1.slots) (hP : va_P D vwCl ((wd ++ ou cT o g) ++ wm) H) (hD : va_D (AL s) ((wd ++ ou cT o g) ++ wm)) (hS : va_S (AL s) s.heap H locs) (hl : lv_has ls 7 [(0, .ref b), (1, .ref c9), (2, .ref q9), (3, .ref o), (4, .int (nI i))])
    (kk : ∀ r u a v H locs, post r u → postm a v → va_P D vwCl ((wd1 u ++ ou cT o (g1 u)) ++ wm1 v) H → va_D (AL s) ((wd1 u ++ ou cT o (g1 u)) ++ wm1 v) → va_S (AL s) s.heap H locs → ∀ ls, lv_has ls 7 [(0, .ref b), (1, .ref c9), (2, .ref q9), (3, .ref o), (4, .int (nI i))] → W p l e room_1 s m #[Value.ref b] below meth c H locs (cells + 1) (slots + 8) Q (F0 m 1551 ls [])) : W p l e room_1 s m #[Value.ref b] below meth c H locs cells slots Q (F0 m 1059 ls []) := by
  obtain ⟨S, hL, hX, hbs, hK, hXS⟩ := X
  have hA : ∀ q, s.heap.size ≤ q → AL s q := fun _ h => h
  refine lv_aload_n S.1 S.2.1 dL_law_1059 rfl (lv_at hl 1 rfl) ?_
  refine lv_aload_n S.1 S.2.1 dL_law_1060 rfl (lv_at hl 0 rfl) ?_
  refine lv_iload S.1 S.2.1 dL_law_1061 (lv_at hl 4 rfl) ?_
  refine lv_iconst (v := (nI 1)) S.1 S.2.1 dL_law_1063 (by decide) ?_
  refine n_add S dL_law_1064 ?_
  refine l_sld S hX hbs hS hL (by omega) e0 dL_law_1065 ?_
  refine lv_aload_n S.1 S.2.1 dL_law_1066 rfl (lv_at hl 3 rfl) ?_
  refine fr_callSi (As := [.ref c9, .int p0, .ref o]) (rest := []) (n := 3) (wc := wd ++ ou cT o g) (wr := wm) S (hW _) gL_law_L_weekends rfl ⟨by decide +kernel, by decide +kernel, by decide +kernel⟩ ⟨rfl, rfl, Nat.le_of_ble_eq_true rfl, Nat.le_of_ble_eq_true rfl⟩ hP hK (XS.law hXS hS) hD hS hA hl rfl rfl (Nat.le_of_ble_eq_true rfl) hroom dL_law_1067 (fun r u H locs hp hP hD hS => ?_)
  refine lv_istore (lv' := [(5, .int r), (0, .ref b), (1, .ref c9), (2, .ref q9), (3, .ref o), (4, .int (nI i))]) S.1 S.2.1 dL_law_1070 hl (by decide) rfl (fun ls hl => ?_)
  refine lv_aload_n S.1 S.2.1 dL_law_1072 rfl (lv_at hl 3 rfl) ?_
  refine lv_aload_n S.1 S.2.1 dL_law_1073 rfl (lv_at hl 1 rfl) ?_
  refine lv_iload S.1 S.2.1 dL_law_1074 (lv_at hl 5 rfl) ?_
  refine lv_iconst (v := (nI 1)) S.1 S.2.1 dL_law_1076 (by decide) ?_
  refine n_add S dL_law_1077 ?_
  refine l_sld S hX hbs hS hL (by omega) e0 dL_law_1078 ?_
  have hP := fr_Pc hP
  have hD := fr_Dc hD
  refine fr_callVi (As := [.int p0]) (rest := []) (n := 1) (wc := wm) (wr := wd1 u ++ ou cT o (g1 u)) S (hM _) gL_law_X9_weekends rfl ⟨rfl, by decide +kernel, by decide +kernel, by decide +kernel⟩ hrm hP hK hD hS hA (va_recv hK.1 (fr_l hP) (ci := 7) (q0 := 0) rfl hq) hl rfl rfl (Nat.le_of_ble_eq_true rfl) ⟨hroom.1, hroom.2⟩ dL_law_1079 (fun a v H locs hpm hP hD hS => ?_)
  refine lv_istore (lv' := [(6, .int a), (5, .int r), (0, .ref b), (1, .ref c9), (2, .ref q9), (3, .ref o), (4, .int (nI i))]) S.1 S.2.1 dL_law_1082 hl (by decide) rfl (fun ls hl => ?_)
  refine lv_aload_n S.1 S.2.1 dL_law_1084 rfl (lv_at hl 4 rfl) ?_
  obtain ⟨fsv, hqv⟩ := hqm v
  refine fr_callVi (As := []) (rest := []) (n := 0) (wc := wm1 v) (wr := wd1 u ++ ou cT o (g1 u)) S (hT v _) gL_law_X9_thrown rfl ⟨rfl, by decide +kernel, by decide +kernel, by decide +kernel⟩ ⟨rfl, rfl, Nat.le_of_ble_eq_true rfl, Nat.le_of_ble_eq_true rfl⟩ hP hK hD hS hA (va_recv hK.1 (fr_l hP) (ci := 7) (q0 := 0) rfl hqv) hl rfl rfl (Nat.le_of_ble_eq_true rfl) ⟨hroom.1, hroom.2⟩ dL_law_1085 (fun t _ H locs ht hP hD hS => ?_)
  subst ht
  obtain ⟨hc1, hc2⟩ := hcmp r u a v hp hpm
  refine lv_iload S.1 S.2.1 dL_law_1088 (lv_at hl 1 rfl) ?_
  refine lv_icmp_eq (tgt := 1095) S.1 S.2.1 dL_law_1090 (by decide) (fun _ => ?_) (fun q => absurd hc1.symm q)
  refine lv_iload S.1 S.2.1 dL_law_1095 (lv_at hl 1 rfl) ?_
  have fin : W p l e room_1 s m #[Value.ref b] below meth c H locs (cells + 1) (slots + 8) Q (F0 m 1112 ls []) := lv_goto (tgt := 1551) S.1 S.2.1 dL_law_1112 (by decide) (kk r u a v H locs hp hpm (fr_Pc hP) (fr_Dc hD) hS ls (lv_sub hl [2, 3, 4, 5, 6] rfl))
  refine lv_if_ne (tgt := 1112) S.1 S.2.1 dL_law_1097 (by decide) (fun _ => fin) (fun q0 => ?_)
  have hr0 : r = nI 0 := q0
  refine lv_aload_n S.1 S.2.1 dL_law_1100 rfl (lv_at hl 5 rfl) ?_
  refine lv_iconst (v := (nI 0)) S.1 S.2.1 dL_law_1101 (by decide) ?_
  refine g_lald (i := 0) (n := 1) (g := g1 u) S ((wd1 u).length + 0) hK (fr_r hP) (ap_at.trans rfl) (by decide) dL_law_1102 ?_
  refine lv_iload S.1 S.2.1 dL_law_1103 (lv_at hl 0 rfl) ?_
  refine lv_i2l S.1 S.2.1 dL_law_1105 rfl ?_
  exact l_leq (tgt := 1112) S (hc2 hr0) dL_law_1106 dL_law_1107 (by decide) fin
set_option maxHeartbeats 4000000 in
set_option maxRecDepth 100000 in
theorem lc_broken {p : Program} {l : Launch} {e : Env} {s : State} {m : MethodId} {below : List Frame} {meth : Method} {c : Code} {b L : Nat} {xs : Nat → Int32} {D : va_G} {cT : ClassId × ClassId × ClassId} {Q : State → Prop} {H : Heap} {locs : List Loc} {cells slots : Nat} {ls : Array Slot} {St1 St2 : Type} {post : Int32 → St1 → Prop} {wd1 : St1 → va_W} {g1 : St1 → Nat → Int64} {postm : Int32 → St2 → Prop} {wm1 : St2 → va_W} {th : St2 → Nat} {wd wm : va_W} {g : Nat → Int64} {rm : Room} {fs : List Value} {i c9 q9 o : Nat} (X : LA p s m meth c b L xs D cT) (hi : i + 3 < L) (p0 : Int32) (e0 : xs (i + 1) = p0)
    (hW : ∀ sz, Met l yL_broken wsL_broken ({ frames := 8, cells := 1, slots := 8, locals := 200 } : Room) (va_Pc [.ref c9, .int p0, .ref o] (wx_R D (TY cT) (wd ++ ou cT o g) sz)) (wQi post D (fun u => wd1 u ++ ou cT o (g1 u)) (va_A (wd ++ ou cT o g) sz)) 1 8 (va_A (wd ++ ou cT o g) sz))
    (hM : ∀ sz, Met l yX9_broken wsX9_broken rm (va_Pc [.ref q9, .int p0] (wr_R D (TY cT) wm sz)) (wQi postm D wm1 (va_A wm sz)) 0 0 (va_A wm sz)) (hrm : rm.cells = 0 ∧ rm.slots = 0 ∧ rm.frames + 1 ≤ room_1.frames ∧ 8 + (2 + 11) + rm.locals ≤ room_1.locals) (hq : wm[0]? = some (q9, .inr (7, fs))) (hqm : ∀ v, ∃ fs, (wm1 v)[0]? = some (q9, .inr (7, fs)))
    (hT : ∀ v sz, Met l yX9_thrown wsX9_thrown ({ frames := 0, cells := 0, slots := 0, locals := 0 } : Room) (va_Pc [.ref q9] (wr_R D (TY cT) (wm1 v) sz)) (wQi (fun (r_ : Int32) (_ : Unit) => r_ = nI (th v)) D (fun (_ : Unit) => wm1 v) (va_A (wm1 v) sz)) 0 0 (va_A (wm1 v) sz))
    (hcmp : ∀ r u a v, post r u → postm a v → r = nI (th v) ∧ (r = nI 0 → g1 u 0 = a.toInt64))
    (hroom : cells + 1 ≤ room_1.cells ∧ slots + 8 ≤ room_1.slots) (hP : va_P D vwCl ((wd ++ ou cT o g) ++ wm) H) (hD : va_D (AL s) ((wd ++ ou cT o g) ++ wm)) (hS : va_S (AL s) s.heap H locs) (hl : lv_has ls 7 [(0, .ref b), (1, .ref c9), (2, .ref q9), (3, .ref o), (4, .int (nI i))])
    (kk : ∀ r u a v H locs, post r u → postm a v → va_P D vwCl ((wd1 u ++ ou cT o (g1 u)) ++ wm1 v) H → va_D (AL s) ((wd1 u ++ ou cT o (g1 u)) ++ wm1 v) → va_S (AL s) s.heap H locs → ∀ ls, lv_has ls 7 [(0, .ref b), (1, .ref c9), (2, .ref q9), (3, .ref o), (4, .int (nI i))] → W p l e room_1 s m #[Value.ref b] below meth c H locs (cells + 1) (slots + 8) Q (F0 m 1551 ls [])) : W p l e room_1 s m #[Value.ref b] below meth c H locs cells slots Q (F0 m 1115 ls []) := by
  obtain ⟨S, hL, hX, hbs, hK, hXS⟩ := X
  have hA : ∀ q, s.heap.size ≤ q → AL s q := fun _ h => h
  refine lv_aload_n S.1 S.2.1 dL_law_1115 rfl (lv_at hl 1 rfl) ?_
  refine lv_aload_n S.1 S.2.1 dL_law_1116 rfl (lv_at hl 0 rfl) ?_
  refine lv_iload S.1 S.2.1 dL_law_1117 (lv_at hl 4 rfl) ?_
  refine lv_iconst (v := (nI 1)) S.1 S.2.1 dL_law_1119 (by decide) ?_
  refine n_add S dL_law_1120 ?_
  refine l_sld S hX hbs hS hL (by omega) e0 dL_law_1121 ?_
  refine lv_aload_n S.1 S.2.1 dL_law_1122 rfl (lv_at hl 3 rfl) ?_
  refine fr_callSi (As := [.ref c9, .int p0, .ref o]) (rest := []) (n := 3) (wc := wd ++ ou cT o g) (wr := wm) S (hW _) gL_law_L_broken rfl ⟨by decide +kernel, by decide +kernel, by decide +kernel⟩ ⟨rfl, rfl, Nat.le_of_ble_eq_true rfl, Nat.le_of_ble_eq_true rfl⟩ hP hK (XS.law hXS hS) hD hS hA hl rfl rfl (Nat.le_of_ble_eq_true rfl) hroom dL_law_1123 (fun r u H locs hp hP hD hS => ?_)
  refine lv_istore (lv' := [(5, .int r), (0, .ref b), (1, .ref c9), (2, .ref q9), (3, .ref o), (4, .int (nI i))]) S.1 S.2.1 dL_law_1126 hl (by decide) rfl (fun ls hl => ?_)
  refine lv_aload_n S.1 S.2.1 dL_law_1128 rfl (lv_at hl 3 rfl) ?_
  refine lv_aload_n S.1 S.2.1 dL_law_1129 rfl (lv_at hl 1 rfl) ?_
  refine lv_iload S.1 S.2.1 dL_law_1130 (lv_at hl 5 rfl) ?_
  refine lv_iconst (v := (nI 1)) S.1 S.2.1 dL_law_1132 (by decide) ?_
  refine n_add S dL_law_1133 ?_
  refine l_sld S hX hbs hS hL (by omega) e0 dL_law_1134 ?_
  have hP := fr_Pc hP
  have hD := fr_Dc hD
  refine fr_callVi (As := [.int p0]) (rest := []) (n := 1) (wc := wm) (wr := wd1 u ++ ou cT o (g1 u)) S (hM _) gL_law_X9_broken rfl ⟨rfl, by decide +kernel, by decide +kernel, by decide +kernel⟩ hrm hP hK hD hS hA (va_recv hK.1 (fr_l hP) (ci := 7) (q0 := 0) rfl hq) hl rfl rfl (Nat.le_of_ble_eq_true rfl) ⟨hroom.1, hroom.2⟩ dL_law_1135 (fun a v H locs hpm hP hD hS => ?_)
  refine lv_istore (lv' := [(6, .int a), (5, .int r), (0, .ref b), (1, .ref c9), (2, .ref q9), (3, .ref o), (4, .int (nI i))]) S.1 S.2.1 dL_law_1138 hl (by decide) rfl (fun ls hl => ?_)
  refine lv_aload_n S.1 S.2.1 dL_law_1140 rfl (lv_at hl 4 rfl) ?_
  obtain ⟨fsv, hqv⟩ := hqm v
  refine fr_callVi (As := []) (rest := []) (n := 0) (wc := wm1 v) (wr := wd1 u ++ ou cT o (g1 u)) S (hT v _) gL_law_X9_thrown rfl ⟨rfl, by decide +kernel, by decide +kernel, by decide +kernel⟩ ⟨rfl, rfl, Nat.le_of_ble_eq_true rfl, Nat.le_of_ble_eq_true rfl⟩ hP hK hD hS hA (va_recv hK.1 (fr_l hP) (ci := 7) (q0 := 0) rfl hqv) hl rfl rfl (Nat.le_of_ble_eq_true rfl) ⟨hroom.1, hroom.2⟩ dL_law_1141 (fun t _ H locs ht hP hD hS => ?_)
  subst ht
  obtain ⟨hc1, hc2⟩ := hcmp r u a v hp hpm
  refine lv_iload S.1 S.2.1 dL_law_1144 (lv_at hl 1 rfl) ?_
  refine lv_icmp_eq (tgt := 1151) S.1 S.2.1 dL_law_1146 (by decide) (fun _ => ?_) (fun q => absurd hc1.symm q)
  refine lv_iload S.1 S.2.1 dL_law_1151 (lv_at hl 1 rfl) ?_
  have fin : W p l e room_1 s m #[Value.ref b] below meth c H locs (cells + 1) (slots + 8) Q (F0 m 1168 ls []) := lv_goto (tgt := 1551) S.1 S.2.1 dL_law_1168 (by decide) (kk r u a v H locs hp hpm (fr_Pc hP) (fr_Dc hD) hS ls (lv_sub hl [2, 3, 4, 5, 6] rfl))
  refine lv_if_ne (tgt := 1168) S.1 S.2.1 dL_law_1153 (by decide) (fun _ => fin) (fun q0 => ?_)
  have hr0 : r = nI 0 := q0
  refine lv_aload_n S.1 S.2.1 dL_law_1156 rfl (lv_at hl 5 rfl) ?_
  refine lv_iconst (v := (nI 0)) S.1 S.2.1 dL_law_1157 (by decide) ?_
  refine g_lald (i := 0) (n := 1) (g := g1 u) S ((wd1 u).length + 0) hK (fr_r hP) (ap_at.trans rfl) (by decide) dL_law_1158 ?_
  refine lv_iload S.1 S.2.1 dL_law_1159 (lv_at hl 0 rfl) ?_
  refine lv_i2l S.1 S.2.1 dL_law_1161 rfl ?_
  exact l_leq (tgt := 1168) S (hc2 hr0) dL_law_1162 dL_law_1163 (by decide) fin
set_option maxHeartbeats 4000000 in
set_option maxRecDepth 100000 in
theorem lc_runBefore {p : Program} {l : Launch} {e : Env} {s : State} {m : MethodId} {below : List Frame} {meth : Method} {c : Code} {b L : Nat} {xs : Nat → Int32} {D : va_G} {cT : ClassId × ClassId × ClassId} {Q : State → Prop} {H : Heap} {locs : List Loc} {cells slots : Nat} {ls : Array Slot} {St1 St2 : Type} {post : Int32 → St1 → Prop} {wd1 : St1 → va_W} {g1 : St1 → Nat → Int64} {postm : Int32 → St2 → Prop} {wm1 : St2 → va_W} {th : St2 → Nat} {wd wm : va_W} {g : Nat → Int64} {rm : Room} {fs : List Value} {i c9 q9 o : Nat} (X : LA p s m meth c b L xs D cT) (hi : i + 3 < L) (p0 : Int32) (e0 : xs (i + 1) = p0)
    (hW : ∀ sz, Met l yL_runBefore wsL_runBefore ({ frames := 8, cells := 1, slots := 8, locals := 200 } : Room) (va_Pc [.ref c9, .int p0, .ref o] (wx_R D (TY cT) (wd ++ ou cT o g) sz)) (wQi post D (fun u => wd1 u ++ ou cT o (g1 u)) (va_A (wd ++ ou cT o g) sz)) 1 8 (va_A (wd ++ ou cT o g) sz))
    (hM : ∀ sz, Met l yX9_runBefore wsX9_runBefore rm (va_Pc [.ref q9, .int p0] (wr_R D (TY cT) wm sz)) (wQi postm D wm1 (va_A wm sz)) 0 0 (va_A wm sz)) (hrm : rm.cells = 0 ∧ rm.slots = 0 ∧ rm.frames + 1 ≤ room_1.frames ∧ 8 + (2 + 11) + rm.locals ≤ room_1.locals) (hq : wm[0]? = some (q9, .inr (7, fs))) (hqm : ∀ v, ∃ fs, (wm1 v)[0]? = some (q9, .inr (7, fs)))
    (hT : ∀ v sz, Met l yX9_thrown wsX9_thrown ({ frames := 0, cells := 0, slots := 0, locals := 0 } : Room) (va_Pc [.ref q9] (wr_R D (TY cT) (wm1 v) sz)) (wQi (fun (r_ : Int32) (_ : Unit) => r_ = nI (th v)) D (fun (_ : Unit) => wm1 v) (va_A (wm1 v) sz)) 0 0 (va_A (wm1 v) sz))
    (hcmp : ∀ r u a v, post r u → postm a v → r = nI (th v) ∧ (r = nI 0 → g1 u 0 = a.toInt64))
    (hroom : cells + 1 ≤ room_1.cells ∧ slots + 8 ≤ room_1.slots) (hP : va_P D vwCl ((wd ++ ou cT o g) ++ wm) H) (hD : va_D (AL s) ((wd ++ ou cT o g) ++ wm)) (hS : va_S (AL s) s.heap H locs) (hl : lv_has ls 7 [(0, .ref b), (1, .ref c9), (2, .ref q9), (3, .ref o), (4, .int (nI i))])
    (kk : ∀ r u a v H locs, post r u → postm a v → va_P D vwCl ((wd1 u ++ ou cT o (g1 u)) ++ wm1 v) H → va_D (AL s) ((wd1 u ++ ou cT o (g1 u)) ++ wm1 v) → va_S (AL s) s.heap H locs → ∀ ls, lv_has ls 7 [(0, .ref b), (1, .ref c9), (2, .ref q9), (3, .ref o), (4, .int (nI i))] → W p l e room_1 s m #[Value.ref b] below meth c H locs (cells + 1) (slots + 8) Q (F0 m 1551 ls [])) : W p l e room_1 s m #[Value.ref b] below meth c H locs cells slots Q (F0 m 1171 ls []) := by
  obtain ⟨S, hL, hX, hbs, hK, hXS⟩ := X
  have hA : ∀ q, s.heap.size ≤ q → AL s q := fun _ h => h
  refine lv_aload_n S.1 S.2.1 dL_law_1171 rfl (lv_at hl 1 rfl) ?_
  refine lv_aload_n S.1 S.2.1 dL_law_1172 rfl (lv_at hl 0 rfl) ?_
  refine lv_iload S.1 S.2.1 dL_law_1173 (lv_at hl 4 rfl) ?_
  refine lv_iconst (v := (nI 1)) S.1 S.2.1 dL_law_1175 (by decide) ?_
  refine n_add S dL_law_1176 ?_
  refine l_sld S hX hbs hS hL (by omega) e0 dL_law_1177 ?_
  refine lv_aload_n S.1 S.2.1 dL_law_1178 rfl (lv_at hl 3 rfl) ?_
  refine fr_callSi (As := [.ref c9, .int p0, .ref o]) (rest := []) (n := 3) (wc := wd ++ ou cT o g) (wr := wm) S (hW _) gL_law_L_runBefore rfl ⟨by decide +kernel, by decide +kernel, by decide +kernel⟩ ⟨rfl, rfl, Nat.le_of_ble_eq_true rfl, Nat.le_of_ble_eq_true rfl⟩ hP hK (XS.law hXS hS) hD hS hA hl rfl rfl (Nat.le_of_ble_eq_true rfl) hroom dL_law_1179 (fun r u H locs hp hP hD hS => ?_)
  refine lv_istore (lv' := [(5, .int r), (0, .ref b), (1, .ref c9), (2, .ref q9), (3, .ref o), (4, .int (nI i))]) S.1 S.2.1 dL_law_1182 hl (by decide) rfl (fun ls hl => ?_)
  refine lv_aload_n S.1 S.2.1 dL_law_1184 rfl (lv_at hl 3 rfl) ?_
  refine lv_aload_n S.1 S.2.1 dL_law_1185 rfl (lv_at hl 1 rfl) ?_
  refine lv_iload S.1 S.2.1 dL_law_1186 (lv_at hl 5 rfl) ?_
  refine lv_iconst (v := (nI 1)) S.1 S.2.1 dL_law_1188 (by decide) ?_
  refine n_add S dL_law_1189 ?_
  refine l_sld S hX hbs hS hL (by omega) e0 dL_law_1190 ?_
  have hP := fr_Pc hP
  have hD := fr_Dc hD
  refine fr_callVi (As := [.int p0]) (rest := []) (n := 1) (wc := wm) (wr := wd1 u ++ ou cT o (g1 u)) S (hM _) gL_law_X9_runBefore rfl ⟨rfl, by decide +kernel, by decide +kernel, by decide +kernel⟩ hrm hP hK hD hS hA (va_recv hK.1 (fr_l hP) (ci := 7) (q0 := 0) rfl hq) hl rfl rfl (Nat.le_of_ble_eq_true rfl) ⟨hroom.1, hroom.2⟩ dL_law_1191 (fun a v H locs hpm hP hD hS => ?_)
  refine lv_istore (lv' := [(6, .int a), (5, .int r), (0, .ref b), (1, .ref c9), (2, .ref q9), (3, .ref o), (4, .int (nI i))]) S.1 S.2.1 dL_law_1194 hl (by decide) rfl (fun ls hl => ?_)
  refine lv_aload_n S.1 S.2.1 dL_law_1196 rfl (lv_at hl 4 rfl) ?_
  obtain ⟨fsv, hqv⟩ := hqm v
  refine fr_callVi (As := []) (rest := []) (n := 0) (wc := wm1 v) (wr := wd1 u ++ ou cT o (g1 u)) S (hT v _) gL_law_X9_thrown rfl ⟨rfl, by decide +kernel, by decide +kernel, by decide +kernel⟩ ⟨rfl, rfl, Nat.le_of_ble_eq_true rfl, Nat.le_of_ble_eq_true rfl⟩ hP hK hD hS hA (va_recv hK.1 (fr_l hP) (ci := 7) (q0 := 0) rfl hqv) hl rfl rfl (Nat.le_of_ble_eq_true rfl) ⟨hroom.1, hroom.2⟩ dL_law_1197 (fun t _ H locs ht hP hD hS => ?_)
  subst ht
  obtain ⟨hc1, hc2⟩ := hcmp r u a v hp hpm
  refine lv_iload S.1 S.2.1 dL_law_1200 (lv_at hl 1 rfl) ?_
  refine lv_icmp_eq (tgt := 1207) S.1 S.2.1 dL_law_1202 (by decide) (fun _ => ?_) (fun q => absurd hc1.symm q)
  refine lv_iload S.1 S.2.1 dL_law_1207 (lv_at hl 1 rfl) ?_
  have fin : W p l e room_1 s m #[Value.ref b] below meth c H locs (cells + 1) (slots + 8) Q (F0 m 1224 ls []) := lv_goto (tgt := 1551) S.1 S.2.1 dL_law_1224 (by decide) (kk r u a v H locs hp hpm (fr_Pc hP) (fr_Dc hD) hS ls (lv_sub hl [2, 3, 4, 5, 6] rfl))
  refine lv_if_ne (tgt := 1224) S.1 S.2.1 dL_law_1209 (by decide) (fun _ => fin) (fun q0 => ?_)
  have hr0 : r = nI 0 := q0
  refine lv_aload_n S.1 S.2.1 dL_law_1212 rfl (lv_at hl 5 rfl) ?_
  refine lv_iconst (v := (nI 0)) S.1 S.2.1 dL_law_1213 (by decide) ?_
  refine g_lald (i := 0) (n := 1) (g := g1 u) S ((wd1 u).length + 0) hK (fr_r hP) (ap_at.trans rfl) (by decide) dL_law_1214 ?_
  refine lv_iload S.1 S.2.1 dL_law_1215 (lv_at hl 0 rfl) ?_
  refine lv_i2l S.1 S.2.1 dL_law_1217 rfl ?_
  exact l_leq (tgt := 1224) S (hc2 hr0) dL_law_1218 dL_law_1219 (by decide) fin
set_option maxHeartbeats 4000000 in
set_option maxRecDepth 100000 in
theorem lc_isFeasible {p : Program} {l : Launch} {e : Env} {s : State} {m : MethodId} {below : List Frame} {meth : Method} {c : Code} {b L : Nat} {xs : Nat → Int32} {D : va_G} {cT : ClassId × ClassId × ClassId} {Q : State → Prop} {H : Heap} {locs : List Loc} {cells slots : Nat} {ls : Array Slot} {St1 St2 : Type} {post : Int32 → St1 → Prop} {wd1 : St1 → va_W} {g1 : St1 → Nat → Int64} {postm : Int32 → St2 → Prop} {wm1 : St2 → va_W} {th : St2 → Nat} {wd wm : va_W} {g : Nat → Int64} {rm : Room} {fs : List Value} {i c9 q9 o : Nat} (X : LA p s m meth c b L xs D cT) (hi : i + 3 < L) (p0 : Int32) (e0 : xs (i + 1) = p0)
    (hW : ∀ sz, Met l yL_isFeasible wsL_isFeasible ({ frames := 8, cells := 1, slots := 8, locals := 200 } : Room) (va_Pc [.ref c9, .int p0, .ref o] (wx_R D (TY cT) (wd ++ ou cT o g) sz)) (wQi post D (fun u => wd1 u ++ ou cT o (g1 u)) (va_A (wd ++ ou cT o g) sz)) 1 8 (va_A (wd ++ ou cT o g) sz))
    (hM : ∀ sz, Met l yX9_isFeasible wsX9_isFeasible rm (va_Pc [.ref q9, .int p0] (wr_R D (TY cT) wm sz)) (wQi postm D wm1 (va_A wm sz)) 0 0 (va_A wm sz)) (hrm : rm.cells = 0 ∧ rm.slots = 0 ∧ rm.frames + 1 ≤ room_1.frames ∧ 8 + (2 + 11) + rm.locals ≤ room_1.locals) (hq : wm[0]? = some (q9, .inr (7, fs))) (hqm : ∀ v, ∃ fs, (wm1 v)[0]? = some (q9, .inr (7, fs)))
    (hT : ∀ v sz, Met l yX9_thrown wsX9_thrown ({ frames := 0, cells := 0, slots := 0, locals := 0 } : Room) (va_Pc [.ref q9] (wr_R D (TY cT) (wm1 v) sz)) (wQi (fun (r_ : Int32) (_ : Unit) => r_ = nI (th v)) D (fun (_ : Unit) => wm1 v) (va_A (wm1 v) sz)) 0 0 (va_A (wm1 v) sz))
    (hcmp : ∀ r u a v, post r u → postm a v → r = nI (th v) ∧ (r = nI 0 → g1 u 0 = bl a))
    (hroom : cells + 1 ≤ room_1.cells ∧ slots + 8 ≤ room_1.slots) (hP : va_P D vwCl ((wd ++ ou cT o g) ++ wm) H) (hD : va_D (AL s) ((wd ++ ou cT o g) ++ wm)) (hS : va_S (AL s) s.heap H locs) (hl : lv_has ls 7 [(0, .ref b), (1, .ref c9), (2, .ref q9), (3, .ref o), (4, .int (nI i))])
    (kk : ∀ r u a v H locs, post r u → postm a v → va_P D vwCl ((wd1 u ++ ou cT o (g1 u)) ++ wm1 v) H → va_D (AL s) ((wd1 u ++ ou cT o (g1 u)) ++ wm1 v) → va_S (AL s) s.heap H locs → ∀ ls, lv_has ls 7 [(0, .ref b), (1, .ref c9), (2, .ref q9), (3, .ref o), (4, .int (nI i))] → W p l e room_1 s m #[Value.ref b] below meth c H locs (cells + 1) (slots + 8) Q (F0 m 1551 ls [])) : W p l e room_1 s m #[Value.ref b] below meth c H locs cells slots Q (F0 m 1227 ls []) := by
  obtain ⟨S, hL, hX, hbs, hK, hXS⟩ := X
  have hA : ∀ q, s.heap.size ≤ q → AL s q := fun _ h => h
  refine lv_aload_n S.1 S.2.1 dL_law_1227 rfl (lv_at hl 1 rfl) ?_
  refine lv_aload_n S.1 S.2.1 dL_law_1228 rfl (lv_at hl 0 rfl) ?_
  refine lv_iload S.1 S.2.1 dL_law_1229 (lv_at hl 4 rfl) ?_
  refine lv_iconst (v := (nI 1)) S.1 S.2.1 dL_law_1231 (by decide) ?_
  refine n_add S dL_law_1232 ?_
  refine l_sld S hX hbs hS hL (by omega) e0 dL_law_1233 ?_
  refine lv_aload_n S.1 S.2.1 dL_law_1234 rfl (lv_at hl 3 rfl) ?_
  refine fr_callSi (As := [.ref c9, .int p0, .ref o]) (rest := []) (n := 3) (wc := wd ++ ou cT o g) (wr := wm) S (hW _) gL_law_L_isFeasible rfl ⟨by decide +kernel, by decide +kernel, by decide +kernel⟩ ⟨rfl, rfl, Nat.le_of_ble_eq_true rfl, Nat.le_of_ble_eq_true rfl⟩ hP hK (XS.law hXS hS) hD hS hA hl rfl rfl (Nat.le_of_ble_eq_true rfl) hroom dL_law_1235 (fun r u H locs hp hP hD hS => ?_)
  refine lv_istore (lv' := [(5, .int r), (0, .ref b), (1, .ref c9), (2, .ref q9), (3, .ref o), (4, .int (nI i))]) S.1 S.2.1 dL_law_1238 hl (by decide) rfl (fun ls hl => ?_)
  refine lv_aload_n S.1 S.2.1 dL_law_1240 rfl (lv_at hl 3 rfl) ?_
  refine lv_aload_n S.1 S.2.1 dL_law_1241 rfl (lv_at hl 1 rfl) ?_
  refine lv_iload S.1 S.2.1 dL_law_1242 (lv_at hl 5 rfl) ?_
  refine lv_iconst (v := (nI 1)) S.1 S.2.1 dL_law_1244 (by decide) ?_
  refine n_add S dL_law_1245 ?_
  refine l_sld S hX hbs hS hL (by omega) e0 dL_law_1246 ?_
  have hP := fr_Pc hP
  have hD := fr_Dc hD
  refine fr_callVi (As := [.int p0]) (rest := []) (n := 1) (wc := wm) (wr := wd1 u ++ ou cT o (g1 u)) S (hM _) gL_law_X9_isFeasible rfl ⟨rfl, by decide +kernel, by decide +kernel, by decide +kernel⟩ hrm hP hK hD hS hA (va_recv hK.1 (fr_l hP) (ci := 7) (q0 := 0) rfl hq) hl rfl rfl (Nat.le_of_ble_eq_true rfl) ⟨hroom.1, hroom.2⟩ dL_law_1247 (fun a v H locs hpm hP hD hS => ?_)
  refine lv_istore (lv' := [(6, .int a), (5, .int r), (0, .ref b), (1, .ref c9), (2, .ref q9), (3, .ref o), (4, .int (nI i))]) S.1 S.2.1 dL_law_1250 hl (by decide) rfl (fun ls hl => ?_)
  refine lv_aload_n S.1 S.2.1 dL_law_1252 rfl (lv_at hl 4 rfl) ?_
  obtain ⟨fsv, hqv⟩ := hqm v
  refine fr_callVi (As := []) (rest := []) (n := 0) (wc := wm1 v) (wr := wd1 u ++ ou cT o (g1 u)) S (hT v _) gL_law_X9_thrown rfl ⟨rfl, by decide +kernel, by decide +kernel, by decide +kernel⟩ ⟨rfl, rfl, Nat.le_of_ble_eq_true rfl, Nat.le_of_ble_eq_true rfl⟩ hP hK hD hS hA (va_recv hK.1 (fr_l hP) (ci := 7) (q0 := 0) rfl hqv) hl rfl rfl (Nat.le_of_ble_eq_true rfl) ⟨hroom.1, hroom.2⟩ dL_law_1253 (fun t _ H locs ht hP hD hS => ?_)
  subst ht
  obtain ⟨hc1, hc2⟩ := hcmp r u a v hp hpm
  refine lv_iload S.1 S.2.1 dL_law_1256 (lv_at hl 1 rfl) ?_
  refine lv_icmp_eq (tgt := 1263) S.1 S.2.1 dL_law_1258 (by decide) (fun _ => ?_) (fun q => absurd hc1.symm q)
  refine lv_iload S.1 S.2.1 dL_law_1263 (lv_at hl 1 rfl) ?_
  have fin : W p l e room_1 s m #[Value.ref b] below meth c H locs (cells + 1) (slots + 8) Q (F0 m 1287 ls []) := lv_goto (tgt := 1551) S.1 S.2.1 dL_law_1287 (by decide) (kk r u a v H locs hp hpm (fr_Pc hP) (fr_Dc hD) hS ls (lv_sub hl [2, 3, 4, 5, 6] rfl))
  refine lv_if_ne (tgt := 1287) S.1 S.2.1 dL_law_1265 (by decide) (fun _ => fin) (fun q0 => ?_)
  have hr0 : r = nI 0 := q0
  refine lv_aload_n S.1 S.2.1 dL_law_1268 rfl (lv_at hl 5 rfl) ?_
  refine lv_iconst (v := (nI 0)) S.1 S.2.1 dL_law_1269 (by decide) ?_
  refine g_lald (i := 0) (n := 1) (g := g1 u) S ((wd1 u).length + 0) hK (fr_r hP) (ap_at.trans rfl) (by decide) dL_law_1270 ?_
  refine lv_iload S.1 S.2.1 dL_law_1271 (lv_at hl 0 rfl) ?_
  refine l_bl (t := 1280) (j := 1281) S dL_law_1273 dL_law_1276 dL_law_1277 dL_law_1280 (by decide) (by decide) rfl ?_
  exact l_leq (tgt := 1287) S (hc2 hr0) dL_law_1281 dL_law_1282 (by decide) fin
set_option maxHeartbeats 4000000 in
set_option maxRecDepth 100000 in
theorem lc_weeks {p : Program} {l : Launch} {e : Env} {s : State} {m : MethodId} {below : List Frame} {meth : Method} {c : Code} {b L : Nat} {xs : Nat → Int32} {D : va_G} {cT : ClassId × ClassId × ClassId} {Q : State → Prop} {H : Heap} {locs : List Loc} {cells slots : Nat} {ls : Array Slot} {St1 St2 : Type} {post : Int32 → St1 → Prop} {wd1 : St1 → va_W} {g1 : St1 → Nat → Int64} {postm : Int32 → St2 → Prop} {wm1 : St2 → va_W} {th : St2 → Nat} {wd wm : va_W} {g : Nat → Int64} {rm : Room} {fs : List Value} {i c9 q9 o : Nat} (X : LA p s m meth c b L xs D cT) (hi : i + 3 < L) (p0 : Int32) (e0 : xs (i + 1) = p0)
    (hW : ∀ sz, Met l yL_weeks wsL_weeks ({ frames := 8, cells := 1, slots := 8, locals := 200 } : Room) (va_Pc [.ref c9, .int p0, .ref o] (wx_R D (TY cT) (wd ++ ou cT o g) sz)) (wQi post D (fun u => wd1 u ++ ou cT o (g1 u)) (va_A (wd ++ ou cT o g) sz)) 1 8 (va_A (wd ++ ou cT o g) sz))
    (hM : ∀ sz, Met l yX9_weeks wsX9_weeks rm (va_Pc [.ref q9, .int p0] (wr_R D (TY cT) wm sz)) (wQi postm D wm1 (va_A wm sz)) 0 0 (va_A wm sz)) (hrm : rm.cells = 0 ∧ rm.slots = 0 ∧ rm.frames + 1 ≤ room_1.frames ∧ 8 + (2 + 11) + rm.locals ≤ room_1.locals) (hq : wm[0]? = some (q9, .inr (7, fs))) (hqm : ∀ v, ∃ fs, (wm1 v)[0]? = some (q9, .inr (7, fs)))
    (hT : ∀ v sz, Met l yX9_thrown wsX9_thrown ({ frames := 0, cells := 0, slots := 0, locals := 0 } : Room) (va_Pc [.ref q9] (wr_R D (TY cT) (wm1 v) sz)) (wQi (fun (r_ : Int32) (_ : Unit) => r_ = nI (th v)) D (fun (_ : Unit) => wm1 v) (va_A (wm1 v) sz)) 0 0 (va_A (wm1 v) sz))
    (hcmp : ∀ r u a v, post r u → postm a v → r = nI (th v) ∧ (r = nI 0 → g1 u 0 = a.toInt64))
    (hroom : cells + 1 ≤ room_1.cells ∧ slots + 8 ≤ room_1.slots) (hP : va_P D vwCl ((wd ++ ou cT o g) ++ wm) H) (hD : va_D (AL s) ((wd ++ ou cT o g) ++ wm)) (hS : va_S (AL s) s.heap H locs) (hl : lv_has ls 7 [(0, .ref b), (1, .ref c9), (2, .ref q9), (3, .ref o), (4, .int (nI i))])
    (kk : ∀ r u a v H locs, post r u → postm a v → va_P D vwCl ((wd1 u ++ ou cT o (g1 u)) ++ wm1 v) H → va_D (AL s) ((wd1 u ++ ou cT o (g1 u)) ++ wm1 v) → va_S (AL s) s.heap H locs → ∀ ls, lv_has ls 7 [(0, .ref b), (1, .ref c9), (2, .ref q9), (3, .ref o), (4, .int (nI i))] → W p l e room_1 s m #[Value.ref b] below meth c H locs (cells + 1) (slots + 8) Q (F0 m 1551 ls [])) : W p l e room_1 s m #[Value.ref b] below meth c H locs cells slots Q (F0 m 1290 ls []) := by
  obtain ⟨S, hL, hX, hbs, hK, hXS⟩ := X
  have hA : ∀ q, s.heap.size ≤ q → AL s q := fun _ h => h
  refine lv_aload_n S.1 S.2.1 dL_law_1290 rfl (lv_at hl 1 rfl) ?_
  refine lv_aload_n S.1 S.2.1 dL_law_1291 rfl (lv_at hl 0 rfl) ?_
  refine lv_iload S.1 S.2.1 dL_law_1292 (lv_at hl 4 rfl) ?_
  refine lv_iconst (v := (nI 1)) S.1 S.2.1 dL_law_1294 (by decide) ?_
  refine n_add S dL_law_1295 ?_
  refine l_sld S hX hbs hS hL (by omega) e0 dL_law_1296 ?_
  refine lv_aload_n S.1 S.2.1 dL_law_1297 rfl (lv_at hl 3 rfl) ?_
  refine fr_callSi (As := [.ref c9, .int p0, .ref o]) (rest := []) (n := 3) (wc := wd ++ ou cT o g) (wr := wm) S (hW _) gL_law_L_weeks rfl ⟨by decide +kernel, by decide +kernel, by decide +kernel⟩ ⟨rfl, rfl, Nat.le_of_ble_eq_true rfl, Nat.le_of_ble_eq_true rfl⟩ hP hK (XS.law hXS hS) hD hS hA hl rfl rfl (Nat.le_of_ble_eq_true rfl) hroom dL_law_1298 (fun r u H locs hp hP hD hS => ?_)
  refine lv_istore (lv' := [(5, .int r), (0, .ref b), (1, .ref c9), (2, .ref q9), (3, .ref o), (4, .int (nI i))]) S.1 S.2.1 dL_law_1301 hl (by decide) rfl (fun ls hl => ?_)
  refine lv_aload_n S.1 S.2.1 dL_law_1303 rfl (lv_at hl 3 rfl) ?_
  refine lv_aload_n S.1 S.2.1 dL_law_1304 rfl (lv_at hl 1 rfl) ?_
  refine lv_iload S.1 S.2.1 dL_law_1305 (lv_at hl 5 rfl) ?_
  refine lv_iconst (v := (nI 1)) S.1 S.2.1 dL_law_1307 (by decide) ?_
  refine n_add S dL_law_1308 ?_
  refine l_sld S hX hbs hS hL (by omega) e0 dL_law_1309 ?_
  have hP := fr_Pc hP
  have hD := fr_Dc hD
  refine fr_callVi (As := [.int p0]) (rest := []) (n := 1) (wc := wm) (wr := wd1 u ++ ou cT o (g1 u)) S (hM _) gL_law_X9_weeks rfl ⟨rfl, by decide +kernel, by decide +kernel, by decide +kernel⟩ hrm hP hK hD hS hA (va_recv hK.1 (fr_l hP) (ci := 7) (q0 := 0) rfl hq) hl rfl rfl (Nat.le_of_ble_eq_true rfl) ⟨hroom.1, hroom.2⟩ dL_law_1310 (fun a v H locs hpm hP hD hS => ?_)
  refine lv_istore (lv' := [(6, .int a), (5, .int r), (0, .ref b), (1, .ref c9), (2, .ref q9), (3, .ref o), (4, .int (nI i))]) S.1 S.2.1 dL_law_1313 hl (by decide) rfl (fun ls hl => ?_)
  refine lv_aload_n S.1 S.2.1 dL_law_1315 rfl (lv_at hl 4 rfl) ?_
  obtain ⟨fsv, hqv⟩ := hqm v
  refine fr_callVi (As := []) (rest := []) (n := 0) (wc := wm1 v) (wr := wd1 u ++ ou cT o (g1 u)) S (hT v _) gL_law_X9_thrown rfl ⟨rfl, by decide +kernel, by decide +kernel, by decide +kernel⟩ ⟨rfl, rfl, Nat.le_of_ble_eq_true rfl, Nat.le_of_ble_eq_true rfl⟩ hP hK hD hS hA (va_recv hK.1 (fr_l hP) (ci := 7) (q0 := 0) rfl hqv) hl rfl rfl (Nat.le_of_ble_eq_true rfl) ⟨hroom.1, hroom.2⟩ dL_law_1316 (fun t _ H locs ht hP hD hS => ?_)
  subst ht
  obtain ⟨hc1, hc2⟩ := hcmp r u a v hp hpm
  refine lv_iload S.1 S.2.1 dL_law_1319 (lv_at hl 1 rfl) ?_
  refine lv_icmp_eq (tgt := 1326) S.1 S.2.1 dL_law_1321 (by decide) (fun _ => ?_) (fun q => absurd hc1.symm q)
  refine lv_iload S.1 S.2.1 dL_law_1326 (lv_at hl 1 rfl) ?_
  have fin : W p l e room_1 s m #[Value.ref b] below meth c H locs (cells + 1) (slots + 8) Q (F0 m 1343 ls []) := lv_goto (tgt := 1551) S.1 S.2.1 dL_law_1343 (by decide) (kk r u a v H locs hp hpm (fr_Pc hP) (fr_Dc hD) hS ls (lv_sub hl [2, 3, 4, 5, 6] rfl))
  refine lv_if_ne (tgt := 1343) S.1 S.2.1 dL_law_1328 (by decide) (fun _ => fin) (fun q0 => ?_)
  have hr0 : r = nI 0 := q0
  refine lv_aload_n S.1 S.2.1 dL_law_1331 rfl (lv_at hl 5 rfl) ?_
  refine lv_iconst (v := (nI 0)) S.1 S.2.1 dL_law_1332 (by decide) ?_
  refine g_lald (i := 0) (n := 1) (g := g1 u) S ((wd1 u).length + 0) hK (fr_r hP) (ap_at.trans rfl) (by decide) dL_law_1333 ?_
  refine lv_iload S.1 S.2.1 dL_law_1334 (lv_at hl 0 rfl) ?_
  refine lv_i2l S.1 S.2.1 dL_law_1336 rfl ?_
  exact l_leq (tgt := 1343) S (hc2 hr0) dL_law_1337 dL_law_1338 (by decide) fin
set_option maxHeartbeats 4000000 in
set_option maxRecDepth 100000 in
theorem lc_weeksByDays {p : Program} {l : Launch} {e : Env} {s : State} {m : MethodId} {below : List Frame} {meth : Method} {c : Code} {b L : Nat} {xs : Nat → Int32} {D : va_G} {cT : ClassId × ClassId × ClassId} {Q : State → Prop} {H : Heap} {locs : List Loc} {cells slots : Nat} {ls : Array Slot} {St1 St2 : Type} {post : Int32 → St1 → Prop} {wd1 : St1 → va_W} {g1 : St1 → Nat → Int64} {postm : Int32 → St2 → Prop} {wm1 : St2 → va_W} {th : St2 → Nat} {wd wm : va_W} {g : Nat → Int64} {rm : Room} {fs : List Value} {i c9 q9 o : Nat} (X : LA p s m meth c b L xs D cT) (hi : i + 3 < L) (p0 : Int32) (e0 : xs (i + 1) = p0)
    (hW : ∀ sz, Met l yL_weeksByDays wsL_weeksByDays ({ frames := 8, cells := 1, slots := 8, locals := 200 } : Room) (va_Pc [.ref c9, .int p0, .ref o] (wx_R D (TY cT) (wd ++ ou cT o g) sz)) (wQi post D (fun u => wd1 u ++ ou cT o (g1 u)) (va_A (wd ++ ou cT o g) sz)) 1 8 (va_A (wd ++ ou cT o g) sz))
    (hM : ∀ sz, Met l yX9_weeksByDays wsX9_weeksByDays rm (va_Pc [.ref q9, .int p0] (wr_R D (TY cT) wm sz)) (wQi postm D wm1 (va_A wm sz)) 0 0 (va_A wm sz)) (hrm : rm.cells = 0 ∧ rm.slots = 0 ∧ rm.frames + 1 ≤ room_1.frames ∧ 8 + (2 + 11) + rm.locals ≤ room_1.locals) (hq : wm[0]? = some (q9, .inr (7, fs))) (hqm : ∀ v, ∃ fs, (wm1 v)[0]? = some (q9, .inr (7, fs)))
    (hT : ∀ v sz, Met l yX9_thrown wsX9_thrown ({ frames := 0, cells := 0, slots := 0, locals := 0 } : Room) (va_Pc [.ref q9] (wr_R D (TY cT) (wm1 v) sz)) (wQi (fun (r_ : Int32) (_ : Unit) => r_ = nI (th v)) D (fun (_ : Unit) => wm1 v) (va_A (wm1 v) sz)) 0 0 (va_A (wm1 v) sz))
    (hcmp : ∀ r u a v, post r u → postm a v → r = nI (th v) ∧ (r = nI 0 → g1 u 0 = a.toInt64))
    (hroom : cells + 1 ≤ room_1.cells ∧ slots + 8 ≤ room_1.slots) (hP : va_P D vwCl ((wd ++ ou cT o g) ++ wm) H) (hD : va_D (AL s) ((wd ++ ou cT o g) ++ wm)) (hS : va_S (AL s) s.heap H locs) (hl : lv_has ls 7 [(0, .ref b), (1, .ref c9), (2, .ref q9), (3, .ref o), (4, .int (nI i))])
    (kk : ∀ r u a v H locs, post r u → postm a v → va_P D vwCl ((wd1 u ++ ou cT o (g1 u)) ++ wm1 v) H → va_D (AL s) ((wd1 u ++ ou cT o (g1 u)) ++ wm1 v) → va_S (AL s) s.heap H locs → ∀ ls, lv_has ls 7 [(0, .ref b), (1, .ref c9), (2, .ref q9), (3, .ref o), (4, .int (nI i))] → W p l e room_1 s m #[Value.ref b] below meth c H locs (cells + 1) (slots + 8) Q (F0 m 1551 ls [])) : W p l e room_1 s m #[Value.ref b] below meth c H locs cells slots Q (F0 m 1346 ls []) := by
  obtain ⟨S, hL, hX, hbs, hK, hXS⟩ := X
  have hA : ∀ q, s.heap.size ≤ q → AL s q := fun _ h => h
  refine lv_aload_n S.1 S.2.1 dL_law_1346 rfl (lv_at hl 1 rfl) ?_
  refine lv_aload_n S.1 S.2.1 dL_law_1347 rfl (lv_at hl 0 rfl) ?_
  refine lv_iload S.1 S.2.1 dL_law_1348 (lv_at hl 4 rfl) ?_
  refine lv_iconst (v := (nI 1)) S.1 S.2.1 dL_law_1350 (by decide) ?_
  refine n_add S dL_law_1351 ?_
  refine l_sld S hX hbs hS hL (by omega) e0 dL_law_1352 ?_
  refine lv_aload_n S.1 S.2.1 dL_law_1353 rfl (lv_at hl 3 rfl) ?_
  refine fr_callSi (As := [.ref c9, .int p0, .ref o]) (rest := []) (n := 3) (wc := wd ++ ou cT o g) (wr := wm) S (hW _) gL_law_L_weeksByDays rfl ⟨by decide +kernel, by decide +kernel, by decide +kernel⟩ ⟨rfl, rfl, Nat.le_of_ble_eq_true rfl, Nat.le_of_ble_eq_true rfl⟩ hP hK (XS.law hXS hS) hD hS hA hl rfl rfl (Nat.le_of_ble_eq_true rfl) hroom dL_law_1354 (fun r u H locs hp hP hD hS => ?_)
  refine lv_istore (lv' := [(5, .int r), (0, .ref b), (1, .ref c9), (2, .ref q9), (3, .ref o), (4, .int (nI i))]) S.1 S.2.1 dL_law_1357 hl (by decide) rfl (fun ls hl => ?_)
  refine lv_aload_n S.1 S.2.1 dL_law_1359 rfl (lv_at hl 3 rfl) ?_
  refine lv_aload_n S.1 S.2.1 dL_law_1360 rfl (lv_at hl 1 rfl) ?_
  refine lv_iload S.1 S.2.1 dL_law_1361 (lv_at hl 5 rfl) ?_
  refine lv_iconst (v := (nI 1)) S.1 S.2.1 dL_law_1363 (by decide) ?_
  refine n_add S dL_law_1364 ?_
  refine l_sld S hX hbs hS hL (by omega) e0 dL_law_1365 ?_
  have hP := fr_Pc hP
  have hD := fr_Dc hD
  refine fr_callVi (As := [.int p0]) (rest := []) (n := 1) (wc := wm) (wr := wd1 u ++ ou cT o (g1 u)) S (hM _) gL_law_X9_weeksByDays rfl ⟨rfl, by decide +kernel, by decide +kernel, by decide +kernel⟩ hrm hP hK hD hS hA (va_recv hK.1 (fr_l hP) (ci := 7) (q0 := 0) rfl hq) hl rfl rfl (Nat.le_of_ble_eq_true rfl) ⟨hroom.1, hroom.2⟩ dL_law_1366 (fun a v H locs hpm hP hD hS => ?_)
  refine lv_istore (lv' := [(6, .int a), (5, .int r), (0, .ref b), (1, .ref c9), (2, .ref q9), (3, .ref o), (4, .int (nI i))]) S.1 S.2.1 dL_law_1369 hl (by decide) rfl (fun ls hl => ?_)
  refine lv_aload_n S.1 S.2.1 dL_law_1371 rfl (lv_at hl 4 rfl) ?_
  obtain ⟨fsv, hqv⟩ := hqm v
  refine fr_callVi (As := []) (rest := []) (n := 0) (wc := wm1 v) (wr := wd1 u ++ ou cT o (g1 u)) S (hT v _) gL_law_X9_thrown rfl ⟨rfl, by decide +kernel, by decide +kernel, by decide +kernel⟩ ⟨rfl, rfl, Nat.le_of_ble_eq_true rfl, Nat.le_of_ble_eq_true rfl⟩ hP hK hD hS hA (va_recv hK.1 (fr_l hP) (ci := 7) (q0 := 0) rfl hqv) hl rfl rfl (Nat.le_of_ble_eq_true rfl) ⟨hroom.1, hroom.2⟩ dL_law_1372 (fun t _ H locs ht hP hD hS => ?_)
  subst ht
  obtain ⟨hc1, hc2⟩ := hcmp r u a v hp hpm
  refine lv_iload S.1 S.2.1 dL_law_1375 (lv_at hl 1 rfl) ?_
  refine lv_icmp_eq (tgt := 1382) S.1 S.2.1 dL_law_1377 (by decide) (fun _ => ?_) (fun q => absurd hc1.symm q)
  refine lv_iload S.1 S.2.1 dL_law_1382 (lv_at hl 1 rfl) ?_
  have fin : W p l e room_1 s m #[Value.ref b] below meth c H locs (cells + 1) (slots + 8) Q (F0 m 1399 ls []) := lv_goto (tgt := 1551) S.1 S.2.1 dL_law_1399 (by decide) (kk r u a v H locs hp hpm (fr_Pc hP) (fr_Dc hD) hS ls (lv_sub hl [2, 3, 4, 5, 6] rfl))
  refine lv_if_ne (tgt := 1399) S.1 S.2.1 dL_law_1384 (by decide) (fun _ => fin) (fun q0 => ?_)
  have hr0 : r = nI 0 := q0
  refine lv_aload_n S.1 S.2.1 dL_law_1387 rfl (lv_at hl 5 rfl) ?_
  refine lv_iconst (v := (nI 0)) S.1 S.2.1 dL_law_1388 (by decide) ?_
  refine g_lald (i := 0) (n := 1) (g := g1 u) S ((wd1 u).length + 0) hK (fr_r hP) (ap_at.trans rfl) (by decide) dL_law_1389 ?_
  refine lv_iload S.1 S.2.1 dL_law_1390 (lv_at hl 0 rfl) ?_
  refine lv_i2l S.1 S.2.1 dL_law_1392 rfl ?_
  exact l_leq (tgt := 1399) S (hc2 hr0) dL_law_1393 dL_law_1394 (by decide) fin
set_option maxHeartbeats 4000000 in
set_option maxRecDepth 100000 in
theorem lc_couldTake {p : Program} {l : Launch} {e : Env} {s : State} {m : MethodId} {below : List Frame} {meth : Method} {c : Code} {b L : Nat} {xs : Nat → Int32} {D : va_G} {cT : ClassId × ClassId × ClassId} {Q : State → Prop} {H : Heap} {locs : List Loc} {cells slots : Nat} {ls : Array Slot} {St1 St2 : Type} {post : Int32 → St1 → Prop} {wd1 : St1 → va_W} {g1 : St1 → Nat → Int64} {postm : Int32 → St2 → Prop} {wm1 : St2 → va_W} {th : St2 → Nat} {wd wm : va_W} {g : Nat → Int64} {rm : Room} {fs : List Value} {i c9 q9 o : Nat} (X : LA p s m meth c b L xs D cT) (hi : i + 3 < L) (p0 : Int32) (p1 : Int32) (e0 : xs (i + 1) = p0) (e1 : xs (i + 2) = p1)
    (hW : ∀ sz, Met l yL_couldTake wsL_couldTake ({ frames := 8, cells := 1, slots := 8, locals := 200 } : Room) (va_Pc [.ref c9, .int p0, .int p1, .ref o] (wx_R D (TY cT) (wd ++ ou cT o g) sz)) (wQi post D (fun u => wd1 u ++ ou cT o (g1 u)) (va_A (wd ++ ou cT o g) sz)) 1 8 (va_A (wd ++ ou cT o g) sz))
    (hM : ∀ sz, Met l yX9_couldTake wsX9_couldTake rm (va_Pc [.ref q9, .int p0, .int p1] (wr_R D (TY cT) wm sz)) (wQi postm D wm1 (va_A wm sz)) 0 0 (va_A wm sz)) (hrm : rm.cells = 0 ∧ rm.slots = 0 ∧ rm.frames + 1 ≤ room_1.frames ∧ 8 + (6 + 11) + rm.locals ≤ room_1.locals) (hq : wm[0]? = some (q9, .inr (7, fs))) (hqm : ∀ v, ∃ fs, (wm1 v)[0]? = some (q9, .inr (7, fs)))
    (hT : ∀ v sz, Met l yX9_thrown wsX9_thrown ({ frames := 0, cells := 0, slots := 0, locals := 0 } : Room) (va_Pc [.ref q9] (wr_R D (TY cT) (wm1 v) sz)) (wQi (fun (r_ : Int32) (_ : Unit) => r_ = nI (th v)) D (fun (_ : Unit) => wm1 v) (va_A (wm1 v) sz)) 0 0 (va_A (wm1 v) sz))
    (hcmp : ∀ r u a v, post r u → postm a v → r = nI (th v) ∧ (r = nI 0 → g1 u 0 = a.toInt64))
    (hroom : cells + 1 ≤ room_1.cells ∧ slots + 8 ≤ room_1.slots) (hP : va_P D vwCl ((wd ++ ou cT o g) ++ wm) H) (hD : va_D (AL s) ((wd ++ ou cT o g) ++ wm)) (hS : va_S (AL s) s.heap H locs) (hl : lv_has ls 7 [(0, .ref b), (1, .ref c9), (2, .ref q9), (3, .ref o), (4, .int (nI i))])
    (kk : ∀ r u a v H locs, post r u → postm a v → va_P D vwCl ((wd1 u ++ ou cT o (g1 u)) ++ wm1 v) H → va_D (AL s) ((wd1 u ++ ou cT o (g1 u)) ++ wm1 v) → va_S (AL s) s.heap H locs → ∀ ls, lv_has ls 7 [(0, .ref b), (1, .ref c9), (2, .ref q9), (3, .ref o), (4, .int (nI i))] → W p l e room_1 s m #[Value.ref b] below meth c H locs (cells + 1) (slots + 8) Q (F0 m 1551 ls [])) : W p l e room_1 s m #[Value.ref b] below meth c H locs cells slots Q (F0 m 1402 ls []) := by
  obtain ⟨S, hL, hX, hbs, hK, hXS⟩ := X
  have hA : ∀ q, s.heap.size ≤ q → AL s q := fun _ h => h
  refine lv_aload_n S.1 S.2.1 dL_law_1402 rfl (lv_at hl 1 rfl) ?_
  refine lv_aload_n S.1 S.2.1 dL_law_1403 rfl (lv_at hl 0 rfl) ?_
  refine lv_iload S.1 S.2.1 dL_law_1404 (lv_at hl 4 rfl) ?_
  refine lv_iconst (v := (nI 1)) S.1 S.2.1 dL_law_1406 (by decide) ?_
  refine n_add S dL_law_1407 ?_
  refine l_sld S hX hbs hS hL (by omega) e0 dL_law_1408 ?_
  refine lv_aload_n S.1 S.2.1 dL_law_1409 rfl (lv_at hl 0 rfl) ?_
  refine lv_iload S.1 S.2.1 dL_law_1410 (lv_at hl 4 rfl) ?_
  refine lv_iconst (v := (nI 2)) S.1 S.2.1 dL_law_1412 (by decide) ?_
  refine n_add S dL_law_1413 ?_
  refine l_sld S hX hbs hS hL (by omega) e1 dL_law_1414 ?_
  refine lv_aload_n S.1 S.2.1 dL_law_1415 rfl (lv_at hl 3 rfl) ?_
  refine fr_callSi (As := [.ref c9, .int p0, .int p1, .ref o]) (rest := []) (n := 4) (wc := wd ++ ou cT o g) (wr := wm) S (hW _) gL_law_L_couldTake rfl ⟨by decide +kernel, by decide +kernel, by decide +kernel⟩ ⟨rfl, rfl, Nat.le_of_ble_eq_true rfl, Nat.le_of_ble_eq_true rfl⟩ hP hK (XS.law hXS hS) hD hS hA hl rfl rfl (Nat.le_of_ble_eq_true rfl) hroom dL_law_1416 (fun r u H locs hp hP hD hS => ?_)
  refine lv_istore (lv' := [(5, .int r), (0, .ref b), (1, .ref c9), (2, .ref q9), (3, .ref o), (4, .int (nI i))]) S.1 S.2.1 dL_law_1419 hl (by decide) rfl (fun ls hl => ?_)
  refine lv_aload_n S.1 S.2.1 dL_law_1421 rfl (lv_at hl 3 rfl) ?_
  refine lv_aload_n S.1 S.2.1 dL_law_1422 rfl (lv_at hl 1 rfl) ?_
  refine lv_iload S.1 S.2.1 dL_law_1423 (lv_at hl 5 rfl) ?_
  refine lv_iconst (v := (nI 1)) S.1 S.2.1 dL_law_1425 (by decide) ?_
  refine n_add S dL_law_1426 ?_
  refine l_sld S hX hbs hS hL (by omega) e0 dL_law_1427 ?_
  refine lv_aload_n S.1 S.2.1 dL_law_1428 rfl (lv_at hl 1 rfl) ?_
  refine lv_iload S.1 S.2.1 dL_law_1429 (lv_at hl 5 rfl) ?_
  refine lv_iconst (v := (nI 2)) S.1 S.2.1 dL_law_1431 (by decide) ?_
  refine n_add S dL_law_1432 ?_
  refine l_sld S hX hbs hS hL (by omega) e1 dL_law_1433 ?_
  have hP := fr_Pc hP
  have hD := fr_Dc hD
  refine fr_callVi (As := [.int p0, .int p1]) (rest := []) (n := 2) (wc := wm) (wr := wd1 u ++ ou cT o (g1 u)) S (hM _) gL_law_X9_couldTake rfl ⟨rfl, by decide +kernel, by decide +kernel, by decide +kernel⟩ hrm hP hK hD hS hA (va_recv hK.1 (fr_l hP) (ci := 7) (q0 := 0) rfl hq) hl rfl rfl (Nat.le_of_ble_eq_true rfl) ⟨hroom.1, hroom.2⟩ dL_law_1434 (fun a v H locs hpm hP hD hS => ?_)
  refine lv_istore (lv' := [(6, .int a), (5, .int r), (0, .ref b), (1, .ref c9), (2, .ref q9), (3, .ref o), (4, .int (nI i))]) S.1 S.2.1 dL_law_1437 hl (by decide) rfl (fun ls hl => ?_)
  refine lv_aload_n S.1 S.2.1 dL_law_1439 rfl (lv_at hl 4 rfl) ?_
  obtain ⟨fsv, hqv⟩ := hqm v
  refine fr_callVi (As := []) (rest := []) (n := 0) (wc := wm1 v) (wr := wd1 u ++ ou cT o (g1 u)) S (hT v _) gL_law_X9_thrown rfl ⟨rfl, by decide +kernel, by decide +kernel, by decide +kernel⟩ ⟨rfl, rfl, Nat.le_of_ble_eq_true rfl, Nat.le_of_ble_eq_true rfl⟩ hP hK hD hS hA (va_recv hK.1 (fr_l hP) (ci := 7) (q0 := 0) rfl hqv) hl rfl rfl (Nat.le_of_ble_eq_true rfl) ⟨hroom.1, hroom.2⟩ dL_law_1440 (fun t _ H locs ht hP hD hS => ?_)
  subst ht
  obtain ⟨hc1, hc2⟩ := hcmp r u a v hp hpm
  refine lv_iload S.1 S.2.1 dL_law_1443 (lv_at hl 1 rfl) ?_
  refine lv_icmp_eq (tgt := 1450) S.1 S.2.1 dL_law_1445 (by decide) (fun _ => ?_) (fun q => absurd hc1.symm q)
  refine lv_iload S.1 S.2.1 dL_law_1450 (lv_at hl 1 rfl) ?_
  have fin : W p l e room_1 s m #[Value.ref b] below meth c H locs (cells + 1) (slots + 8) Q (F0 m 1467 ls []) := lv_goto (tgt := 1551) S.1 S.2.1 dL_law_1467 (by decide) (kk r u a v H locs hp hpm (fr_Pc hP) (fr_Dc hD) hS ls (lv_sub hl [2, 3, 4, 5, 6] rfl))
  refine lv_if_ne (tgt := 1467) S.1 S.2.1 dL_law_1452 (by decide) (fun _ => fin) (fun q0 => ?_)
  have hr0 : r = nI 0 := q0
  refine lv_aload_n S.1 S.2.1 dL_law_1455 rfl (lv_at hl 5 rfl) ?_
  refine lv_iconst (v := (nI 0)) S.1 S.2.1 dL_law_1456 (by decide) ?_
  refine g_lald (i := 0) (n := 1) (g := g1 u) S ((wd1 u).length + 0) hK (fr_r hP) (ap_at.trans rfl) (by decide) dL_law_1457 ?_
  refine lv_iload S.1 S.2.1 dL_law_1458 (lv_at hl 0 rfl) ?_
  refine lv_i2l S.1 S.2.1 dL_law_1460 rfl ?_
  exact l_leq (tgt := 1467) S (hc2 hr0) dL_law_1461 dL_law_1462 (by decide) fin
set_option maxHeartbeats 4000000 in
set_option maxRecDepth 100000 in
theorem lc_swapFor {p : Program} {l : Launch} {e : Env} {s : State} {m : MethodId} {below : List Frame} {meth : Method} {c : Code} {b L : Nat} {xs : Nat → Int32} {D : va_G} {cT : ClassId × ClassId × ClassId} {Q : State → Prop} {H : Heap} {locs : List Loc} {cells slots : Nat} {ls : Array Slot} {St1 St2 : Type} {post : Int32 → St1 → Prop} {wd1 : St1 → va_W} {g1 : St1 → Nat → Int64} {postm : Int32 → St2 → Prop} {wm1 : St2 → va_W} {th : St2 → Nat} {wd wm : va_W} {g : Nat → Int64} {rm : Room} {fs : List Value} {i c9 q9 o : Nat} (X : LA p s m meth c b L xs D cT) (hi : i + 3 < L) (p0 : Int32) (p1 : Int32) (e0 : xs (i + 1) = p0) (e1 : xs (i + 2) = p1)
    (hW : ∀ sz, Met l yL_swapFor wsL_swapFor ({ frames := 8, cells := 1, slots := 8, locals := 200 } : Room) (va_Pc [.ref c9, .int p0, .int p1, .ref o] (wx_R D (TY cT) (wd ++ ou cT o g) sz)) (wQi post D (fun u => wd1 u ++ ou cT o (g1 u)) (va_A (wd ++ ou cT o g) sz)) 1 8 (va_A (wd ++ ou cT o g) sz))
    (hM : ∀ sz, Met l yX9_swapFor wsX9_swapFor rm (va_Pc [.ref q9, .int p0, .int p1] (wr_R D (TY cT) wm sz)) (wQi postm D wm1 (va_A wm sz)) 0 0 (va_A wm sz)) (hrm : rm.cells = 0 ∧ rm.slots = 0 ∧ rm.frames + 1 ≤ room_1.frames ∧ 8 + (8 + 11) + rm.locals ≤ room_1.locals) (hq : wm[0]? = some (q9, .inr (7, fs))) (hqm : ∀ v, ∃ fs, (wm1 v)[0]? = some (q9, .inr (7, fs)))
    (hT : ∀ v sz, Met l yX9_thrown wsX9_thrown ({ frames := 0, cells := 0, slots := 0, locals := 0 } : Room) (va_Pc [.ref q9] (wr_R D (TY cT) (wm1 v) sz)) (wQi (fun (r_ : Int32) (_ : Unit) => r_ = nI (th v)) D (fun (_ : Unit) => wm1 v) (va_A (wm1 v) sz)) 0 0 (va_A (wm1 v) sz))
    (hcmp : ∀ r u a v, post r u → postm a v → r = nI (th v) ∧ (r = nI 0 → g1 u 0 = a.toInt64))
    (hroom : cells + 1 ≤ room_1.cells ∧ slots + 8 ≤ room_1.slots) (hP : va_P D vwCl ((wd ++ ou cT o g) ++ wm) H) (hD : va_D (AL s) ((wd ++ ou cT o g) ++ wm)) (hS : va_S (AL s) s.heap H locs) (hl : lv_has ls 7 [(0, .ref b), (1, .ref c9), (2, .ref q9), (3, .ref o), (4, .int (nI i))])
    (kk : ∀ r u a v H locs, post r u → postm a v → va_P D vwCl ((wd1 u ++ ou cT o (g1 u)) ++ wm1 v) H → va_D (AL s) ((wd1 u ++ ou cT o (g1 u)) ++ wm1 v) → va_S (AL s) s.heap H locs → ∀ ls, lv_has ls 7 [(0, .ref b), (1, .ref c9), (2, .ref q9), (3, .ref o), (4, .int (nI i))] → W p l e room_1 s m #[Value.ref b] below meth c H locs (cells + 1) (slots + 8) Q (F0 m 1551 ls [])) : W p l e room_1 s m #[Value.ref b] below meth c H locs cells slots Q (F0 m 1470 ls []) := by
  obtain ⟨S, hL, hX, hbs, hK, hXS⟩ := X
  have hA : ∀ q, s.heap.size ≤ q → AL s q := fun _ h => h
  refine lv_aload_n S.1 S.2.1 dL_law_1470 rfl (lv_at hl 1 rfl) ?_
  refine lv_aload_n S.1 S.2.1 dL_law_1471 rfl (lv_at hl 0 rfl) ?_
  refine lv_iload S.1 S.2.1 dL_law_1472 (lv_at hl 4 rfl) ?_
  refine lv_iconst (v := (nI 1)) S.1 S.2.1 dL_law_1474 (by decide) ?_
  refine n_add S dL_law_1475 ?_
  refine l_sld S hX hbs hS hL (by omega) e0 dL_law_1476 ?_
  refine lv_aload_n S.1 S.2.1 dL_law_1477 rfl (lv_at hl 0 rfl) ?_
  refine lv_iload S.1 S.2.1 dL_law_1478 (lv_at hl 4 rfl) ?_
  refine lv_iconst (v := (nI 2)) S.1 S.2.1 dL_law_1480 (by decide) ?_
  refine n_add S dL_law_1481 ?_
  refine l_sld S hX hbs hS hL (by omega) e1 dL_law_1482 ?_
  refine lv_aload_n S.1 S.2.1 dL_law_1483 rfl (lv_at hl 3 rfl) ?_
  refine fr_callSi (As := [.ref c9, .int p0, .int p1, .ref o]) (rest := []) (n := 4) (wc := wd ++ ou cT o g) (wr := wm) S (hW _) gL_law_L_swapFor rfl ⟨by decide +kernel, by decide +kernel, by decide +kernel⟩ ⟨rfl, rfl, Nat.le_of_ble_eq_true rfl, Nat.le_of_ble_eq_true rfl⟩ hP hK (XS.law hXS hS) hD hS hA hl rfl rfl (Nat.le_of_ble_eq_true rfl) hroom dL_law_1484 (fun r u H locs hp hP hD hS => ?_)
  refine lv_istore (lv' := [(5, .int r), (0, .ref b), (1, .ref c9), (2, .ref q9), (3, .ref o), (4, .int (nI i))]) S.1 S.2.1 dL_law_1487 hl (by decide) rfl (fun ls hl => ?_)
  refine lv_aload_n S.1 S.2.1 dL_law_1489 rfl (lv_at hl 3 rfl) ?_
  refine lv_aload_n S.1 S.2.1 dL_law_1490 rfl (lv_at hl 1 rfl) ?_
  refine lv_iload S.1 S.2.1 dL_law_1491 (lv_at hl 5 rfl) ?_
  refine lv_iconst (v := (nI 1)) S.1 S.2.1 dL_law_1493 (by decide) ?_
  refine n_add S dL_law_1494 ?_
  refine l_sld S hX hbs hS hL (by omega) e0 dL_law_1495 ?_
  refine lv_aload_n S.1 S.2.1 dL_law_1496 rfl (lv_at hl 1 rfl) ?_
  refine lv_iload S.1 S.2.1 dL_law_1497 (lv_at hl 5 rfl) ?_
  refine lv_iconst (v := (nI 2)) S.1 S.2.1 dL_law_1499 (by decide) ?_
  refine n_add S dL_law_1500 ?_
  refine l_sld S hX hbs hS hL (by omega) e1 dL_law_1501 ?_
  have hP := fr_Pc hP
  have hD := fr_Dc hD
  refine fr_callVi (As := [.int p0, .int p1]) (rest := []) (n := 2) (wc := wm) (wr := wd1 u ++ ou cT o (g1 u)) S (hM _) gL_law_X9_swapFor rfl ⟨rfl, by decide +kernel, by decide +kernel, by decide +kernel⟩ hrm hP hK hD hS hA (va_recv hK.1 (fr_l hP) (ci := 7) (q0 := 0) rfl hq) hl rfl rfl (Nat.le_of_ble_eq_true rfl) ⟨hroom.1, hroom.2⟩ dL_law_1502 (fun a v H locs hpm hP hD hS => ?_)
  refine lv_istore (lv' := [(6, .int a), (5, .int r), (0, .ref b), (1, .ref c9), (2, .ref q9), (3, .ref o), (4, .int (nI i))]) S.1 S.2.1 dL_law_1505 hl (by decide) rfl (fun ls hl => ?_)
  refine lv_aload_n S.1 S.2.1 dL_law_1507 rfl (lv_at hl 4 rfl) ?_
  obtain ⟨fsv, hqv⟩ := hqm v
  refine fr_callVi (As := []) (rest := []) (n := 0) (wc := wm1 v) (wr := wd1 u ++ ou cT o (g1 u)) S (hT v _) gL_law_X9_thrown rfl ⟨rfl, by decide +kernel, by decide +kernel, by decide +kernel⟩ ⟨rfl, rfl, Nat.le_of_ble_eq_true rfl, Nat.le_of_ble_eq_true rfl⟩ hP hK hD hS hA (va_recv hK.1 (fr_l hP) (ci := 7) (q0 := 0) rfl hqv) hl rfl rfl (Nat.le_of_ble_eq_true rfl) ⟨hroom.1, hroom.2⟩ dL_law_1508 (fun t _ H locs ht hP hD hS => ?_)
  subst ht
  obtain ⟨hc1, hc2⟩ := hcmp r u a v hp hpm
  refine lv_iload S.1 S.2.1 dL_law_1511 (lv_at hl 1 rfl) ?_
  refine lv_icmp_eq (tgt := 1518) S.1 S.2.1 dL_law_1513 (by decide) (fun _ => ?_) (fun q => absurd hc1.symm q)
  refine lv_iload S.1 S.2.1 dL_law_1518 (lv_at hl 1 rfl) ?_
  have fin : W p l e room_1 s m #[Value.ref b] below meth c H locs (cells + 1) (slots + 8) Q (F0 m 1535 ls []) := lv_goto (tgt := 1551) S.1 S.2.1 dL_law_1535 (by decide) (kk r u a v H locs hp hpm (fr_Pc hP) (fr_Dc hD) hS ls (lv_sub hl [2, 3, 4, 5, 6] rfl))
  refine lv_if_ne (tgt := 1535) S.1 S.2.1 dL_law_1520 (by decide) (fun _ => fin) (fun q0 => ?_)
  have hr0 : r = nI 0 := q0
  refine lv_aload_n S.1 S.2.1 dL_law_1523 rfl (lv_at hl 5 rfl) ?_
  refine lv_iconst (v := (nI 0)) S.1 S.2.1 dL_law_1524 (by decide) ?_
  refine g_lald (i := 0) (n := 1) (g := g1 u) S ((wd1 u).length + 0) hK (fr_r hP) (ap_at.trans rfl) (by decide) dL_law_1525 ?_
  refine lv_iload S.1 S.2.1 dL_law_1526 (lv_at hl 0 rfl) ?_
  refine lv_i2l S.1 S.2.1 dL_law_1528 rfl ?_
  exact l_leq (tgt := 1535) S (hc2 hr0) dL_law_1529 dL_law_1530 (by decide) fin
set_option maxHeartbeats 4000000 in
set_option maxRecDepth 100000 in
theorem lc_bound {p : Program} {l : Launch} {e : Env} {s : State} {m : MethodId} {below : List Frame} {meth : Method} {c : Code} {b L : Nat} {xs : Nat → Int32} {D : va_G} {cT : ClassId × ClassId × ClassId} {Q : State → Prop} {H : Heap} {locs : List Loc} {cells slots : Nat} {ls : Array Slot} {St1 St2 : Type} {post : Int32 → St1 → Prop} {wd1 : St1 → va_W} {postm : Int32 → St2 → Prop} {wm1 : St2 → va_W} {wd wm : va_W} {g : Nat → Int64} {rd rm : Room} {fs fd : List Value} {i c9 q9 o : Nat} (X : LA p s m meth c b L xs D cT)
    (hW : ∀ sz, Met l yX8_bound wsX8_bound rd (va_Pc [.ref c9] (wr_R D (TY cT) wd sz)) (wQi post D wd1 (va_A wd sz)) 0 0 (va_A wd sz)) (hrd : rd.cells = 0 ∧ rd.slots = 0 ∧ rd.frames + 1 ≤ room_1.frames ∧ 8 + (3 + 11) + rd.locals ≤ room_1.locals) (hqd : wd[0]? = some (c9, .inr (6, fd)))
    (hM : ∀ sz, Met l yX9_bound wsX9_bound rm (va_Pc [.ref q9] (wr_R D (TY cT) wm sz)) (wQi postm D wm1 (va_A wm sz)) 0 0 (va_A wm sz)) (hrm : rm.cells = 0 ∧ rm.slots = 0 ∧ rm.frames + 1 ≤ room_1.frames ∧ 8 + (3 + 11) + rm.locals ≤ room_1.locals) (hq : wm[0]? = some (q9, .inr (7, fs)))
    (hcmp : ∀ r u a v, post r u → postm a v → r = a)
    (hroom : cells + 1 ≤ room_1.cells ∧ slots + 8 ≤ room_1.slots) (hP : va_P D vwCl ((wd ++ ou cT o g) ++ wm) H) (hD : va_D (AL s) ((wd ++ ou cT o g) ++ wm)) (hS : va_S (AL s) s.heap H locs) (hl : lv_has ls 7 [(0, .ref b), (1, .ref c9), (2, .ref q9), (3, .ref o), (4, .int (nI i))])
    (kk : ∀ r u a v H locs, post r u → postm a v → va_P D vwCl ((wd1 u ++ ou cT o g) ++ wm1 v) H → va_D (AL s) ((wd1 u ++ ou cT o g) ++ wm1 v) → va_S (AL s) s.heap H locs → ∀ ls, lv_has ls 7 [(0, .ref b), (1, .ref c9), (2, .ref q9), (3, .ref o), (4, .int (nI i))] → W p l e room_1 s m #[Value.ref b] below meth c H locs (cells + 1) (slots + 8) Q (F0 m 1551 ls [])) : W p l e room_1 s m #[Value.ref b] below meth c H locs cells slots Q (F0 m 1538 ls []) := by
  obtain ⟨S, hL, hX, hbs, hK, hXS⟩ := X
  have hA : ∀ q, s.heap.size ≤ q → AL s q := fun _ h => h
  refine lv_aload_n S.1 S.2.1 dL_law_1538 rfl (lv_at hl 1 rfl) ?_
  rw [List.append_assoc] at hP hD
  refine fr_callVi (As := []) (rest := []) (n := 0) (wc := wd) (wr := ou cT o g ++ wm) S (hW _) gL_law_X8_bound rfl ⟨rfl, by decide +kernel, by decide +kernel, by decide +kernel⟩ hrd hP hK hD hS hA (va_recv hK.1 (fr_l hP) (ci := 6) (q0 := 0) rfl hqd) hl rfl rfl (Nat.le_of_ble_eq_true rfl) ⟨Nat.le_of_succ_le hroom.1, Nat.le_trans (Nat.le_add_right slots 8) hroom.2⟩ dL_law_1539 (fun r u H locs hp hP hD hS => ?_)
  refine lv_aload_n S.1 S.2.1 dL_law_1542 rfl (lv_at hl 2 rfl) ?_
  rw [← List.append_assoc] at hP hD
  have hP := fr_Pc hP
  have hD := fr_Dc hD
  refine fr_callVi (As := []) (rest := [.int r]) (n := 0) (wc := wm) (wr := wd1 u ++ ou cT o g) S (hM _) gL_law_X9_bound rfl ⟨rfl, by decide +kernel, by decide +kernel, by decide +kernel⟩ hrm hP hK hD hS hA (va_recv hK.1 (fr_l hP) (ci := 7) (q0 := 0) rfl hq) hl rfl rfl (Nat.le_of_ble_eq_true rfl) ⟨Nat.le_of_succ_le hroom.1, Nat.le_trans (Nat.le_add_right slots 8) hroom.2⟩ dL_law_1543 (fun a v H locs hpm hP hD hS => ?_)
  refine lv_icmp_eq (tgt := 1551) S.1 S.2.1 dL_law_1546 (by decide) (fun _ => ?_) (fun q => absurd (hcmp r u a v hp hpm) q)
  refine W.widen (k := cells + 1) (n := slots + 8) (Nat.le_succ _) (Nat.le_add_right _ _) ?_
  exact kk r u a v H locs hp hpm (fr_Pc hP) (fr_Dc hD) hS ls hl
