/-! frame rules for a world of two; the law's cell and calls -/
section FR2
variable {p : Program} {l : Launch} {e : Env} {R : Room} {s : State} {m : MethodId} {args : Array Value} {below : List Frame} {meth : Method} {c : Code} {H : Heap} {locs : List Loc} {cells slots : Nat} {Q : State → Prop}
variable {cc bytes : ByteArray} {nL maxL n index mc ms sz : Nat} {Ts ws ws' : List Cond} {own : String} {pc : Nat} {ls : Array Slot} {st rest As : List Value} {y : MethodName} {ret : Option FieldType} {hh : List (Nat × Nat × Nat × Nat)} {rm : Room} {D : va_G} {tys : List (ClassId × FieldType)} {wc wr : va_W} {lv : List (Nat × Value)} {A : Nat → Prop} {H0 : Heap} {cT : ClassId × ClassId × ClassId}
theorem fr1_callSi {St : Type} {post : Int32 → St → Prop} {w1 : St → va_W} (S : CallFix p m c cc nL s args Ts own) (hM : Met l y ws rm (va_Pc As (wr_R D tys wc H.size)) (wQi post D w1 (va_A wc H.size)) mc ms (va_A wc H.size)) (hT : GoodIn Ts (va_wsS own index y ws)) (hw : ws = Cond.code y bytes maxL ret :: ws')
    (hd : y.cls ≠ "java/lang/invoke/MethodHandle" ∧ y.cls ≠ "java/lang/invoke/VarHandle" ∧ (parseMethodDescriptor y.desc).map (fun d => d.parameters.length) = some n) (hR : rm.cells = mc ∧ rm.slots = ms ∧ rm.frames + 1 ≤ R.frames ∧ 8 + (maxL + 11) + rm.locals ≤ R.locals)
    (hP : va_P D vwCl (wc ++ wr) H) (hK : KN D tys s) (hD : va_D A (wc ++ wr)) (hS : va_S A H0 H locs) (hA : ∀ q, H0.size ≤ q → A q) (hl : lv_has ls nL lv) (hst : st = As.reverse ++ rest) (hn : As.length = n) (hroom : (rest.map fun v => v.category).sum ≤ 8) (hcs : cells + mc ≤ R.cells ∧ slots + ms ≤ R.slots) (d : decode cc pc = .ok (.invokestatic index, 3))
    (kk : ∀ (r : Int32) (u : St) (H1 : Heap) (locs1 : List Loc), post r u → va_P D vwCl (w1 u ++ wr) H1 → va_D A (w1 u ++ wr) → va_S A H0 H1 locs1 → W p l e R s m args below meth c H1 locs1 (cells + mc) (slots + ms) Q (F0 m (pc + 3) ls (.int r :: rest))) : W p l e R s m args below meth c H locs cells slots Q (F0 m pc ls st) :=
  va_calli (va_runS (As := As) (rest := rest) S hM (va_cwS n S.2.2.2.2 hT hw hR.1 hR.2.1 hd ⟨hR.2.2.1, hR.2.2.2⟩) ⟨wr_blind _ _ _ _ _, fun U hU hW => ⟨rfl, by rw [hU], by rw [hU]; exact fr_l hP, hK.warm hW, (fr_Dl hD).weaken (fun _ _ _ _ => trivial)⟩⟩ rfl hn hl.1 hst (lv_room hroom) d hcs) hS (fun q _ h => fr_F hD hS hA q h) (fr_F hD hS hA) (fun r u t H1 locs1 ht hvm hp hB hz hk hS1 => by
    obtain ⟨hP2, hD2⟩ := fr_join hP hD hk (fr_F hD hS hA) (by rw [← ht]; exact hB.1) hB.2
    exact kk r u H1 locs1 hp hP2 hD2 hS1)
theorem fr1_callSv {St : Type} {post : St → Prop} {w1 : St → va_W} (S : CallFix p m c cc nL s args Ts own) (hM : Met l y ws rm (va_Pc As (wr_R D tys wc H.size)) (wQv post D w1 (va_A wc H.size)) mc ms (va_A wc H.size)) (hT : GoodIn Ts (va_wsS own index y ws)) (hw : ws = Cond.code y bytes maxL ret :: ws')
    (hd : y.cls ≠ "java/lang/invoke/MethodHandle" ∧ y.cls ≠ "java/lang/invoke/VarHandle" ∧ (parseMethodDescriptor y.desc).map (fun d => d.parameters.length) = some n) (hR : rm.cells = mc ∧ rm.slots = ms ∧ rm.frames + 1 ≤ R.frames ∧ 8 + (maxL + 11) + rm.locals ≤ R.locals)
    (hP : va_P D vwCl (wc ++ wr) H) (hK : KN D tys s) (hD : va_D A (wc ++ wr)) (hS : va_S A H0 H locs) (hA : ∀ q, H0.size ≤ q → A q) (hl : lv_has ls nL lv) (hst : st = As.reverse ++ rest) (hn : As.length = n) (hroom : (rest.map fun v => v.category).sum ≤ 8) (hcs : cells + mc ≤ R.cells ∧ slots + ms ≤ R.slots) (d : decode cc pc = .ok (.invokestatic index, 3))
    (kk : ∀ (u : St) (H1 : Heap) (locs1 : List Loc), post u → va_P D vwCl (w1 u ++ wr) H1 → va_D A (w1 u ++ wr) → va_S A H0 H1 locs1 → W p l e R s m args below meth c H1 locs1 (cells + mc) (slots + ms) Q (F0 m (pc + 3) ls rest)) : W p l e R s m args below meth c H locs cells slots Q (F0 m pc ls st) :=
  va_callv (va_runS (As := As) (rest := rest) S hM (va_cwS n S.2.2.2.2 hT hw hR.1 hR.2.1 hd ⟨hR.2.2.1, hR.2.2.2⟩) ⟨wr_blind _ _ _ _ _, fun U hU hW => ⟨rfl, by rw [hU], by rw [hU]; exact fr_l hP, hK.warm hW, (fr_Dl hD).weaken (fun _ _ _ _ => trivial)⟩⟩ rfl hn hl.1 hst (lv_room hroom) d hcs) hS (fun q _ h => fr_F hD hS hA q h) (fr_F hD hS hA) (fun u t H1 locs1 ht hvm hp hB hz hk hS1 => by
    obtain ⟨hP2, hD2⟩ := fr_join hP hD hk (fr_F hD hS hA) (by rw [← ht]; exact hB.1) hB.2
    exact kk u H1 locs1 hp hP2 hD2 hS1)
theorem fr2_callVi {St : Type} {post : Int32 → St → Prop} {w1 : St → va_W} {C : String} {b : Nat} (S : CallFix p m c cc nL s args Ts own) (hM : Met l y ws rm (va_Pc (.ref b :: As) (wr_R D tys wc H.size)) (wQi post D w1 (va_A wc H.size)) mc ms (va_A wc H.size)) (hT : GoodIn Ts (wsV own index C y ws)) (hw : ws = Cond.code y bytes maxL ret :: ws')
    (hd : y.cls = C ∧ y.cls ≠ "java/lang/invoke/MethodHandle" ∧ y.cls ≠ "java/lang/invoke/VarHandle" ∧ (parseMethodDescriptor y.desc).map (fun d => d.parameters.length) = some n) (hR : rm.cells = mc ∧ rm.slots = ms ∧ rm.frames + 1 ≤ R.frames ∧ 8 + (maxL + 11) + rm.locals ≤ R.locals)
    (hP : va_P D vwCl (wr ++ wc) H) (hK : KN D tys s) (hD : va_D A (wr ++ wc)) (hS : va_S A H0 H locs) (hA : ∀ q, H0.size ≤ q → A q) (hrecv : ∃ cell : Cell, H[b]? = some cell ∧ cell.vm.isStatics = false ∧ s.vm.findClass C = some cell.cls) (hl : lv_has ls nL lv) (hst : st = As.reverse ++ .ref b :: rest) (hn : As.length = n) (hroom : (rest.map fun v => v.category).sum ≤ 8) (hcs : cells + mc ≤ R.cells ∧ slots + ms ≤ R.slots) (d : decode cc pc = .ok (.invokevirtual index, 3))
    (kk : ∀ (r : Int32) (u : St) (H1 : Heap) (locs1 : List Loc), post r u → va_P D vwCl (wr ++ w1 u) H1 → va_D A (wr ++ w1 u) → va_S A H0 H1 locs1 → W p l e R s m args below meth c H1 locs1 (cells + mc) (slots + ms) Q (F0 m (pc + 3) ls (.int r :: rest))) : W p l e R s m args below meth c H locs cells slots Q (F0 m pc ls st) :=
  fr_callVi S hM hT hw hd hR (fr_Pc hP) hK (fr_Dc hD) hS hA hrecv hl hst hn hroom hcs d (fun r u H1 locs1 hp hP hD hS => kk r u H1 locs1 hp (fr_Pc hP) (fr_Dc hD) hS)
theorem fr2_callSx {St : Type} {post : Int32 → St → Prop} {w1 : St → va_W} (S : CallFix p m c cc nL s args Ts own) (hM : Met l y ws rm (va_Pc As (wx_R D tys wc H.size)) (wQi post D w1 (va_A wc H.size)) mc ms (va_A wc H.size)) (hT : GoodIn Ts (va_wsS own index y ws)) (hw : ws = Cond.codeWith y bytes maxL ret hh :: ws')
    (hd : y.cls ≠ "java/lang/invoke/MethodHandle" ∧ y.cls ≠ "java/lang/invoke/VarHandle" ∧ (parseMethodDescriptor y.desc).map (fun d => d.parameters.length) = some n) (hR : rm.cells = mc ∧ rm.slots = ms ∧ rm.frames + 1 ≤ R.frames ∧ 8 + (maxL + 11) + rm.locals ≤ R.locals)
    (hP : va_P D vwCl (wr ++ wc) H) (hK : KN D tys s) (hX : XS (fun q => H.size ≤ q) s H) (hD : va_D A (wr ++ wc)) (hS : va_S A H0 H locs) (hA : ∀ q, H0.size ≤ q → A q) (hl : lv_has ls nL lv) (hst : st = As.reverse ++ rest) (hn : As.length = n) (hroom : (rest.map fun v => v.category).sum ≤ 8) (hcs : cells + mc ≤ R.cells ∧ slots + ms ≤ R.slots) (d : decode cc pc = .ok (.invokestatic index, 3))
    (kk : ∀ (r : Int32) (u : St) (H1 : Heap) (locs1 : List Loc), post r u → va_P D vwCl (wr ++ w1 u) H1 → va_D A (wr ++ w1 u) → va_S A H0 H1 locs1 → W p l e R s m args below meth c H1 locs1 (cells + mc) (slots + ms) Q (F0 m (pc + 3) ls (.int r :: rest))) : W p l e R s m args below meth c H locs cells slots Q (F0 m pc ls st) :=
  fr_callSi S hM hT hw hd hR (fr_Pc hP) hK hX (fr_Dc hD) hS hA hl hst hn hroom hcs d (fun r u H1 locs1 hp hP hD hS => kk r u H1 locs1 hp (fr_Pc hP) (fr_Dc hD) hS)
/-- a static call of a method that reads the script alone -/
theorem rd_callX {b L : Nat} {xs : Nat → Int32} {v : Int32} (S : CallFix p m c cc nL s args Ts own) (hM : Met l y ws rm (va_Pc As (fun U => KN D tys U ∧ va_X b L xs U U.heap ∧ b < U.heap.size)) (vp_Si (fun r => r = v)) 0 0 (fun _ => False)) (hT : GoodIn Ts (va_wsS own index y ws)) (hw : ws = Cond.code y bytes maxL ret :: ws')
    (hd : y.cls ≠ "java/lang/invoke/MethodHandle" ∧ y.cls ≠ "java/lang/invoke/VarHandle" ∧ (parseMethodDescriptor y.desc).map (fun d => d.parameters.length) = some n) (hR : rm.cells = 0 ∧ rm.slots = 0 ∧ rm.frames + 1 ≤ R.frames ∧ 8 + (maxL + 11) + rm.locals ≤ R.locals)
    (hX : va_X b L xs s H) (hb : b < H.size) (hK : KN D tys s) (hl : lv_has ls nL lv) (hst : st = As.reverse ++ rest) (hn : As.length = n) (hroom : (rest.map fun v => v.category).sum ≤ 8) (hcs : cells ≤ R.cells ∧ slots ≤ R.slots) (d : decode cc pc = .ok (.invokestatic index, 3))
    (kk : W p l e R s m args below meth c H locs cells slots Q (F0 m (pc + 3) ls (.int v :: rest))) : W p l e R s m args below meth c H locs cells slots Q (F0 m pc ls st) :=
  vp_callSi (va_runS (As := As) (rest := rest) S hM (va_cwS n S.2.2.2.2 hT hw hR.1 hR.2.1 hd ⟨hR.2.2.1, hR.2.2.2⟩) ⟨fun a U g mk q => ⟨q.1, q.2.1.call, va_X.moved (u := U) (U := U.calling g mk a) (Vm.Alike.refl U.vm) q.2.2.1, q.2.2.2⟩, fun U hU hW => ⟨rfl, hK.warm hW, by rw [hU]; exact va_X.moved hW.alike hX, by rw [hU]; exact hb⟩⟩ rfl hn hl.1 hst (lv_room hroom) d hcs).run (fun r hr => by rw [hr]; exact kk)
end FR2
/-- what the law reads of the script, or beyond its end -/
def cellv (xs : Nat → Int32) (L k : Nat) : Int32 := if k < L then xs k else nI 52103 * (nI k + nI 31) + nI 2733287
theorem wc_1 : Cond.constant RL 7 (nI 52103) ∈ wsL_cell := by decide +kernel
theorem wc_2 : Cond.constant RL 8 (nI 2733287) ∈ wsL_cell := by decide +kernel
theorem pd_L_cell : yL_cell.cls ≠ "java/lang/invoke/MethodHandle" ∧ yL_cell.cls ≠ "java/lang/invoke/VarHandle" ∧ (parseMethodDescriptor yL_cell.desc).map (fun d => d.parameters.length) = some 2 := by decide +kernel
set_option maxHeartbeats 4000000 in
set_option maxRecDepth 100000 in
theorem r_L_cell (l : Launch) (D : va_G) (cT : ClassId × ClassId × ClassId) (b L k : Nat) (xs : Nat → Int32) (hL : L ≤ 260) (hk : k < 100) : Met l yL_cell wsL_cell ({ frames := 0, cells := 0, slots := 0, locals := 0 }) (va_Pc [.ref b, .int (nI k)] (fun U => KN D (TY cT) U ∧ va_X b L xs U U.heap ∧ b < U.heap.size)) (vp_Si (fun r_ => r_ = cellv xs L k)) 0 0 (fun _ => False) := by
  refine Met.ofW (cc := cL_cell) (maxL := 2) (ret := some .int) (by decide +kernel) rfl ?_
  intro p0 e0 s0 m0 a0 b0 t0 c0 s₁ Bd hml hv
  obtain ⟨hv0, hK, hX, hb⟩ := hv
  subst hv0
  have hl := lv_entry ([.ref b, .int (nI k)]) (n := 2) (Nat.le_of_ble_eq_true rfl)
  rw [lg_entry_eq]
  have hn := findClass_of_methodNamed Bd.named
  have hn : s0.vm.findClass RL = some m0.cls := hn
  have S : CallFix p0 m0 c0 cL_cell 2 s0 _ wsL_cell RL := ⟨Bd.exec, Bd.bytes, hml, hn, atoms_spec (ws := wsL_cell) Bd.pre⟩
  have hr := Bd.returns
  have hlocks := Bd.notSynchronized
  generalize (lg_sl ([.ref b, .int (nI k)]) ++ List.replicate (2 - (lg_sl ([.ref b, .int (nI k)])).length) Slot.unset).toArray = ls at hl ⊢
  have hl : lv_has ls 2 [(0, .ref b), (1, .int (nI k))] := hl
  have hS : va_S (fun _ => False) s0.heap s0.heap [] := va_S.rf
  refine lv_iload_n S.1 S.2.1 dL_cell_0 rfl (lv_at hl 1 rfl) ?_
  refine lv_aload_n S.1 S.2.1 dL_cell_1 rfl (lv_at hl 0 rfl) ?_
  refine va_slen S.1 S.2.1 hX hb (fun h => h) hS dL_cell_2 ?_
  refine n_cge S (tgt := 12) (by omega) dL_cell_3 (by decide) (fun c3 => ?_) (fun c3 => ?_)
  · refine lv_ldc S.1 S.2.1 (own := RL) S.2.2.2.1 (S.2.2.2.2 _ wc_1) dL_cell_12 ?_
    refine lv_iload_n S.1 S.2.1 dL_cell_14 rfl (lv_at hl 1 rfl) ?_
    refine lv_bipush (v := nI 31) S.1 S.2.1 dL_cell_15 (by decide) ?_
    refine lv_iadd S.1 S.2.1 dL_cell_17 ?_
    refine lv_imul S.1 S.2.1 dL_cell_18 ?_
    refine lv_ldc S.1 S.2.1 (own := RL) S.2.2.2.1 (S.2.2.2.2 _ wc_2) dL_cell_19 ?_
    refine lv_iadd S.1 S.2.1 dL_cell_21 ?_
    exact rd_iret S hr rfl hlocks (if_neg (Nat.not_lt.mpr c3)).symm dL_cell_22
  · refine lv_aload_n S.1 S.2.1 dL_cell_6 rfl (lv_at hl 0 rfl) ?_
    refine lv_iload_n S.1 S.2.1 dL_cell_7 rfl (lv_at hl 1 rfl) ?_
    refine va_sld (xs := xs) S.1 S.2.1 hX hb (fun h => h) hS (sx_in ⟨c3, by omega⟩) dL_cell_8 ?_
    rw [nI_clamp (by omega)]
    refine lv_goto (tgt := 22) S.1 S.2.1 dL_cell_9 (by decide) ?_
    exact rd_iret S hr rfl hlocks (if_pos c3).symm dL_cell_22
/-! the law's calls: a call of the desk, its IllegalStateException caught -/
theorem pd_L_calls : yL_calls.cls ≠ "java/lang/invoke/MethodHandle" ∧ yL_calls.cls ≠ "java/lang/invoke/VarHandle" ∧ (parseMethodDescriptor yL_calls.desc).map (fun d => d.parameters.length) = some 5 := by decide +kernel
theorem wk_st : Cond.classLink RL 23 "java/lang/IllegalStateException" ∈ wsL_calls := by decide +kernel
set_option maxHeartbeats 4000000 in
set_option maxRecDepth 100000 in
theorem co_addPerson (l : Launch) (D : va_G) (cT : ClassId × ClassId × ClassId) (sz : Nat) {St : Type} {post : Int32 → St → Prop} {w1 : St → va_W} {wc : va_W} {rm : Room} {mc ms : Nat} {fs : List Value} (c9 : Nat) (p0 p1 p2 : Int32) (hM : ∀ sz, Met l yX8_addPerson wsX8_addPerson rm (va_Pc [.ref c9, .int p0, .int p1] (wr_R D (TY cT) wc sz)) (wQi post D w1 (va_A wc sz)) mc ms (va_A wc sz)) (hrm : rm.cells = mc ∧ rm.slots = ms ∧ rm.frames + 1 ≤ 8 ∧ 8 + (3 + 11) + rm.locals ≤ 200) (hc : mc ≤ 1 ∧ ms ≤ 8) (hrv : wc[0]? = some (c9, .inr (6, fs))) : Met l yL_calls wsL_calls ({ frames := 8, cells := 1, slots := 8, locals := 200 } : Room) (va_Pc [.ref c9, .int (nI 0), .int p0, .int p1, .int p2] (wx_R D (TY cT) wc sz)) (wQi post D w1 (va_A wc sz)) 1 8 (va_A wc sz) := by
  refine wx_start (cc := cL_calls) (maxL := 6) (ret := (some .int)) (hh := [(0, 37, 38, 23)]) RL ⟨by decide +kernel, rfl⟩ rfl (Nat.le_of_ble_eq_true rfl) ?_
  intro p0_ e0 s0 m0 a0 b0 t0 c0 S hr hlocks htab hsz hP hK hA hD hS hX ls hl
  subst hsz
  generalize va_A wc s0.heap.size = A at hA hD hS ⊢
  have hl : lv_has ls 6 [(0, .ref c9), (1, .int (nI 0)), (2, .int p0), (3, .int p1), (4, .int p2)] := hl
  refine lv_iload_n S.1 S.2.1 dL_calls_0 rfl (lv_at hl 1 rfl) ?_
  refine n_zne S (tgt := 13) (by decide) dL_calls_1 (by decide) (fun q => absurd rfl q) (fun _ => ?_)
  refine lv_aload_n S.1 S.2.1 dL_calls_4 rfl (lv_at hl 0 rfl) ?_
  refine lv_iload_n S.1 S.2.1 dL_calls_5 rfl (lv_at hl 2 rfl) ?_
  refine lv_iload_n S.1 S.2.1 dL_calls_6 rfl (lv_at hl 3 rfl) ?_
  refine wr_callVi (As := [.int p0, .int p1]) (rest := []) S (hM _) gL_calls_X8_addPerson rfl pd_X8_addPerson hrm hP hK hD hS hA (va_recv hK.1 hP (ci := 6) (q0 := 0) rfl hrv) hl rfl rfl (Nat.le_of_ble_eq_true rfl) ⟨by rw [Nat.zero_add]; exact hc.1, by rw [Nat.zero_add]; exact hc.2⟩ dL_calls_7 (fun r u H locs hp hP hD hS => ?_)
  refine W.widen (k := 1) (n := 8) (by rw [Nat.zero_add]; exact hc.1) (by rw [Nat.zero_add]; exact hc.2) ?_
  refine lv_goto (tgt := 37) S.1 S.2.1 dL_calls_10 (by decide) ?_
  exact wr_iret S u hr rfl hlocks hp hP hD hS dL_calls_37
set_option maxHeartbeats 4000000 in
set_option maxRecDepth 100000 in
theorem co_set (l : Launch) (D : va_G) (cT : ClassId × ClassId × ClassId) (sz : Nat) {St : Type} {post : Int32 → St → Prop} {w1 : St → va_W} {wc : va_W} {rm : Room} {mc ms : Nat} {fs : List Value} (c9 : Nat) (p0 p1 p2 : Int32) (hM : ∀ sz, Met l yX8_set wsX8_set rm (va_Pc [.ref c9, .int p0, .int p1, .int p2] (wr_R D (TY cT) wc sz)) (wQi post D w1 (va_A wc sz)) mc ms (va_A wc sz)) (hrm : rm.cells = mc ∧ rm.slots = ms ∧ rm.frames + 1 ≤ 8 ∧ 8 + (7 + 11) + rm.locals ≤ 200) (hc : mc ≤ 1 ∧ ms ≤ 8) (hrv : wc[0]? = some (c9, .inr (6, fs))) : Met l yL_calls wsL_calls ({ frames := 8, cells := 1, slots := 8, locals := 200 } : Room) (va_Pc [.ref c9, .int (nI 1), .int p0, .int p1, .int p2] (wx_R D (TY cT) wc sz)) (wQi post D w1 (va_A wc sz)) 1 8 (va_A wc sz) := by
  refine wx_start (cc := cL_calls) (maxL := 6) (ret := (some .int)) (hh := [(0, 37, 38, 23)]) RL ⟨by decide +kernel, rfl⟩ rfl (Nat.le_of_ble_eq_true rfl) ?_
  intro p0_ e0 s0 m0 a0 b0 t0 c0 S hr hlocks htab hsz hP hK hA hD hS hX ls hl
  subst hsz
  generalize va_A wc s0.heap.size = A at hA hD hS ⊢
  have hl : lv_has ls 6 [(0, .ref c9), (1, .int (nI 1)), (2, .int p0), (3, .int p1), (4, .int p2)] := hl
  refine lv_iload_n S.1 S.2.1 dL_calls_0 rfl (lv_at hl 1 rfl) ?_
  refine n_zne S (tgt := 13) (by decide) dL_calls_1 (by decide) (fun _ => ?_) (fun q => absurd q (by decide))
  refine lv_iload_n S.1 S.2.1 dL_calls_13 rfl (lv_at hl 1 rfl) ?_
  refine lv_iconst (v := nI 1) S.1 S.2.1 dL_calls_14 (by decide) ?_
  refine n_cne S (tgt := 29) (by decide) dL_calls_15 (by decide) (fun q => absurd rfl q) (fun _ => ?_)
  refine lv_aload_n S.1 S.2.1 dL_calls_18 rfl (lv_at hl 0 rfl) ?_
  refine lv_iload_n S.1 S.2.1 dL_calls_19 rfl (lv_at hl 2 rfl) ?_
  refine lv_iload_n S.1 S.2.1 dL_calls_20 rfl (lv_at hl 3 rfl) ?_
  refine lv_iload S.1 S.2.1 dL_calls_21 (lv_at hl 4 rfl) ?_
  refine wr_callVi (As := [.int p0, .int p1, .int p2]) (rest := []) S (hM _) gL_calls_X8_set rfl pd_X8_set hrm hP hK hD hS hA (va_recv hK.1 hP (ci := 6) (q0 := 0) rfl hrv) hl rfl rfl (Nat.le_of_ble_eq_true rfl) ⟨by rw [Nat.zero_add]; exact hc.1, by rw [Nat.zero_add]; exact hc.2⟩ dL_calls_23 (fun r u H locs hp hP hD hS => ?_)
  refine W.widen (k := 1) (n := 8) (by rw [Nat.zero_add]; exact hc.1) (by rw [Nat.zero_add]; exact hc.2) ?_
  refine lv_goto (tgt := 37) S.1 S.2.1 dL_calls_26 (by decide) ?_
  exact wr_iret S u hr rfl hlocks hp hP hD hS dL_calls_37
set_option maxHeartbeats 4000000 in
set_option maxRecDepth 100000 in
theorem ct_set (l : Launch) (D : va_G) (cT : ClassId × ClassId × ClassId) (sz : Nat) {wc : va_W} {fs : List Value} (c9 : Nat) (p0 p1 p2 : Int32) (hM : ∀ sz, vx_Met l yX8_set wsX8_set ({ frames := 6, cells := 1, slots := 6, locals := 160 } : Room) (va_Pc [.ref c9, .int p0, .int p1, .int p2] (tr_R D (TY cT) wc sz)) (tr_Q sz) (tr_X "java/lang/IllegalStateException" sz) 1 6 (fun q => sz ≤ q)) (hrv : wc[0]? = some (c9, .inr (6, fs))) : Met l yL_calls wsL_calls ({ frames := 8, cells := 1, slots := 8, locals := 200 } : Room) (va_Pc [.ref c9, .int (nI 1), .int p0, .int p1, .int p2] (wx_R D (TY cT) wc sz)) (wQi (fun (r_ : Int32) (_ : Unit) => r_ = -3) D (fun (_ : Unit) => wc) (va_A wc sz)) 1 8 (va_A wc sz) := by
  refine wx_start (cc := cL_calls) (maxL := 6) (ret := (some .int)) (hh := [(0, 37, 38, 23)]) RL ⟨by decide +kernel, rfl⟩ rfl (Nat.le_of_ble_eq_true rfl) ?_
  intro p0_ e0 s0 m0 a0 b0 t0 c0 S hr hlocks htab hsz hP hK hA hD hS hX ls hl
  subst hsz
  generalize va_A wc s0.heap.size = A at hA hD hS ⊢
  have hl : lv_has ls 6 [(0, .ref c9), (1, .int (nI 1)), (2, .int p0), (3, .int p1), (4, .int p2)] := hl
  refine lv_iload_n S.1 S.2.1 dL_calls_0 rfl (lv_at hl 1 rfl) ?_
  refine n_zne S (tgt := 13) (by decide) dL_calls_1 (by decide) (fun _ => ?_) (fun q => absurd q (by decide))
  refine lv_iload_n S.1 S.2.1 dL_calls_13 rfl (lv_at hl 1 rfl) ?_
  refine lv_iconst (v := nI 1) S.1 S.2.1 dL_calls_14 (by decide) ?_
  refine n_cne S (tgt := 29) (by decide) dL_calls_15 (by decide) (fun q => absurd rfl q) (fun _ => ?_)
  refine lv_aload_n S.1 S.2.1 dL_calls_18 rfl (lv_at hl 0 rfl) ?_
  refine lv_iload_n S.1 S.2.1 dL_calls_19 rfl (lv_at hl 2 rfl) ?_
  refine lv_iload_n S.1 S.2.1 dL_calls_20 rfl (lv_at hl 3 rfl) ?_
  refine lv_iload S.1 S.2.1 dL_calls_21 (lv_at hl 4 rfl) ?_
  have hP : va_P D vwCl (wc ++ []) s0.heap := by rw [List.append_nil]; exact hP
  refine fr_callVx (As := [.int p0, .int p1, .int p2]) (rest := []) (wc := wc) (wr := []) S (hM _) gL_calls_X8_set rfl pd_X8_set ⟨rfl, rfl, by decide, by decide⟩ hP hK hX hS hA (va_recv hK.1 (fr_l hP) (ci := 6) (q0 := 0) rfl hrv) hl rfl rfl (Nat.le_of_ble_eq_true rfl) (by decide) dL_calls_23 (fun q9 ce H locs hP hS hce hcv hcl => ?_)
  have hP : va_P D vwCl wc H := by rw [List.append_nil] at hP; exact hP
  refine vx_catch (own := RL) (name := "java/lang/IllegalStateException") S.2.2.2.1 ([] : List ExceptionTableEntry) (⟨0, 37, 38, 23⟩ : ExceptionTableEntry) ([] : List ExceptionTableEntry) (htab.trans rfl) (fun z hz => absurd hz List.not_mem_nil) (by decide) (by decide) (S.2.2.2.2 _ wk_st) (va_Nw.use rfl (hK.2 (.castable "java/lang/IllegalStateException" "java/lang/IllegalStateException") (by decide +kernel))) hce hcv hcl ?_
  refine lv_astore (lv' := [(5, .ref q9), (0, .ref c9), (1, .int (nI 1)), (2, .int p0), (3, .int p1), (4, .int p2)]) S.1 S.2.1 dL_calls_38 hl (by decide) rfl (fun ls hl => ?_)
  refine lv_bipush (v := -3) S.1 S.2.1 dL_calls_40 (by decide) ?_
  refine W.widen (k := 1) (n := 8) (by decide) (by decide) ?_
  exact wr_iret S () hr rfl hlocks rfl hP hD hS dL_calls_42
set_option maxHeartbeats 4000000 in
set_option maxRecDepth 100000 in
theorem co_swap (l : Launch) (D : va_G) (cT : ClassId × ClassId × ClassId) (sz : Nat) {St : Type} {post : Int32 → St → Prop} {w1 : St → va_W} {wc : va_W} {rm : Room} {mc ms : Nat} {fs : List Value} (c9 : Nat) (p0 p1 p2 : Int32) (hM : ∀ sz, Met l yX8_swap wsX8_swap rm (va_Pc [.ref c9, .int p0, .int p1, .int p2] (wr_R D (TY cT) wc sz)) (wQi post D w1 (va_A wc sz)) mc ms (va_A wc sz)) (hrm : rm.cells = mc ∧ rm.slots = ms ∧ rm.frames + 1 ≤ 8 ∧ 8 + (7 + 11) + rm.locals ≤ 200) (hc : mc ≤ 1 ∧ ms ≤ 8) (hrv : wc[0]? = some (c9, .inr (6, fs))) : Met l yL_calls wsL_calls ({ frames := 8, cells := 1, slots := 8, locals := 200 } : Room) (va_Pc [.ref c9, .int (nI 2), .int p0, .int p1, .int p2] (wx_R D (TY cT) wc sz)) (wQi post D w1 (va_A wc sz)) 1 8 (va_A wc sz) := by
  refine wx_start (cc := cL_calls) (maxL := 6) (ret := (some .int)) (hh := [(0, 37, 38, 23)]) RL ⟨by decide +kernel, rfl⟩ rfl (Nat.le_of_ble_eq_true rfl) ?_
  intro p0_ e0 s0 m0 a0 b0 t0 c0 S hr hlocks htab hsz hP hK hA hD hS hX ls hl
  subst hsz
  generalize va_A wc s0.heap.size = A at hA hD hS ⊢
  have hl : lv_has ls 6 [(0, .ref c9), (1, .int (nI 2)), (2, .int p0), (3, .int p1), (4, .int p2)] := hl
  refine lv_iload_n S.1 S.2.1 dL_calls_0 rfl (lv_at hl 1 rfl) ?_
  refine n_zne S (tgt := 13) (by decide) dL_calls_1 (by decide) (fun _ => ?_) (fun q => absurd q (by decide))
  refine lv_iload_n S.1 S.2.1 dL_calls_13 rfl (lv_at hl 1 rfl) ?_
  refine lv_iconst (v := nI 1) S.1 S.2.1 dL_calls_14 (by decide) ?_
  refine n_cne S (tgt := 29) (by decide) dL_calls_15 (by decide) (fun _ => ?_) (fun q => absurd q (by decide))
  refine lv_aload_n S.1 S.2.1 dL_calls_29 rfl (lv_at hl 0 rfl) ?_
  refine lv_iload_n S.1 S.2.1 dL_calls_30 rfl (lv_at hl 2 rfl) ?_
  refine lv_iload_n S.1 S.2.1 dL_calls_31 rfl (lv_at hl 3 rfl) ?_
  refine lv_iload S.1 S.2.1 dL_calls_32 (lv_at hl 4 rfl) ?_
  refine wr_callVi (As := [.int p0, .int p1, .int p2]) (rest := []) S (hM _) gL_calls_X8_swap rfl pd_X8_swap hrm hP hK hD hS hA (va_recv hK.1 hP (ci := 6) (q0 := 0) rfl hrv) hl rfl rfl (Nat.le_of_ble_eq_true rfl) ⟨by rw [Nat.zero_add]; exact hc.1, by rw [Nat.zero_add]; exact hc.2⟩ dL_calls_34 (fun r u H locs hp hP hD hS => ?_)
  refine W.widen (k := 1) (n := 8) (by rw [Nat.zero_add]; exact hc.1) (by rw [Nat.zero_add]; exact hc.2) ?_
  exact wr_iret S u hr rfl hlocks hp hP hD hS dL_calls_37
set_option maxHeartbeats 4000000 in
set_option maxRecDepth 100000 in
theorem ct_swap (l : Launch) (D : va_G) (cT : ClassId × ClassId × ClassId) (sz : Nat) {wc : va_W} {fs : List Value} (c9 : Nat) (p0 p1 p2 : Int32) (hM : ∀ sz, vx_Met l yX8_swap wsX8_swap ({ frames := 6, cells := 1, slots := 6, locals := 160 } : Room) (va_Pc [.ref c9, .int p0, .int p1, .int p2] (tr_R D (TY cT) wc sz)) (tr_Q sz) (tr_X "java/lang/IllegalStateException" sz) 1 6 (fun q => sz ≤ q)) (hrv : wc[0]? = some (c9, .inr (6, fs))) : Met l yL_calls wsL_calls ({ frames := 8, cells := 1, slots := 8, locals := 200 } : Room) (va_Pc [.ref c9, .int (nI 2), .int p0, .int p1, .int p2] (wx_R D (TY cT) wc sz)) (wQi (fun (r_ : Int32) (_ : Unit) => r_ = -3) D (fun (_ : Unit) => wc) (va_A wc sz)) 1 8 (va_A wc sz) := by
  refine wx_start (cc := cL_calls) (maxL := 6) (ret := (some .int)) (hh := [(0, 37, 38, 23)]) RL ⟨by decide +kernel, rfl⟩ rfl (Nat.le_of_ble_eq_true rfl) ?_
  intro p0_ e0 s0 m0 a0 b0 t0 c0 S hr hlocks htab hsz hP hK hA hD hS hX ls hl
  subst hsz
  generalize va_A wc s0.heap.size = A at hA hD hS ⊢
  have hl : lv_has ls 6 [(0, .ref c9), (1, .int (nI 2)), (2, .int p0), (3, .int p1), (4, .int p2)] := hl
  refine lv_iload_n S.1 S.2.1 dL_calls_0 rfl (lv_at hl 1 rfl) ?_
  refine n_zne S (tgt := 13) (by decide) dL_calls_1 (by decide) (fun _ => ?_) (fun q => absurd q (by decide))
  refine lv_iload_n S.1 S.2.1 dL_calls_13 rfl (lv_at hl 1 rfl) ?_
  refine lv_iconst (v := nI 1) S.1 S.2.1 dL_calls_14 (by decide) ?_
  refine n_cne S (tgt := 29) (by decide) dL_calls_15 (by decide) (fun _ => ?_) (fun q => absurd q (by decide))
  refine lv_aload_n S.1 S.2.1 dL_calls_29 rfl (lv_at hl 0 rfl) ?_
  refine lv_iload_n S.1 S.2.1 dL_calls_30 rfl (lv_at hl 2 rfl) ?_
  refine lv_iload_n S.1 S.2.1 dL_calls_31 rfl (lv_at hl 3 rfl) ?_
  refine lv_iload S.1 S.2.1 dL_calls_32 (lv_at hl 4 rfl) ?_
  have hP : va_P D vwCl (wc ++ []) s0.heap := by rw [List.append_nil]; exact hP
  refine fr_callVx (As := [.int p0, .int p1, .int p2]) (rest := []) (wc := wc) (wr := []) S (hM _) gL_calls_X8_swap rfl pd_X8_swap ⟨rfl, rfl, by decide, by decide⟩ hP hK hX hS hA (va_recv hK.1 (fr_l hP) (ci := 6) (q0 := 0) rfl hrv) hl rfl rfl (Nat.le_of_ble_eq_true rfl) (by decide) dL_calls_34 (fun q9 ce H locs hP hS hce hcv hcl => ?_)
  have hP : va_P D vwCl wc H := by rw [List.append_nil] at hP; exact hP
  refine vx_catch (own := RL) (name := "java/lang/IllegalStateException") S.2.2.2.1 ([] : List ExceptionTableEntry) (⟨0, 37, 38, 23⟩ : ExceptionTableEntry) ([] : List ExceptionTableEntry) (htab.trans rfl) (fun z hz => absurd hz List.not_mem_nil) (by decide) (by decide) (S.2.2.2.2 _ wk_st) (va_Nw.use rfl (hK.2 (.castable "java/lang/IllegalStateException" "java/lang/IllegalStateException") (by decide +kernel))) hce hcv hcl ?_
  refine lv_astore (lv' := [(5, .ref q9), (0, .ref c9), (1, .int (nI 2)), (2, .int p0), (3, .int p1), (4, .int p2)]) S.1 S.2.1 dL_calls_38 hl (by decide) rfl (fun ls hl => ?_)
  refine lv_bipush (v := -3) S.1 S.2.1 dL_calls_40 (by decide) ?_
  refine W.widen (k := 1) (n := 8) (by decide) (by decide) ?_
  exact wr_iret S () hr rfl hlocks rfl hP hD hS dL_calls_42
