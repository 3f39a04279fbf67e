/-! beside a callee's world: what it can't reach stays; what a throw needs of the machine -/
theorem fr_l {D : va_G} {a b : va_W} {H : Heap} (h : va_P D vwCl (a ++ b) H) : va_P D vwCl a H := fun k q hk => h k q (by rw [List.getElem?_append_left (List.getElem?_eq_some_iff.mp hk).1]; exact hk)
theorem fr_r {D : va_G} {a b : va_W} {H : Heap} (h : va_P D vwCl (a ++ b) H) : va_P D vwCl b H := fun k q hk => h (a.length + k) q (ap_at.trans hk)
theorem fr_Dl {A : Nat → Prop} {a b : va_W} (h : va_D A (a ++ b)) : va_D A a := h.by id (fun k q hk => by rw [id, List.getElem?_append_left (List.getElem?_eq_some_iff.mp hk).1]; exact hk) (fun _ _ _ _ e => e)
theorem fr_Pc {D : va_G} {a b : va_W} {H : Heap} (h : va_P D vwCl (a ++ b) H) : va_P D vwCl (b ++ a) H := va_P.app (fr_r h) (fr_l h)
theorem fr_Dc {A : Nat → Prop} {a b : va_W} (h : va_D A (a ++ b)) : va_D A (b ++ a) := va_D.swap (a := []) h
theorem fr_Dr {A : Nat → Prop} {a b : va_W} (h : va_D A (a ++ b)) : va_D A b := fr_Dl (fr_Dc h)
theorem fr_F {A : Nat → Prop} {a b : va_W} {H0 H : Heap} {locs : List Loc} (hD : va_D A (a ++ b)) (hS : va_S A H0 H locs) (hA : ∀ q, H0.size ≤ q → A q) : ∀ q, va_A a H.size q → A q := wr_F (fr_Dl hD) hS hA
theorem fr_join {A : Nat → Prop} {D : va_G} {wc wr w1 : va_W} {H H1 : Heap} (hP : va_P D vwCl (wc ++ wr) H) (hD : va_D A (wc ++ wr)) (hk : ∀ q : Nat, q < H.size → ¬ va_A wc H.size q → H1[q]? = H[q]?) (hF : ∀ q, va_A wc H.size q → A q) (hP1 : va_P D vwCl w1 H1) (hD1 : va_D (va_A wc H.size) w1) : va_P D vwCl (w1 ++ wr) H1 ∧ va_D A (w1 ++ wr) := by
  have apart : ∀ (k : Nat) (q : Nat × va_E), wr[k]? = some q → q.1 < H.size ∧ ¬ va_A wc H.size q.1 := by
    intro k q hq
    have hl := (fr_r hP k q hq).lt
    refine ⟨hl, fun h => ?_⟩
    rcases h with ⟨k2, e, h⟩ | h
    · have hlt := (List.getElem?_eq_some_iff.mp h).1
      have h3 : (wc ++ wr)[k2]? = some (q.1, e) := by rw [List.getElem?_append_left hlt]; exact h
      have hij := hD.1 (wc.length + k) k2 q (q.1, e) (ap_at.trans hq) h3 rfl
      omega
    · omega
  refine ⟨va_P.app hP1 (fun k q hq => ?_), va_D.app (hD1.weaken (fun k q _ h => hF q.1 h)) (fr_Dr hD) (fun i j x y hx hy hxy => ?_)⟩
  · obtain ⟨g1, g2⟩ := apart k q hq
    exact (fr_r hP k q hq).kept (hk q.1 g1 g2)
  · exact (apart j y hy).2 (by rw [← hxy]; exact hD1.2 i x hx)
theorem fr_keep {D : va_G} {w : va_W} {H H1 : Heap} (hP : va_P D vwCl w H) (hk : ∀ q : Nat, q < H.size → ¬ H.size ≤ q → H1[q]? = H[q]?) : va_P D vwCl w H1 := fun k q hq => (hP k q hq).kept (hk q.1 (hP k q hq).lt (Nat.not_le.mpr (hP k q hq).lt))
/-- the texts of the desk's throws, by their places -/
def strs : List (Nat × String) := [(52, "skills is no set of kinds"), (57, "most is out of range"), (65, "the desk is full"), (80, "no such day or kind"), (83, "people is out of range"), (93, "no such kind or next"), (99, "days is out of range"), (108, "no such person or day"), (117, "neither an entry nor NONE"), (142, "no such entry"), (152, "the week would not be feasible"), (157, "no such person, other or day"), (163, "the same person, or a week would not be feasible"), (178, "no such person")]
/-- what is thrown here is none of an earlier handler's -/
def ncs : List (String × String) := []
def vnm : List String := ["java/lang/RuntimeException", "java/lang/Exception"]
def XS (A : Nat → Prop) (U : State) (H : Heap) : Prop := (∀ q ∈ strs, ∃ a, vk_R RX8 q.1 q.2 a U) ∧ (∀ q ∈ ncs, va_Nc q.1 q.2 U) ∧ vx_Zq Bundle.tN "UNASSIGNED_STACK" Bundle.steD A U H ∧ vx_Zq Bundle.tN "SUPPRESSED_SENTINEL" Bundle.listD A U H
theorem XS.warm {A : Nat → Prop} {s U : State} {H : Heap} (hW : s.WarmedH U.vm) (h : XS A s H) : XS A U H := ⟨fun q hq => (h.1 q hq).imp (fun a ha => ha.warm hW), fun q hq => va_Nc.moved hW.alike (h.2.1 q hq), vx_Zq.moved hW.alike h.2.2.1, vx_Zq.moved hW.alike h.2.2.2⟩
theorem XS.kept {A : Nat → Prop} {U : State} {H H1 : Heap} (h : XS A U H) (hq : ∀ a : Nat, a < H.size → ¬ A a → H1[a]? = H[a]?) : XS A U H1 := ⟨h.1, h.2.1, h.2.2.1.kept hq, h.2.2.2.kept hq⟩
theorem XS.narrow {A B : Nat → Prop} {U : State} {H : Heap} (h : XS A U H) (hAB : ∀ q, B q → A q) : XS B U H := ⟨h.1, h.2.1, h.2.2.1.narrow hAB, h.2.2.2.narrow hAB⟩
theorem XS.same {A : Nat → Prop} {u U : State} {H : Heap} (hv : U.vm = u.vm) (h : XS A u H) : XS A U H := h.warm (by rw [hv]; exact State.WarmedH.refl u)
theorem XS.law {s : State} {H : Heap} {locs : List Loc} (h : XS (fun q => s.heap.size ≤ q) s s.heap) (hS : va_S (fun q => s.heap.size ≤ q) s.heap H locs) : XS (fun q => H.size ≤ q) s H := (h.kept (fun a h1 h2 => hS.2.1 a h1 h2)).narrow (fun q hq => Nat.le_trans hS.1 hq)
abbrev tr_R (D : va_G) (tys : List (ClassId × FieldType)) (w0 : va_W) (sz : Nat) : State → Prop := fun U => U.heap.size = sz ∧ va_P D vwCl w0 U.heap ∧ KN D tys U ∧ XS (fun q => sz ≤ q) U U.heap
abbrev tr_Q (sz : Nat) : Array Value → State → Outcome → State → Prop := va_Qi (fun (_ : Int32) (_ : Unit) => False) (fun _ _ => True) (fun q => sz ≤ q)
abbrev tr_X (E : String) (sz : Nat) : String → State → State → Prop := vx_X (fun (_ : Unit) => True) (fun E1 _ _ => E1 = E) (fun q => sz ≤ q)
theorem KN.call {D : va_G} {tys : List (ClassId × FieldType)} {U : State} {g : JFrame} {mk : MethodId} {a : Array Value} (h : KN D tys U) : KN D tys (U.calling g mk a) := ⟨va_K.moved (u := U) (U := U.calling g mk a) (Vm.Alike.refl U.vm) h.1, fun w hw => va_Nw.same (u := U) (U := U.calling g mk a) (nw_tab w hw) rfl (h.2 w hw)⟩
theorem XS.call {A : Nat → Prop} {U : State} {H : Heap} {g : JFrame} {mk : MethodId} {a : Array Value} (h : XS A U H) : XS A (U.calling g mk a) H := XS.same (u := U) (U := U.calling g mk a) rfl h
theorem tr_blind (av : List Value) (D : va_G) (tys : List (ClassId × FieldType)) (ws : va_W) (sz : Nat) : FrameBlind (va_Pc av (tr_R D tys ws sz)) := fun a U g mk q => ⟨q.1, q.2.1, q.2.2.1, q.2.2.2.1.call, q.2.2.2.2.call⟩
abbrev wx_R (D : va_G) (tys : List (ClassId × FieldType)) (w0 : va_W) (sz : Nat) : State → Prop := fun U => U.heap.size = sz ∧ va_P D vwCl w0 U.heap ∧ KN D tys U ∧ va_D (fun _ => True) w0 ∧ XS (fun q => sz ≤ q) U U.heap
theorem wx_blind (av : List Value) (D : va_G) (tys : List (ClassId × FieldType)) (ws : va_W) (sz : Nat) : FrameBlind (va_Pc av (wx_R D tys ws sz)) := fun a U g mk q => ⟨q.1, q.2.1, q.2.2.1, q.2.2.2.1.call, q.2.2.2.2.1, q.2.2.2.2.2.call⟩
/-- a method that throws: from its entry -/
theorem tr_start {l : Launch} {y : MethodName} {ws ws' : List Cond} {rm : Room} {Qc : Array Value → State → Outcome → State → Prop} {XC : String → State → State → Prop} {cc : ByteArray} {maxL mc ms sz : Nat} {ret : Option FieldType} {D : va_G} {tys : List (ClassId × FieldType)} {w0 : va_W} {av : List Value} {free : Addr → Prop} (own : String) (hy : plainName y.cls = true ∧ y.cls = own) (hw : ws = Cond.code y cc maxL ret :: ws') (hlen : (lg_sl av).length ≤ maxL)
    (body : ∀ p e s m args below meth c, CallFix p m c cc maxL s args ws own → meth.sig.returnType = ret → meth.locks = false → (∀ x ∈ c.exceptionTable.toList, False) → s.heap.size = sz → va_P D vwCl w0 s.heap → KN D tys s → XS (fun q => sz ≤ q) s s.heap → ∀ ls : Array Slot, lv_has ls maxL (lv_args 0 av) →
      W p l e rm s m args below meth c s.heap [] 0 0 (vx_MQ below Qc XC args s mc ms free) (F0 m 0 ls [])) : vx_Met l y ws rm (va_Pc av (tr_R D tys w0 sz)) Qc XC mc ms free := by
  refine vx_ofW (cc := cc) (maxL := maxL) (ret := ret) hy.1 hw ?_
  intro p e s m args below meth c s₁ B hml hx hv
  obtain ⟨hv0, hsz, hP, hK, hX⟩ := hv
  subst hv0
  have hl := lv_entry av (n := maxL) hlen
  rw [lg_entry_eq]
  have hn := findClass_of_methodNamed B.named
  rw [hy.2] at hn
  exact body p e s m _ below meth c ⟨B.exec, B.bytes, hml, hn, atoms_spec (ws := ws) B.pre⟩ B.returns B.notSynchronized hx hsz hP hK hX _ hl
/-- a method with handlers, that returns: from its entry -/
theorem wx_start {l : Launch} {y : MethodName} {ws ws' : List Cond} {rm : Room} {Qc : Array Value → State → Outcome → State → Prop} {cc : ByteArray} {maxL mc ms sz : Nat} {ret : Option FieldType} {hh : List (Nat × Nat × Nat × Nat)} {D : va_G} {tys : List (ClassId × FieldType)} {w0 : va_W} {av : List Value} (own : String) (hy : plainName y.cls = true ∧ y.cls = own) (hw : ws = Cond.codeWith y cc maxL ret hh :: ws') (hlen : (lg_sl av).length ≤ maxL)
    (body : ∀ p e s m args below meth c, CallFix p m c cc maxL s args ws own → meth.sig.returnType = ret → meth.locks = false → c.exceptionTable.toList = tableOf hh → s.heap.size = sz → va_P D vwCl w0 s.heap → KN D tys s → (∀ q, s.heap.size ≤ q → va_A w0 sz q) → va_D (va_A w0 sz) w0 → va_S (va_A w0 sz) s.heap s.heap [] → XS (fun q => sz ≤ q) s s.heap → ∀ ls : Array Slot, lv_has ls maxL (lv_args 0 av) →
      W p l e rm s m args below meth c s.heap [] 0 0 (MQ below Qc args s mc ms (va_A w0 sz)) (F0 m 0 ls [])) : Met l y ws rm (va_Pc av (wx_R D tys w0 sz)) Qc mc ms (va_A w0 sz) := by
  refine MetFree.of_bodyS (code := cc) (maxLocals := maxL) (ret := ret) hy.1 ?_ ?_
  · intro args s m h hn
    obtain ⟨m9, meth, c, hn9, h1, h2, h3, h4, -, h5, h6, -⟩ := Cond.codeWith_spec (atoms_spec (ws := ws) h _ (by rw [hw]; exact List.mem_cons_self))
    cases hn.symm.trans hn9
    exact ⟨meth, c, h1, h2, h3, h4, h5, h6⟩
  · intro p e s m args below meth c s₁ B hml hv _
    obtain ⟨hv0, hsz, hP, hK, hD, hX⟩ := hv
    subst hv0
    subst hsz
    have hh0 : s₁.heap = s.heap := by rw [B.state]; rfl
    have hn := findClass_of_methodNamed B.named
    rw [hy.2] at hn
    have hts := atoms_spec (ws := ws) B.pre
    have ht := vx_table (x := y) B (hts _ (by rw [hw]; exact List.mem_cons_self))
    have hl := lv_entry av (n := maxL) hlen
    have hb := body p e s m _ below meth c ⟨B.exec, B.bytes, hml, hn, hts⟩ B.returns B.notSynchronized ht rfl hP hK (fun q h => Or.inr h) hD.self va_S.rf hX _ hl
    rw [← lg_entry_eq] at hb
    obtain ⟨t, a1, o, b1, b2, b3⟩ := hb s₁ hh0 (Stand.of_body B)
    exact ⟨t, o, a1, b1, b2, ⟨b3.1, b3.2⟩⟩
/-- the three kinds of exceptions that the desk throws -/
def trE (E : String) (ik ic : Nat) : Prop := Bundle.fit E = true ∧ (∀ w ∈ (vx_atS RX8 ic E vnm).filter (fun w => !goodWord w), w ∈ nw_all) ∧ ∀ w ∈ Cond.classLink RX8 ik E :: Cond.initialized E :: vx_atS RX8 ic E vnm, vx_ot w = true
theorem trE_1 : trE "java/lang/IllegalArgumentException" 50 54 := ⟨by decide +kernel, by decide +kernel, by decide +kernel⟩
theorem trE_2 : trE "java/lang/IllegalStateException" 63 67 := ⟨by decide +kernel, by decide +kernel, by decide +kernel⟩
theorem trE_3 : trE "java/lang/IndexOutOfBoundsException" 78 82 := ⟨by decide +kernel, by decide +kernel, by decide +kernel⟩
theorem vnm_fit : ∀ n ∈ vnm, Bundle.fit n = true := by decide +kernel
section FRT
variable {p : Program} {l : Launch} {e : Env} {R : Room} {s : State} {m : MethodId} {args : Array Value} {below : List Frame} {meth : Method} {c : Code} {H : Heap} {locs : List Loc} {cells slots : Nat} {Q : State → Prop}
variable {cc bytes : ByteArray} {nL maxL n index mc ms sz : Nat} {Ts ws ws' : List Cond} {own : String} {pc : Nat} {ls : Array Slot} {st rest As : List Value} {y : MethodName} {ret : Option FieldType} {hh : List (Nat × Nat × Nat × Nat)} {rm : Room} {D : va_G} {tys : List (ClassId × FieldType)} {wc wr : va_W} {lv : List (Nat × Value)} {A : Nat → Prop} {H0 : Heap} {cT : ClassId × ClassId × ClassId}
theorem t_throw (S : CallFix p m c cc nL s args Ts RX8) {E text : String} {ik is ic : Nat} (hl : l.stackTraces = false) (hE : trE E ik ic) (hsz : s.heap.size = sz) (hK : KN D tys s) (hX : XS (fun q => sz ≤ q) s s.heap) (hs : (is, text) ∈ strs) (hk : Cond.classLink RX8 ik E ∈ Ts ∧ Cond.initialized E ∈ Ts) (hw : ∀ w ∈ (vx_atS RX8 ic E vnm).filter goodWord, w ∈ Ts) (hsize : ls.size = nL) (d0 : decode cc pc = .ok (.new ik, 3)) (d3 : decode cc (pc + 3) = .ok (.dup, 1)) (d4 : decode cc (pc + 4) = .ok (.ldc is, 2)) (d6 : decode cc (pc + 6) = .ok (.invokespecial ic, 3)) (d9 : decode cc (pc + 9) = .ok (.athrow, 1))
    (hout : ∀ x ∈ c.exceptionTable.toList, False) (hR : 5 < R.frames ∧ 82 ≤ R.locals ∧ 1 ≤ R.cells ∧ 6 ≤ R.slots) (hlocks : meth.locks = false) : W p l e R s m args below meth c s.heap [] 0 0 (vx_MQ below (tr_Q sz) (tr_X E sz) args s 1 6 (fun q => sz ≤ q)) (F0 m pc ls []) := by
  obtain ⟨a, ha⟩ := hX.1 _ hs
  refine vx_throwS (A := fun q => sz ≤ q) (names := vnm) S.1 S.2.1 hl S.2.2.2.1 hE.1 vnm_fit (S.2.2.2.2 _ hk.1) (S.2.2.2.2 _ hk.2) ha (vx_hat (fun w h => S.2.2.2.2 _ (hw w h)) hE.2.1 (fun w h => va_Nw.use (nw_tab w h) (hK.2 w h))) hE.2.2 hX.2.2.1 hX.2.2.2 va_S.rf (hsize.trans S.2.2.1.symm) d0 d3 d4 d6 d9 (fun x hx => (hout x hx).elim) hR.1 ?_ ?_ ?_ hlocks (fun t _ h1 h2 => ⟨(), trivial, rfl, h1, fun q h3 _ => h2 q h3⟩) (fun _ h => nomatch h) (Nat.le_refl _) (Nat.le_refl _)
  · exact Nat.le_trans (Nat.le_of_ble_eq_true rfl) hR.2.1
  · rw [Nat.zero_add]; exact hR.2.2.1
  · rw [Nat.zero_add]; exact hR.2.2.2
theorem fr_callVi {St : Type} {post : Int32 → St → Prop} {w1 : St → va_W} {C : String} {b : Nat} (S : CallFix p m c cc nL s args Ts own) (hM : Met l y ws rm (va_Pc (.ref b :: As) (wr_R D tys wc H.size)) (wQi post D w1 (va_A wc H.size)) mc ms (va_A wc H.size)) (hT : GoodIn Ts (wsV own index C y ws)) (hw : ws = Cond.code y bytes maxL ret :: ws')
    (hd : y.cls = C ∧ y.cls ≠ "java/lang/invoke/MethodHandle" ∧ y.cls ≠ "java/lang/invoke/VarHandle" ∧ (parseMethodDescriptor y.desc).map (fun d => d.parameters.length) = some n) (hR : rm.cells = mc ∧ rm.slots = ms ∧ rm.frames + 1 ≤ R.frames ∧ 8 + (maxL + 11) + rm.locals ≤ R.locals)
    (hP : va_P D vwCl (wc ++ wr) H) (hK : KN D tys s) (hD : va_D A (wc ++ wr)) (hS : va_S A H0 H locs) (hA : ∀ q, H0.size ≤ q → A q) (hrecv : ∃ cell : Cell, H[b]? = some cell ∧ cell.vm.isStatics = false ∧ s.vm.findClass C = some cell.cls) (hl : lv_has ls nL lv) (hst : st = As.reverse ++ .ref b :: rest) (hn : As.length = n) (hroom : (rest.map fun v => v.category).sum ≤ 8) (hcs : cells + mc ≤ R.cells ∧ slots + ms ≤ R.slots) (d : decode cc pc = .ok (.invokevirtual index, 3))
    (kk : ∀ (r : Int32) (u : St) (H1 : Heap) (locs1 : List Loc), post r u → va_P D vwCl (w1 u ++ wr) H1 → va_D A (w1 u ++ wr) → va_S A H0 H1 locs1 → W p l e R s m args below meth c H1 locs1 (cells + mc) (slots + ms) Q (F0 m (pc + 3) ls (.int r :: rest))) : W p l e R s m args below meth c H locs cells slots Q (F0 m pc ls st) :=
  va_calli (va_runV (As := As) (rest := rest) S hM (cwV n S.2.2.2.2 hT hw hR.1 hR.2.1 hd ⟨hR.2.2.1, hR.2.2.2⟩) ⟨wr_blind _ _ _ _ _, hrecv, fun U hU hW => ⟨rfl, by rw [hU], by rw [hU]; exact fr_l hP, hK.warm hW, (fr_Dl hD).weaken (fun _ _ _ _ => trivial)⟩⟩ rfl hn hl.1 hst (lv_room hroom) d hcs) hS (fun q _ h => fr_F hD hS hA q h) (fr_F hD hS hA) (fun r u t H1 locs1 ht hvm hp hB hz hk hS1 => by
    obtain ⟨hP2, hD2⟩ := fr_join hP hD hk (fr_F hD hS hA) (by rw [← ht]; exact hB.1) hB.2
    exact kk r u H1 locs1 hp hP2 hD2 hS1)
theorem fr_callSi {St : Type} {post : Int32 → St → Prop} {w1 : St → va_W} (S : CallFix p m c cc nL s args Ts own) (hM : Met l y ws rm (va_Pc As (wx_R D tys wc H.size)) (wQi post D w1 (va_A wc H.size)) mc ms (va_A wc H.size)) (hT : GoodIn Ts (va_wsS own index y ws)) (hw : ws = Cond.codeWith y bytes maxL ret hh :: ws')
    (hd : y.cls ≠ "java/lang/invoke/MethodHandle" ∧ y.cls ≠ "java/lang/invoke/VarHandle" ∧ (parseMethodDescriptor y.desc).map (fun d => d.parameters.length) = some n) (hR : rm.cells = mc ∧ rm.slots = ms ∧ rm.frames + 1 ≤ R.frames ∧ 8 + (maxL + 11) + rm.locals ≤ R.locals)
    (hP : va_P D vwCl (wc ++ wr) H) (hK : KN D tys s) (hX : XS (fun q => H.size ≤ q) s H) (hD : va_D A (wc ++ wr)) (hS : va_S A H0 H locs) (hA : ∀ q, H0.size ≤ q → A q) (hl : lv_has ls nL lv) (hst : st = As.reverse ++ rest) (hn : As.length = n) (hroom : (rest.map fun v => v.category).sum ≤ 8) (hcs : cells + mc ≤ R.cells ∧ slots + ms ≤ R.slots) (d : decode cc pc = .ok (.invokestatic index, 3))
    (kk : ∀ (r : Int32) (u : St) (H1 : Heap) (locs1 : List Loc), post r u → va_P D vwCl (w1 u ++ wr) H1 → va_D A (w1 u ++ wr) → va_S A H0 H1 locs1 → W p l e R s m args below meth c H1 locs1 (cells + mc) (slots + ms) Q (F0 m (pc + 3) ls (.int r :: rest))) : W p l e R s m args below meth c H locs cells slots Q (F0 m pc ls st) :=
  va_calli (vx_runSW (As := As) (rest := rest) S hM (vx_cwSW n S.2.2.2.2 hT hw hR.1 hR.2.1 hd ⟨hR.2.2.1, hR.2.2.2⟩) ⟨wx_blind _ _ _ _ _, fun U hU hW => ⟨rfl, by rw [hU], by rw [hU]; exact fr_l hP, hK.warm hW, (fr_Dl hD).weaken (fun _ _ _ _ => trivial), by rw [hU]; exact hX.warm hW⟩⟩ rfl hn hl.1 hst (lv_room hroom) d hcs) hS (fun q _ h => fr_F hD hS hA q h) (fr_F hD hS hA) (fun r u t H1 locs1 ht hvm hp hB hz hk hS1 => by
    obtain ⟨hP2, hD2⟩ := fr_join hP hD hk (fr_F hD hS hA) (by rw [← ht]; exact hB.1) hB.2
    exact kk r u H1 locs1 hp hP2 hD2 hS1)
theorem fr_callVx {E : String} {C : String} {b : Nat} (S : CallFix p m c cc nL s args Ts own) (hM : vx_Met l y ws rm (va_Pc (.ref b :: As) (tr_R D tys wc H.size)) (tr_Q H.size) (tr_X E H.size) 1 6 (fun q => H.size ≤ q)) (hT : GoodIn Ts (wsV own index C y ws)) (hw : ws = Cond.code y bytes maxL ret :: ws')
    (hd : y.cls = C ∧ y.cls ≠ "java/lang/invoke/MethodHandle" ∧ y.cls ≠ "java/lang/invoke/VarHandle" ∧ (parseMethodDescriptor y.desc).map (fun d => d.parameters.length) = some n) (hR : rm.cells = 1 ∧ rm.slots = 6 ∧ rm.frames + 1 ≤ R.frames ∧ 8 + (maxL + 11) + rm.locals ≤ R.locals)
    (hP : va_P D vwCl (wc ++ wr) H) (hK : KN D tys s) (hX : XS (fun q => H.size ≤ q) s H) (hS : va_S A H0 H locs) (hA : ∀ q, H0.size ≤ q → A q) (hrecv : ∃ cell : Cell, H[b]? = some cell ∧ cell.vm.isStatics = false ∧ s.vm.findClass C = some cell.cls) (hl : lv_has ls nL lv) (hst : st = As.reverse ++ .ref b :: rest) (hn : As.length = n) (hroom : (rest.map fun v => v.category).sum ≤ 8) (hcs : cells + 1 ≤ R.cells ∧ slots + 6 ≤ R.slots) (d : decode cc pc = .ok (.invokevirtual index, 3))
    (kk : ∀ (q9 : Addr) (ce : Cell) (H1 : Heap) (locs1 : List Loc), va_P D vwCl (wc ++ wr) H1 → va_S A H0 H1 locs1 → H1[q9]? = some ce → ce.vm = .none → s.vm.findClass E = some ce.cls → vx_W p l e R s m args below meth c H1 locs1 (cells + 1) (slots + 6) Q (F0 m pc ls rest) q9) : W p l e R s m args below meth c H locs cells slots Q (F0 m pc ls st) :=
  vx_calli (vx_runV (As := As) (rest := rest) S hM (cwV n S.2.2.2.2 hT hw hR.1 hR.2.1 hd ⟨hR.2.2.1, hR.2.2.2⟩) ⟨tr_blind _ _ _ _ _, hrecv, fun U hU hW => ⟨rfl, by rw [hU], by rw [hU]; exact fr_l hP, hK.warm hW, by rw [hU]; exact hX.warm hW⟩⟩ rfl hn hl.1 hst (lv_room hroom) d hcs) hS (fun q h1 h2 => absurd h2 (Nat.not_le.mpr h1)) (fun q h => hA q (Nat.le_trans hS.1 h)) (fun q h1 h2 => absurd h2 (Nat.not_le.mpr h1))
    (fun E1 ce q9 u t H1 locs1 ht hvm _ hB hz hk hS1 hc hv hcl => by
      cases hB
      exact kk q9 ce H1 locs1 (fr_keep hP hk) hS1 hc hv hcl)
    (fun _ _ _ _ _ _ _ h => h.elim)
end FRT
/-- a truth as a long -/
def bl (r : Int32) : Int64 := if r = 0 then 0 else 1
