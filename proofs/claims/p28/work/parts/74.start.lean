/-! the law's start: what stands there -/
theorem strs_in : ∀ q ∈ strs, Cond.stringRef RX8 q.1 q.2 ∈ tables_1 := by decide +kernel
theorem tl_in {w : Cond} (h : w ∈ tables_1) : w ∈ lw_tbl := List.mem_append_right _ h
theorem tl_1 : Cond.arrayClass .int ∈ tables_1 := by decide +kernel
theorem tl_2 : Cond.arrayClass .long ∈ tables_1 := by decide +kernel
theorem tl_3 : Cond.arrayOver (.object RX4) ∈ tables_1 := by decide +kernel
theorem tl_4 : Cond.laysStatic Bundle.tN "UNASSIGNED_STACK" Bundle.steD ∈ tables_1 := by decide +kernel
theorem tl_5 : Cond.laysStatic Bundle.tN "SUPPRESSED_SENTINEL" Bundle.listD ∈ tables_1 := by decide +kernel
theorem tl_6 : Cond.initialized Bundle.tN ∈ tables_1 := by decide +kernel
theorem tl_iX0 : Cond.instantiable RX0 0 ∈ tables_1 := by decide +kernel
theorem tl_iX1 : Cond.instantiable RX1 2 ∈ tables_1 := by decide +kernel
theorem tl_iX3 : Cond.instantiable RX3 1 ∈ tables_1 := by decide +kernel
theorem tl_iX4 : Cond.instantiable RX4 8 ∈ tables_1 := by decide +kernel
theorem tl_iX5 : Cond.instantiable RX5 1 ∈ tables_1 := by decide +kernel
theorem tl_iX6 : Cond.instantiable RX6 2 ∈ tables_1 := by decide +kernel
theorem tl_iX8 : Cond.instantiable RX8 9 ∈ tables_1 := by decide +kernel
theorem arr_known {s : State} {args : Array Value} {ty : FieldType} (h : (Cond.arrayClass ty).before args s = true) : ∃ cA : ClassId, ArrOfT s cA ty ∧ s.vm.findClass ("[" ++ ty.toString) = some cA := by
  obtain ⟨cA, kA, comp, h1, h2, h3⟩ := Cond.arrayClass_spec h
  exact ⟨cA, fun n z => ⟨fun k q => (by cases q), kA, h2, comp, h3⟩, h1⟩
theorem law_KN {s : State} {args : Array Value} (hts : ∀ w ∈ lw_tbl, w.before args s = true) : ∃ (D : va_G) (cT : ClassId × ClassId × ClassId), KN D (TY cT) s := by
  obtain ⟨c0, i0, hk0⟩ := u_known (C := RX0) (T := TX0) (N := 0) (n := 0) hts inX0 (hts _ (tl_in tl_iX0))
  obtain ⟨c1, i1, hk1⟩ := u_known (C := RX1) (T := TX1) (N := 2) (n := 2) hts inX1 (hts _ (tl_in tl_iX1))
  obtain ⟨c2, i2, hk2⟩ := u_known (C := RX3) (T := TX3) (N := 1) (n := 1) hts inX3 (hts _ (tl_in tl_iX3))
  obtain ⟨c3, i3, hk3⟩ := u_known (C := RX4) (T := TX4) (N := 8) (n := 8) hts inX4 (hts _ (tl_in tl_iX4))
  obtain ⟨c4, i4, hk4⟩ := u_known (C := RX5) (T := TX5) (N := 1) (n := 1) hts inX5 (hts _ (tl_in tl_iX5))
  obtain ⟨c5, i5, hk5⟩ := u_known (C := RX6) (T := TX6) (N := 2) (n := 2) hts inX6 (hts _ (tl_in tl_iX6))
  obtain ⟨c6, i6, hk6⟩ := u_known (C := RX8) (T := TX8) (N := 9) (n := 9) hts inX8 (hts _ (tl_in tl_iX8))
  obtain ⟨ci, ai, fi⟩ := arr_known (hts _ (tl_in tl_1))
  obtain ⟨cl, al, fl⟩ := arr_known (hts _ (tl_in tl_2))
  obtain ⟨comp, cq, kq, hq1, -, hq3, hq4, hq5⟩ := Cond.arrayOver_spec (hts _ (tl_in tl_3))
  refine ⟨(fun k => [c0, c1, c2, c3, c4, c5, c6].getD k 0, fun k => [i0, i1, i2, i3, i4, i5, i6].getD k (fun _ => 0)), (ci, cl, cq), ⟨fun k q hq => ?_, fun k q hq => ?_⟩, fun w hw => va_tabs (nw_tab w hw) rfl (hts w (tl_in (nw_in w hw)))⟩
  · match k, hq with
    | 0, hq => cases hq; exact hk0
    | 1, hq => cases hq; exact hk1
    | 2, hq => cases hq; exact hk2
    | 3, hq => cases hq; exact hk3
    | 4, hq => cases hq; exact hk4
    | 5, hq => cases hq; exact hk5
    | 6, hq => cases hq; exact hk6
    | k + 7, hq => simp [vwCl] at hq
  · match k, hq with
    | 0, hq => cases hq; exact ⟨ai, fi⟩
    | 1, hq => cases hq; exact ⟨al, fl⟩
    | 2, hq => cases hq; exact ⟨fun n z => ⟨fun k q => (by cases q), kq, hq3, comp, hq4⟩, kq, comp, hq3, hq4, hq1, hq5⟩
    | k + 3, hq => simp [TY] at hq
theorem law_XS {s : State} {args : Array Value} (hts : ∀ w ∈ lw_tbl, w.before args s = true) (hgv : (Jvm.Cond.and given_1 narrow_1).before args s = true) : XS (fun q => s.heap.size ≤ q) s s.heap := by
  have hs := flat_of_before _ hgv
  obtain ⟨c8, i8, hk8⟩ := u_known (C := RX8) (T := TX8) (N := 9) (n := 9) hts inX8 (hts _ (tl_in tl_iX8))
  obtain ⟨cur, k8, hcur, -⟩ := Cond.instantiable_spec (hts _ (tl_in tl_iX8))
  refine ⟨fun q hq => ?_, fun q hq => ?_, vx_Zqof (hts _ (tl_in tl_4)) (hts _ (tl_in tl_6)) (hs _ (by decide +kernel)) (fun a h1 h2 => absurd h1 (Nat.not_lt.mpr h2)), vx_Zqof (hts _ (tl_in tl_5)) (hts _ (tl_in tl_6)) (hs _ (by decide +kernel)) (fun a h1 h2 => absurd h1 (Nat.not_lt.mpr h2))⟩
  · have h1 := hts _ (tl_in (strs_in q hq))
    obtain ⟨k, cf, i, a, -, -, -, -, -, h2⟩ := Cond.stringRef_spec hcur h1
    exact ⟨a, vk_R.of h1 h2⟩
  · simp [ncs] at hq
section FRI
variable {p : Program} {l : Launch} {e : Env} {R : Room} {s : State} {m : MethodId} {args : Array Value} {below : List Frame} {meth : Method} {c : Code} {H : Heap} {locs : List Loc} {cells slots : Nat} {Q : State → Prop}
variable {cc bytes : ByteArray} {nL maxL n index mc ms : Nat} {Ts ws ws' : List Cond} {own : String} {pc : Nat} {ls : Array Slot} {st rest As : List Value} {y : MethodName} {rm : Room} {D : va_G} {tys : List (ClassId × FieldType)} {wc : va_W} {lv : List (Nat × Value)} {A : Nat → Prop} {H0 : Heap}
theorem wrE_blind {C : String} (av : List Value) (D : va_G) (tys : List (ClassId × FieldType)) (ws : va_W) (sz : Nat) : FrameBlind (va_Pc av (wr_RE (va_AO C) D tys ws sz)) := fun a U g mk q => ⟨q.1, q.2.1, q.2.2.1, q.2.2.2.1.call, q.2.2.2.2.1, va_AO.moved (u := U) (U := U.calling g mk a) (Vm.Alike.refl U.vm) q.2.2.2.2.2⟩
theorem n_callE {C : String} {St : Type} {post : St → Prop} {w1 : St → va_W} {b : Nat} (S : CallFix p m c cc nL s args Ts own) (hE : va_AO C s) (hM : Met l y ws rm (va_Pc (.ref b :: As) (wr_RE (va_AO C) D tys wc H.size)) (wQv post D w1 (va_A wc H.size)) mc ms (va_A wc H.size)) (hG : GoodIn Ts ws) (hw : ws = Cond.code y bytes maxL none :: ws') (hk : Cond.methodLink own index y ∈ Ts) (hi : Cond.initialized y.cls ∈ Ts ∧ Cond.instanceMethod y ∈ Ts ∧ y.name = "<init>")
    (hd : y.cls ≠ "java/lang/invoke/MethodHandle" ∧ y.cls ≠ "java/lang/invoke/VarHandle" ∧ (parseMethodDescriptor y.desc).map (fun d => d.parameters.length) = some n) (hR : rm.cells = mc ∧ rm.slots = ms ∧ rm.frames + 1 ≤ R.frames ∧ 8 + (maxL + 11) + rm.locals ≤ R.locals)
    (hP : va_P D vwCl wc H) (hK : KN D tys s) (hD : va_D A wc) (hS : va_S A H0 H locs) (hA : ∀ q, H0.size ≤ q → A q) (hl : lv_has ls nL lv) (hst : st = As.reverse ++ .ref b :: rest) (hn : As.length = n) (hroom : (rest.map fun v => v.category).sum ≤ 8) (hcs : cells + mc ≤ R.cells ∧ slots + ms ≤ R.slots) (d : decode cc pc = .ok (.invokespecial index, 3))
    (kk : ∀ (u : St) (H1 : Heap) (locs1 : List Loc), post u → va_P D vwCl (w1 u) H1 → va_D A (w1 u) → va_S A H0 H1 locs1 → W p l e R s m args below meth c H1 locs1 (cells + mc) (slots + ms) Q (F0 m (pc + 3) ls (rest))) : W p l e R s m args below meth c H locs cells slots Q (F0 m pc ls st) :=
  va_callv (va_runI (As := As) (rest := rest) S hM (cwI n S.2.2.2.2 hG hw hR.1 hR.2.1 (S.2.2.2.2 _ hi.1) (S.2.2.2.2 _ hk) (S.2.2.2.2 _ hi.2.1) hi.2.2 hd ⟨hR.2.2.1, hR.2.2.2⟩) ⟨wrE_blind _ _ _ _ _, fun U hU hW => ⟨rfl, by rw [hU], by rw [hU]; exact hP, hK.warm hW, hD.weaken (fun _ _ _ _ => trivial), va_AO.moved hW.alike hE⟩⟩ rfl hn hl.1 hst (lv_room hroom) d hcs) hS (fun q _ h => wr_F hD hS hA q h) (wr_F hD hS hA) (fun u t H1 locs1 ht hvm hp hB hz hk hS1 => kk u H1 locs1 hp (by rw [← ht]; exact hB.1) (hB.2.weaken (fun _ _ _ h => wr_F hD hS hA _ h)) hS1)
theorem n_callL {St : Type} {post : St → Prop} {w1 : St → va_W} {b : Nat} (S : CallFix p m c cc nL s args Ts own) (hM : Met l y ws rm (va_Pc (.ref b :: As) (wr_R D tys wc H.size)) (wQv post D w1 (va_A wc H.size)) mc ms (va_A wc H.size)) (hG : GoodIn Ts ws) (hw : ws = Cond.code y bytes maxL none :: ws') (hk : Cond.methodLink own index y ∈ Ts) (hi : Cond.initialized y.cls ∈ Ts ∧ Cond.instanceMethod y ∈ Ts ∧ y.name = "<init>")
    (hd : y.cls ≠ "java/lang/invoke/MethodHandle" ∧ y.cls ≠ "java/lang/invoke/VarHandle" ∧ (parseMethodDescriptor y.desc).map (fun d => d.parameters.length) = some n) (hR : rm.cells = mc ∧ rm.slots = ms ∧ rm.frames + 1 ≤ R.frames ∧ 8 + (maxL + 11) + rm.locals ≤ R.locals)
    (hP : va_P D vwCl wc H) (hK : KN D tys s) (hD : va_D A wc) (hS : va_S A H0 H locs) (hA : ∀ q, H0.size ≤ q → A q) (hl : lv_has ls nL lv) (hst : st = As.reverse ++ .ref b :: rest) (hn : As.length = n) (hroom : (rest.map fun v => v.category).sum ≤ 8) (hcs : cells + mc ≤ R.cells ∧ slots + ms ≤ R.slots) (d : decode cc pc = .ok (.invokespecial index, 3))
    (kk : ∀ (u : St) (H1 : Heap) (locs1 : List Loc), post u → va_P D vwCl (w1 u) H1 → va_D A (w1 u) → va_S A H0 H1 locs1 → W p l e R s m args below meth c H1 locs1 (cells + mc) (slots + ms) Q (F0 m (pc + 3) ls (rest))) : W p l e R s m args below meth c H locs cells slots Q (F0 m pc ls st) :=
  va_callv (va_runI (As := As) (rest := rest) S hM (cwI n S.2.2.2.2 hG hw hR.1 hR.2.1 (S.2.2.2.2 _ hi.1) (S.2.2.2.2 _ hk) (S.2.2.2.2 _ hi.2.1) hi.2.2 hd ⟨hR.2.2.1, hR.2.2.2⟩) ⟨wr_blind _ _ _ _ _, fun U hU hW => ⟨rfl, by rw [hU], by rw [hU]; exact hP, hK.warm hW, hD.weaken (fun _ _ _ _ => trivial)⟩⟩ rfl hn hl.1 hst (lv_room hroom) d hcs) hS (fun q _ h => wr_F hD hS hA q h) (wr_F hD hS hA) (fun u t H1 locs1 ht hvm hp hB hz hk hS1 => kk u H1 locs1 hp (by rw [← ht]; exact hB.1) (hB.2.weaken (fun _ _ _ h => wr_F hD hS hA _ h)) hS1)
end FRI
theorem ia_P {D : va_G} {ws : va_W} {H : Heap} {a n k0 : Nat} {cA : ClassId} {f g : Nat → Int32} (he : ws[k0]? = some (a, .inl (cA, n, .inl f))) (hfg : ∀ j, j < n → f j = g j) (hP : va_P D vwCl ws H) : va_P D vwCl (ws.set k0 (a, .inl (cA, n, .inl g))) H := by
  intro k q hq
  by_cases hk : k0 = k
  · subst hk
    rw [List.getElem?_set_self (List.getElem?_eq_some_iff.mp he).1] at hq
    cases hq
    have h1 : H[a]? = some (vp_cell cA (n, .inl f)) := hP _ _ he
    show H[a]? = some (vp_cell cA (n, .inl g))
    rw [h1, vp_cell_i, vp_cell_i]
    exact congrArg some (arrV_ext (fun j hj => by rw [hfg j hj]))
  · rw [List.getElem?_set_ne hk] at hq
    exact hP k q hq
theorem ia_D {A : Nat → Prop} {ws : va_W} {a n k0 : Nat} {cA : ClassId} {f g : Nat → Int32} (he : ws[k0]? = some (a, .inl (cA, n, .inl f))) (hD : va_D A ws) : va_D A (ws.set k0 (a, .inl (cA, n, .inl g))) := by
  have key : ∀ (k : Nat) (q : Nat × va_E), (ws.set k0 (a, .inl (cA, n, .inl g)))[k]? = some q → ∃ e, ws[k]? = some (q.1, e) := by
    intro k q hq
    by_cases hk : k0 = k
    · subst hk
      rw [List.getElem?_set_self (List.getElem?_eq_some_iff.mp he).1] at hq
      cases hq
      exact ⟨_, he⟩
    · rw [List.getElem?_set_ne hk] at hq
      exact ⟨q.2, hq⟩
  refine ⟨fun i j x y hx hy hxy => ?_, fun k q hq => ?_⟩
  · obtain ⟨e1, h1⟩ := key i x hx
    obtain ⟨e2, h2⟩ := key j y hy
    exact hD.1 i j _ _ h1 h2 hxy
  · obtain ⟨e1, h1⟩ := key k q hq
    exact hD.2 k (q.1, e1) h1
theorem hf_z (k : Nat) : hfn (fun _ => 0) (fun _ => 0) (fun _ => 0) (fun _ => 0) (fun _ => 0) (fun _ => 0) k = 0 := by
  show hsel _ _ _ _ _ _ (k % 8) (k / 8) = 0
  match k % 8 with
  | 0 => rfl
  | 1 => rfl
  | 2 => rfl
  | 3 => rfl
  | 4 => rfl
  | 5 => rfl
  | n + 6 => rfl
theorem nf_z (k : Nat) : va_up (va_up (va_up (va_up (fun _ => 0) 37 1) 41 1) 42 1) 44 5 k = nfn 25088 5 (fun _ => 0) k := by
  by_cases h : k < 45
  · have all : ∀ k, k < 45 → va_up (va_up (va_up (va_up (fun _ => 0) 37 1) 41 1) 42 1) 44 5 k = nfn 25088 5 (fun _ => 0) k := by decide +kernel
    exact all k h
  · rw [vu_n (by omega), vu_n (by omega), vu_n (by omega), vu_n (by omega)]
    show 0 = (if k < 28 then 0 else if k < 44 then bit 25088 (k - 28) else if k = 44 then 5 else 0)
    rw [if_neg (by omega), if_neg (by omega), if_neg (by omega)]
theorem qf_z (k : Nat) : qfn 0 0 0 k = 0 := by
  match k with
  | 0 => rfl
  | 1 => rfl
  | 2 => rfl
  | n + 3 => rfl
theorem nib_z (d : Nat) : nib 0 d = 0 := by show 0 / _ % 16 = 0; rw [Nat.zero_div]
theorem upd_mem {f : Nat → Int32} {k : Nat} {v : Int32} (h : ∀ j, j < k → f j = v) : ∀ j, j < k + 1 → upd f k v j = v := by
  intro j hj
  show (if j = k then v else f j) = v
  by_cases e : j = k
  · rw [if_pos e]
  · rw [if_neg e]; exact h j (by omega)
theorem ok_0 : okN 0 0 0 25088 5 (fun _ => 0) (fun _ => 0) (fun _ => 0) (fun _ => 0) (fun _ => 0) (fun _ => 0) (fun _ => 0) (fun _ => 0) (fun _ => 0) := ⟨⟨by decide, by decide, by decide, by decide, fun _ => Nat.zero_le _, fun _ => ⟨(by decide : 0 < 16), Nat.zero_le _, (by decide : 0 < 16384), (by decide : 0 < 2 ^ 28), (by decide : 0 < 128), (by decide : 0 < 4), Nat.zero_le _, Nat.zero_le _⟩⟩, by decide, Nat.zero_le _, fun _ _ => ⟨rfl, rfl, rfl, rfl, rfl, rfl⟩⟩
theorem ok_start (a b : Nat) : (sg_mk 0 0 0 25088 5 a b (fun _ => 0) (fun _ => 0) (fun _ => 0) (fun _ => 0) (fun _ => 0) (fun _ => 0) (fun _ => 0) (fun _ => 0) (fun _ => 0) (fun _ => 0) (fun _ => 0) (fun _ => 0) (fun _ => 0) (fun _ => nI 0) (fun _ => nI 0)).ok 0 := ok_0
theorem wd_1 : Cond.classLink RL 11 RX8 ∈ wsL_law := by decide +kernel
theorem wd_2 : Cond.instantiable RX8 9 ∈ wsL_law := by decide +kernel
theorem wd_3 : Cond.initialized RX8 ∈ wsL_law := by decide +kernel
theorem wd_7 : Cond.arrayClass .int ∈ wsL_law := by decide +kernel
theorem wd_8 : Cond.methodLink RL 123 yX8_init ∈ wsL_law := by decide +kernel
theorem wd_9 : Cond.instanceMethod yX8_init ∈ wsL_law := by decide +kernel
