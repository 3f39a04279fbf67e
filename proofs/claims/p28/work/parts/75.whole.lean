/-! THE CLAIM OUT OF ONE WALK OF THE LAW'S BODY. Your part is whole_start (and what it stands on); all else here is the same for every law, but numbers. -/
def R_law : String := "CoverSheetLaw"
def lw_P (b : Addr) (xs : List Int32) (args : Array Value) (s : State) : Prop := args = #[.ref b] ∧ s.IntsAt b xs ∧ xs.length ≤ 260 ∧ (Jvm.Cond.and given_1 narrow_1).before args s = true
def lw_Q (_ : Array Value) (s : State) (o : Outcome) (t : State) : Prop := o = .returned (some (.int 1)) ∧ Framed s o t [] 600130 7301080
def lw_Z (below : List Frame) (a : Array Value) (s : State) : State → Prop := fun t => ∃ o, t.status = .running ∧ Ended t below o ∧ lw_Q a s o t
/-- the law's own end, with 1 on the stack, nothing written that was there before, its room as the claim has it -/
theorem lw_ret {p : Program} {l : Launch} {e : Env} {s : State} {m : MethodId} {below : List Frame} {meth : Method} {c : Code} {b : Nat} (hx : p.tables.exec = Jvm.exec) (hb : c.code = code) (hr : meth.sig.returnType = ret) (hlocks : meth.locks = false) {pc : Nat} {H : Heap} {ls : Array Slot} (hdg : decode code pc = .ok (.ireturn, 1)) : W p l e room_1 s m #[Value.ref b] below meth c H [] 600130 7301080 (lw_Z below #[Value.ref b] s) (F0 m pc ls [.int 1]) := by
  intro T hT X
  obtain ⟨fs, hret, hrun, hended, hW, hframe⟩ := X.leave (v := some (.int 1)) (hlocks := hlocks) (fun h => by rw [hr] at h; cases h)
  have hmeth' : T.vm.method? m = some meth := X.method'
  refine ⟨T.setFrames fs, ?_, .returned (some (.int 1)), hrun, hended, rfl, ⟨_, rfl⟩, hW, hframe⟩
  jvm_step X.here [X.here.top, hx, hb, hdg, hmeth', hr, ret, narrow_b1]
  (try refine ⟨rfl, ?_⟩); (try refine ⟨rfl, ?_⟩)
  first | (intro acts; rw [hret _ acts rfl rfl rfl]) | rw [hret _ _ rfl rfl rfl]
  exact Steps.refl _
/-- what holds at the law's entry: the machine, the code, the tables' words (any of lw_tbl by 'hts w (by decide +kernel)'), the script of L ints xs at the cell b, what the Statement gives of the start (any of its parts by flat_of_before) -/
def lw_At (p : Program) (s : State) (m : MethodId) (meth : Method) (c : Code) (b L : Nat) (xs : Nat → Int32) : Prop :=
  p.tables.exec = Jvm.exec ∧ c.code = code ∧ meth.sig.returnType = ret ∧ c.maxLocals = 19 ∧ s.vm.findClass R_law = some m.cls ∧ (∀ w ∈ lw_tbl, w.before #[Value.ref b] s = true) ∧ va_X b L xs s s.heap ∧ b < s.heap.size ∧ meth.locks = false ∧ (Jvm.Cond.and given_1 narrow_1).before #[Value.ref b] s = true
set_option maxHeartbeats 4000000 in
set_option maxRecDepth 100000 in
theorem whole_start {p : Program} {e : Env} {s : State} {m : MethodId} {below : List Frame} {meth : Method} {c : Code} (l : Launch) (hflags : l.flags = flags0) {b L : Nat} {xs : Nat → Int32} (hL : L ≤ 260) (C0 : lw_At p s m meth c b L xs) : W p l e room_1 s m #[Value.ref b] below meth c s.heap [] 0 0 (lw_Z below #[Value.ref b] s) (entryFrame m ([Value.ref b] : List Value).toArray 19) := by
  obtain ⟨hx, hb, hr, hml, hown, hts, hX, hbl, hlocks, hgv⟩ := id C0
  have hfl : l.stackTraces = false := by unfold Launch.stackTraces; rw [hflags]; decide +kernel
  obtain ⟨D, cT, hK⟩ := law_KN hts
  have hXS := law_XS hts hgv
  have hE : va_AO RX4 s := va_AO.of (hts _ (tl_in tl_3))
  have S : CallFix p m c cL_law 19 s #[Value.ref b] wsL_law RL := ⟨hx, hb, hml, hown, fun w h => hts w (wsL_law_in w h)⟩
  have X : LA p s m meth c b L xs D cT := ⟨S, hL, hX, hbl, hK, hXS⟩
  have hA : ∀ q : Nat, s.heap.size ≤ q → AL s q := fun _ h => h
  have hS : va_S (AL s) s.heap s.heap [] := va_S.rf
  have hP : va_P D vwCl [] s.heap := fun k q h => by simp at h
  have hD : va_D (AL s) [] := ⟨fun i j p q h => by simp at h, fun k q h => by simp at h⟩
  have hl := lv_entry ([.ref b]) (n := 19) (Nat.le_of_ble_eq_true rfl)
  rw [lg_entry_eq]
  generalize (lg_sl ([.ref b]) ++ List.replicate (19 - (lg_sl ([.ref b])).length) Slot.unset).toArray = ls at hl ⊢
  have hl : lv_has ls 19 [(0, .ref b)] := hl
  refine n_new (C := RX8) (T := TX8) (N := 9) S 6 inlX8 tyX8 tyX8_ok ⟨wd_1, wd_2, wd_3⟩ hK hP hD hS hA rfl [.null, .null, .null, .null, .null, .null, .int 0, .int 0, .int 0] (fun j hj => match j, hj with | 0, _ => rfl | 1, _ => rfl | 2, _ => rfl | 3, _ => rfl | 4, _ => rfl | 5, _ => rfl | 6, _ => rfl | 7, _ => rfl | 8, _ => rfl | n + 9, h => absurd h (by omega)) ⟨Nat.le_of_ble_eq_true rfl, Nat.le_of_ble_eq_true rfl⟩ dL_law_0 (fun a H hP hD hS => ?_)
  refine lv_dup S.1 S.2.1 dL_law_3 rfl ?_
  refine n_callE (As := []) (rest := [.ref a]) (n := 0) S hE (w_X8_init l D cT _ [] a) gL_law_X8_init rfl wd_8 ⟨wd_3, wd_9, rfl⟩ ⟨by decide +kernel, by decide +kernel, rfl⟩ ⟨rfl, rfl, Nat.le_of_ble_eq_true rfl, Nat.le_of_ble_eq_true rfl⟩ hP hK hD hS hA hl rfl rfl (Nat.le_of_ble_eq_true rfl) ⟨Nat.le_of_ble_eq_true rfl, Nat.le_of_ble_eq_true rfl⟩ dL_law_4 (fun u H locs hu hP2 hD2 hS2 => ?_)
  have hu : u.1 0 = a := hu
  subst hu
  have hP : va_P D vwCl (cX cT u.1 u.2.1 u.2.2 0 0 0 25088 5 (fun _ => 0) (fun _ => 0) (fun _ => 0) (fun _ => 0) (fun _ => 0)) H := hP2
  have hD : va_D (AL s) (cX cT u.1 u.2.1 u.2.2 0 0 0 25088 5 (fun _ => 0) (fun _ => 0) (fun _ => 0) (fun _ => 0) (fun _ => 0)) := hD2
  have hS := hS2
  refine lv_astore_n (lv' := [(1, .ref (u.1 0)), (0, .ref b)]) S.1 S.2.1 dL_law_7 rfl hl (by decide) rfl (fun ls hl => ?_)
  refine lv_bipush (v := nI 64) S.1 S.2.1 dL_law_8 (by decide) ?_
  refine n_newi (N := 64) S hK hP hD hS hA wd_7 (by decide +kernel) ⟨Nat.le_of_ble_eq_true rfl, Nat.le_of_ble_eq_true rfl⟩ dL_law_10 (fun a1 H hP hD hS => ?_)
  refine lv_astore_n (lv' := [(2, .ref a1), (1, .ref (u.1 0)), (0, .ref b)]) S.1 S.2.1 dL_law_12 rfl hl (by decide) rfl (fun ls hl => ?_)
  refine lv_bipush (v := nI 56) S.1 S.2.1 dL_law_13 (by decide) ?_
  refine n_newi (N := 56) S hK hP hD hS hA wd_7 (by decide +kernel) ⟨Nat.le_of_ble_eq_true rfl, Nat.le_of_ble_eq_true rfl⟩ dL_law_15 (fun a2 H hP hD hS => ?_)
  refine lv_astore_n (lv' := [(3, .ref a2), (2, .ref a1), (1, .ref (u.1 0)), (0, .ref b)]) S.1 S.2.1 dL_law_17 rfl hl (by decide) rfl (fun ls hl => ?_)
  refine lv_bipush (v := nI 56) S.1 S.2.1 dL_law_18 (by decide) ?_
  refine n_newi (N := 56) S hK hP hD hS hA wd_7 (by decide +kernel) ⟨Nat.le_of_ble_eq_true rfl, Nat.le_of_ble_eq_true rfl⟩ dL_law_20 (fun a3 H hP hD hS => ?_)
  refine lv_astore (lv' := [(4, .ref a3), (3, .ref a2), (2, .ref a1), (1, .ref (u.1 0)), (0, .ref b)]) S.1 S.2.1 dL_law_22 hl (by decide) rfl (fun ls hl => ?_)
  refine lv_bipush (v := nI 45) S.1 S.2.1 dL_law_24 (by decide) ?_
  refine n_newi (N := 45) S hK hP hD hS hA wd_7 (by decide +kernel) ⟨Nat.le_of_ble_eq_true rfl, Nat.le_of_ble_eq_true rfl⟩ dL_law_26 (fun a4 H hP hD hS => ?_)
  refine lv_astore (lv' := [(5, .ref a4), (4, .ref a3), (3, .ref a2), (2, .ref a1), (1, .ref (u.1 0)), (0, .ref b)]) S.1 S.2.1 dL_law_28 hl (by decide) rfl (fun ls hl => ?_)
  refine lv_bipush (v := nI 7) S.1 S.2.1 dL_law_30 (by decide) ?_
  refine n_newi (N := 7) S hK hP hD hS hA wd_7 (by decide +kernel) ⟨Nat.le_of_ble_eq_true rfl, Nat.le_of_ble_eq_true rfl⟩ dL_law_32 (fun a5 H hP hD hS => ?_)
  refine lv_astore (lv' := [(6, .ref a5), (5, .ref a4), (4, .ref a3), (3, .ref a2), (2, .ref a1), (1, .ref (u.1 0)), (0, .ref b)]) S.1 S.2.1 dL_law_34 hl (by decide) rfl (fun ls hl => ?_)
  refine lv_bipush (v := nI 7) S.1 S.2.1 dL_law_36 (by decide) ?_
  refine n_newi (N := 7) S hK hP hD hS hA wd_7 (by decide +kernel) ⟨Nat.le_of_ble_eq_true rfl, Nat.le_of_ble_eq_true rfl⟩ dL_law_38 (fun a6 H hP hD hS => ?_)
  refine lv_astore (lv' := [(7, .ref a6), (6, .ref a5), (5, .ref a4), (4, .ref a3), (3, .ref a2), (2, .ref a1), (1, .ref (u.1 0)), (0, .ref b)]) S.1 S.2.1 dL_law_40 hl (by decide) rfl (fun ls hl => ?_)
  refine lv_iconst (v := nI 3) S.1 S.2.1 dL_law_42 (by decide) ?_
  refine n_newi (N := 3) S hK hP hD hS hA wd_7 (by decide +kernel) ⟨Nat.le_of_ble_eq_true rfl, Nat.le_of_ble_eq_true rfl⟩ dL_law_43 (fun a7 H hP hD hS => ?_)
  refine lv_astore (lv' := [(8, .ref a7), (7, .ref a6), (6, .ref a5), (5, .ref a4), (4, .ref a3), (3, .ref a2), (2, .ref a1), (1, .ref (u.1 0)), (0, .ref b)]) S.1 S.2.1 dL_law_45 hl (by decide) rfl (fun ls hl => ?_)
  have hP : va_P D vwCl ((cX cT u.1 u.2.1 u.2.2 0 0 0 25088 5 (fun _ => 0) (fun _ => 0) (fun _ => 0) (fun _ => 0) (fun _ => 0)) ++ [(a1, .inl (cT.1, 64, .inl (fun _ => nI 0))), (a2, .inl (cT.1, 56, .inl (fun _ => nI 0))), (a3, .inl (cT.1, 56, .inl (fun _ => nI 0))), (a4, .inl (cT.1, 45, .inl (fun _ => nI 0))), (a5, .inl (cT.1, 7, .inl (fun _ => nI 0))), (a6, .inl (cT.1, 7, .inl (fun _ => nI 0))), (a7, .inl (cT.1, 3, .inl (fun _ => nI 0)))]) H := hP
  have hD : va_D (AL s) ((cX cT u.1 u.2.1 u.2.2 0 0 0 25088 5 (fun _ => 0) (fun _ => 0) (fun _ => 0) (fun _ => 0) (fun _ => 0)) ++ [(a1, .inl (cT.1, 64, .inl (fun _ => nI 0))), (a2, .inl (cT.1, 56, .inl (fun _ => nI 0))), (a3, .inl (cT.1, 56, .inl (fun _ => nI 0))), (a4, .inl (cT.1, 45, .inl (fun _ => nI 0))), (a5, .inl (cT.1, 7, .inl (fun _ => nI 0))), (a6, .inl (cT.1, 7, .inl (fun _ => nI 0))), (a7, .inl (cT.1, 3, .inl (fun _ => nI 0)))]) := hD
  have hP := fr_Pc hP
  have hD := fr_Dc hD
  refine lv_aload S.1 S.2.1 dL_law_47 (lv_at hl 3 rfl) ?_
  refine lv_bipush (v := nI 37) S.1 S.2.1 dL_law_49 (by decide) ?_
  refine lv_iconst (v := nI 1) S.1 S.2.1 dL_law_51 (by decide) ?_
  refine w_iast (g := fun _ => 0) S 3 hK hP hD hS rfl (by decide) dL_law_52 (fun H locs hP hD hS => ?_)
  have hP : va_P D vwCl ([(a1, .inl (cT.1, 64, .inl (fun _ => nI 0))), (a2, .inl (cT.1, 56, .inl (fun _ => nI 0))), (a3, .inl (cT.1, 56, .inl (fun _ => nI 0))), (a4, .inl (cT.1, 45, .inl (fun k => nI ((va_up (fun _ => 0) 37 1) k)))), (a5, .inl (cT.1, 7, .inl (fun _ => nI 0))), (a6, .inl (cT.1, 7, .inl (fun _ => nI 0))), (a7, .inl (cT.1, 3, .inl (fun _ => nI 0)))] ++ (cX cT u.1 u.2.1 u.2.2 0 0 0 25088 5 (fun _ => 0) (fun _ => 0) (fun _ => 0) (fun _ => 0) (fun _ => 0))) H := hP
  have hD : va_D (AL s) ([(a1, .inl (cT.1, 64, .inl (fun _ => nI 0))), (a2, .inl (cT.1, 56, .inl (fun _ => nI 0))), (a3, .inl (cT.1, 56, .inl (fun _ => nI 0))), (a4, .inl (cT.1, 45, .inl (fun k => nI ((va_up (fun _ => 0) 37 1) k)))), (a5, .inl (cT.1, 7, .inl (fun _ => nI 0))), (a6, .inl (cT.1, 7, .inl (fun _ => nI 0))), (a7, .inl (cT.1, 3, .inl (fun _ => nI 0)))] ++ (cX cT u.1 u.2.1 u.2.2 0 0 0 25088 5 (fun _ => 0) (fun _ => 0) (fun _ => 0) (fun _ => 0) (fun _ => 0))) := hD
  refine lv_aload S.1 S.2.1 dL_law_53 (lv_at hl 3 rfl) ?_
  refine lv_bipush (v := nI 41) S.1 S.2.1 dL_law_55 (by decide) ?_
  refine lv_iconst (v := nI 1) S.1 S.2.1 dL_law_57 (by decide) ?_
  refine w_iast (g := va_up (fun _ => 0) 37 1) S 3 hK hP hD hS rfl (by decide) dL_law_58 (fun H locs hP hD hS => ?_)
  have hP : va_P D vwCl ([(a1, .inl (cT.1, 64, .inl (fun _ => nI 0))), (a2, .inl (cT.1, 56, .inl (fun _ => nI 0))), (a3, .inl (cT.1, 56, .inl (fun _ => nI 0))), (a4, .inl (cT.1, 45, .inl (fun k => nI ((va_up (va_up (fun _ => 0) 37 1) 41 1) k)))), (a5, .inl (cT.1, 7, .inl (fun _ => nI 0))), (a6, .inl (cT.1, 7, .inl (fun _ => nI 0))), (a7, .inl (cT.1, 3, .inl (fun _ => nI 0)))] ++ (cX cT u.1 u.2.1 u.2.2 0 0 0 25088 5 (fun _ => 0) (fun _ => 0) (fun _ => 0) (fun _ => 0) (fun _ => 0))) H := hP
  have hD : va_D (AL s) ([(a1, .inl (cT.1, 64, .inl (fun _ => nI 0))), (a2, .inl (cT.1, 56, .inl (fun _ => nI 0))), (a3, .inl (cT.1, 56, .inl (fun _ => nI 0))), (a4, .inl (cT.1, 45, .inl (fun k => nI ((va_up (va_up (fun _ => 0) 37 1) 41 1) k)))), (a5, .inl (cT.1, 7, .inl (fun _ => nI 0))), (a6, .inl (cT.1, 7, .inl (fun _ => nI 0))), (a7, .inl (cT.1, 3, .inl (fun _ => nI 0)))] ++ (cX cT u.1 u.2.1 u.2.2 0 0 0 25088 5 (fun _ => 0) (fun _ => 0) (fun _ => 0) (fun _ => 0) (fun _ => 0))) := hD
  refine lv_aload S.1 S.2.1 dL_law_59 (lv_at hl 3 rfl) ?_
  refine lv_bipush (v := nI 42) S.1 S.2.1 dL_law_61 (by decide) ?_
  refine lv_iconst (v := nI 1) S.1 S.2.1 dL_law_63 (by decide) ?_
  refine w_iast (g := va_up (va_up (fun _ => 0) 37 1) 41 1) S 3 hK hP hD hS rfl (by decide) dL_law_64 (fun H locs hP hD hS => ?_)
  have hP : va_P D vwCl ([(a1, .inl (cT.1, 64, .inl (fun _ => nI 0))), (a2, .inl (cT.1, 56, .inl (fun _ => nI 0))), (a3, .inl (cT.1, 56, .inl (fun _ => nI 0))), (a4, .inl (cT.1, 45, .inl (fun k => nI ((va_up (va_up (va_up (fun _ => 0) 37 1) 41 1) 42 1) k)))), (a5, .inl (cT.1, 7, .inl (fun _ => nI 0))), (a6, .inl (cT.1, 7, .inl (fun _ => nI 0))), (a7, .inl (cT.1, 3, .inl (fun _ => nI 0)))] ++ (cX cT u.1 u.2.1 u.2.2 0 0 0 25088 5 (fun _ => 0) (fun _ => 0) (fun _ => 0) (fun _ => 0) (fun _ => 0))) H := hP
  have hD : va_D (AL s) ([(a1, .inl (cT.1, 64, .inl (fun _ => nI 0))), (a2, .inl (cT.1, 56, .inl (fun _ => nI 0))), (a3, .inl (cT.1, 56, .inl (fun _ => nI 0))), (a4, .inl (cT.1, 45, .inl (fun k => nI ((va_up (va_up (va_up (fun _ => 0) 37 1) 41 1) 42 1) k)))), (a5, .inl (cT.1, 7, .inl (fun _ => nI 0))), (a6, .inl (cT.1, 7, .inl (fun _ => nI 0))), (a7, .inl (cT.1, 3, .inl (fun _ => nI 0)))] ++ (cX cT u.1 u.2.1 u.2.2 0 0 0 25088 5 (fun _ => 0) (fun _ => 0) (fun _ => 0) (fun _ => 0) (fun _ => 0))) := hD
  refine lv_aload S.1 S.2.1 dL_law_65 (lv_at hl 3 rfl) ?_
  refine lv_bipush (v := nI 44) S.1 S.2.1 dL_law_67 (by decide) ?_
  refine lv_iconst (v := nI 5) S.1 S.2.1 dL_law_69 (by decide) ?_
  refine w_iast (g := va_up (va_up (va_up (fun _ => 0) 37 1) 41 1) 42 1) S 3 hK hP hD hS rfl (by decide) dL_law_70 (fun H locs hP hD hS => ?_)
  have hP : va_P D vwCl ([(a1, .inl (cT.1, 64, .inl (fun _ => nI 0))), (a2, .inl (cT.1, 56, .inl (fun _ => nI 0))), (a3, .inl (cT.1, 56, .inl (fun _ => nI 0))), (a4, .inl (cT.1, 45, .inl (fun k => nI ((va_up (va_up (va_up (va_up (fun _ => 0) 37 1) 41 1) 42 1) 44 5) k)))), (a5, .inl (cT.1, 7, .inl (fun _ => nI 0))), (a6, .inl (cT.1, 7, .inl (fun _ => nI 0))), (a7, .inl (cT.1, 3, .inl (fun _ => nI 0)))] ++ (cX cT u.1 u.2.1 u.2.2 0 0 0 25088 5 (fun _ => 0) (fun _ => 0) (fun _ => 0) (fun _ => 0) (fun _ => 0))) H := hP
  have hD : va_D (AL s) ([(a1, .inl (cT.1, 64, .inl (fun _ => nI 0))), (a2, .inl (cT.1, 56, .inl (fun _ => nI 0))), (a3, .inl (cT.1, 56, .inl (fun _ => nI 0))), (a4, .inl (cT.1, 45, .inl (fun k => nI ((va_up (va_up (va_up (va_up (fun _ => 0) 37 1) 41 1) 42 1) 44 5) k)))), (a5, .inl (cT.1, 7, .inl (fun _ => nI 0))), (a6, .inl (cT.1, 7, .inl (fun _ => nI 0))), (a7, .inl (cT.1, 3, .inl (fun _ => nI 0)))] ++ (cX cT u.1 u.2.1 u.2.2 0 0 0 25088 5 (fun _ => 0) (fun _ => 0) (fun _ => 0) (fun _ => 0) (fun _ => 0))) := hD
  refine lv_iconst (v := nI 0) S.1 S.2.1 dL_law_71 (by decide) ?_
  refine lv_istore (lv' := [(9, .int (nI 0)), (8, .ref a7), (7, .ref a6), (6, .ref a5), (5, .ref a4), (4, .ref a3), (3, .ref a2), (2, .ref a1), (1, .ref (u.1 0)), (0, .ref b)]) S.1 S.2.1 dL_law_72 hl (by decide) rfl (fun ls hl => ?_)
  have lp : ∀ (fu : Nat) (k : Nat) (F : Nat → Int32) (H : Heap) (locs : List Loc), k ≤ 56 → (∀ j, j < k → F j = nI 0 - nI 1) → 56 - k < fu → va_P D vwCl ([(a1, .inl (cT.1, 64, .inl (fun _ => nI 0))), (a2, .inl (cT.1, 56, .inl (fun _ => nI 0))), (a3, .inl (cT.1, 56, .inl (F))), (a4, .inl (cT.1, 45, .inl (fun k => nI ((va_up (va_up (va_up (va_up (fun _ => 0) 37 1) 41 1) 42 1) 44 5) k)))), (a5, .inl (cT.1, 7, .inl (fun _ => nI 0))), (a6, .inl (cT.1, 7, .inl (fun _ => nI 0))), (a7, .inl (cT.1, 3, .inl (fun _ => nI 0)))] ++ (cX cT u.1 u.2.1 u.2.2 0 0 0 25088 5 (fun _ => 0) (fun _ => 0) (fun _ => 0) (fun _ => 0) (fun _ => 0))) H → va_D (AL s) ([(a1, .inl (cT.1, 64, .inl (fun _ => nI 0))), (a2, .inl (cT.1, 56, .inl (fun _ => nI 0))), (a3, .inl (cT.1, 56, .inl (F))), (a4, .inl (cT.1, 45, .inl (fun k => nI ((va_up (va_up (va_up (va_up (fun _ => 0) 37 1) 41 1) 42 1) 44 5) k)))), (a5, .inl (cT.1, 7, .inl (fun _ => nI 0))), (a6, .inl (cT.1, 7, .inl (fun _ => nI 0))), (a7, .inl (cT.1, 3, .inl (fun _ => nI 0)))] ++ (cX cT u.1 u.2.1 u.2.2 0 0 0 25088 5 (fun _ => 0) (fun _ => 0) (fun _ => 0) (fun _ => 0) (fun _ => 0))) → va_S (AL s) s.heap H locs → ∀ ls : Array Slot, lv_has ls 19 [(0, .ref b), (1, .ref (u.1 0)), (2, .ref a1), (3, .ref a2), (4, .ref a3), (5, .ref a4), (6, .ref a5), (7, .ref a6), (8, .ref a7), (9, .int (nI k))] → W p l e room_1 s m #[Value.ref b] below meth c H locs 18 1277 (lw_Z below #[Value.ref b] s) (F0 m 74 ls []) := by
    intro fu
    induction fu with
    | zero => intro k F H locs h2 hF hm; exact absurd hm (Nat.not_lt_zero _)
    | succ fu ih =>
      intro k F H locs h2 hF hm hP hD hS ls hl
      refine lv_iload S.1 S.2.1 dL_law_74 (lv_at hl 9 rfl) ?_
      refine lv_bipush (v := nI 56) S.1 S.2.1 dL_law_76 (by decide) ?_
      refine n_cge S (tgt := 93) (by omega) dL_law_78 (by decide) (fun c78 => ?_) (fun c78 => ?_)
      · have ek : k = 56 := by omega
        subst ek
        have hP := ia_P (k0 := 2) (g := fun k => nI (fxf (fun _ => 0) k) - nI 1) rfl (fun j hj => (hF j hj).trans (by show nI 0 - nI 1 = nI (nib 0 _) - nI 1; rw [nib_z])) hP
        have hD := ia_D (k0 := 2) (g := fun k => nI (fxf (fun _ => 0) k) - nI 1) rfl hD
        have e1 : (fun k => nI (hfn (fun _ => 0) (fun _ => 0) (fun _ => 0) (fun _ => 0) (fun _ => 0) (fun _ => 0) k)) = (fun _ => nI 0) := funext fun k => congrArg nI (hf_z k)
        have e2 : (fun k => nI (enf (fun _ => 0) k)) = (fun _ => nI 0) := funext fun k => congrArg nI (ent_0 _)
        have e3 : (fun k => nI (nfn 25088 5 (fun _ => 0) k)) = (fun k => nI ((va_up (va_up (va_up (va_up (fun _ => 0) 37 1) 41 1) 42 1) 44 5) k)) := funext fun k => congrArg nI (nf_z k).symm
        have e4 : (fun k => nI (qfn 0 0 0 k)) = (fun _ => nI 0) := funext fun k => congrArg nI (qf_z k)
        have hP : va_P D vwCl ([(a1, .inl (cT.1, 64, .inl (fun k => nI (hfn (fun _ => 0) (fun _ => 0) (fun _ => 0) (fun _ => 0) (fun _ => 0) (fun _ => 0) k)))), (a2, .inl (cT.1, 56, .inl (fun k => nI (enf (fun _ => 0) k)))), (a3, .inl (cT.1, 56, .inl (fun k => nI (fxf (fun _ => 0) k) - nI 1))), (a4, .inl (cT.1, 45, .inl (fun k => nI (nfn 25088 5 (fun _ => 0) k)))), (a5, .inl (cT.1, 7, .inl (fun _ => nI 0))), (a6, .inl (cT.1, 7, .inl (fun _ => nI 0))), (a7, .inl (cT.1, 3, .inl (fun k => nI (qfn 0 0 0 k))))] ++ (cX cT u.1 u.2.1 u.2.2 0 0 0 25088 5 (fun _ => 0) (fun _ => 0) (fun _ => 0) (fun _ => 0) (fun _ => 0))) H := by rw [e1, e2, e3, e4]; exact hP
        have hD : va_D (AL s) ([(a1, .inl (cT.1, 64, .inl (fun k => nI (hfn (fun _ => 0) (fun _ => 0) (fun _ => 0) (fun _ => 0) (fun _ => 0) (fun _ => 0) k)))), (a2, .inl (cT.1, 56, .inl (fun k => nI (enf (fun _ => 0) k)))), (a3, .inl (cT.1, 56, .inl (fun k => nI (fxf (fun _ => 0) k) - nI 1))), (a4, .inl (cT.1, 45, .inl (fun k => nI (nfn 25088 5 (fun _ => 0) k)))), (a5, .inl (cT.1, 7, .inl (fun _ => nI 0))), (a6, .inl (cT.1, 7, .inl (fun _ => nI 0))), (a7, .inl (cT.1, 3, .inl (fun k => nI (qfn 0 0 0 k))))] ++ (cX cT u.1 u.2.1 u.2.2 0 0 0 25088 5 (fun _ => 0) (fun _ => 0) (fun _ => 0) (fun _ => 0) (fun _ => 0))) := by rw [e1, e2, e3, e4]; exact hD
        refine lv_iconst (v := nI 0) S.1 S.2.1 dL_law_93 (by decide) ?_
        refine lv_istore (lv' := [(9, .int (nI 0)), (0, .ref b), (1, .ref (u.1 0)), (2, .ref a1), (3, .ref a2), (4, .ref a3), (5, .ref a4), (6, .ref a5), (7, .ref a6), (8, .ref a7)]) S.1 S.2.1 dL_law_94 hl (by decide) rfl (fun ls hl => ?_)
        refine W.widen (k := 18 + 0) (n := 1277 + 8 * 0) (Nat.le_of_ble_eq_true rfl) (Nat.le_of_ble_eq_true rfl) ?_
        exact law_loop (z := (fun k => [a1, a2, a3, a4, a5, a6, a7].getD k 0)) (c := u.1) X hfl hr hlocks 81 0 (sg_mk 0 0 0 25088 5 u.2.1 u.2.2 (fun _ => 0) (fun _ => 0) (fun _ => 0) (fun _ => 0) (fun _ => 0) (fun _ => 0) (fun _ => 0) (fun _ => 0) (fun _ => 0) (fun _ => 0) (fun _ => 0) (fun _ => 0) (fun _ => 0) (fun _ => nI 0) (fun _ => nI 0)) H locs (by decide) (by decide) (ok_start _ _) hP hD hS ls (lv_sub hl [1, 2, 3, 4, 5, 6, 7, 8, 9, 0] rfl)
      · refine lv_aload S.1 S.2.1 dL_law_81 (lv_at hl 4 rfl) ?_
        refine lv_iload S.1 S.2.1 dL_law_83 (lv_at hl 9 rfl) ?_
        refine lv_iconst (v := (-1)) S.1 S.2.1 dL_law_85 (by decide) ?_
        refine n_top (show (-1 : Int32) = nI 0 - nI 1 from by decide) ?_
        refine w_iastR (g := F) S 2 hK hP hD hS rfl (by omega) dL_law_86 (fun H locs hP hD hS => ?_)
        refine lv_iinc (v := nI (k + 1)) (lv' := [(9, .int (nI (k + 1))), (0, .ref b), (1, .ref (u.1 0)), (2, .ref a1), (3, .ref a2), (4, .ref a3), (5, .ref a4), (6, .ref a5), (7, .ref a6), (8, .ref a7)]) S.1 S.2.1 dL_law_87 hl (k := 9) rfl (nI_1 _) (by decide) rfl (fun ls hl => ?_)
        refine lv_goto (tgt := 74) S.1 S.2.1 dL_law_90 (by decide) ?_
        exact ih (k + 1) (upd F k (nI 0 - nI 1)) H locs (by omega) (upd_mem hF) (by omega) hP hD hS ls (lv_sub hl [1, 2, 3, 4, 5, 6, 7, 8, 9, 0] rfl)
  exact lp _ 0 (fun _ => nI 0) H locs (Nat.zero_le _) (fun j hj => absurd hj (Nat.not_lt_zero j)) (Nat.lt_succ_self _) hP hD hS ls (lv_sub hl [9, 8, 7, 6, 5, 4, 3, 2, 1, 0] rfl)
-- ===== YOUR PART ENDS =====
set_option maxHeartbeats 4000000 in
theorem lw_walk (l : Launch) (hflags : l.flags = flags0) (b : Addr) (xs : List Int32) : MetFree l x (headSpec (Jvm.Cond.code x code maxLocals ret :: tables_1) room_1) (lw_P b xs) (fun _ _ _ _ _ => True) lw_Q := by
  refine MetFree.of_bodyS (code := code) (maxLocals := maxLocals) (ret := ret) (by decide) ?_ ?_
  · intro args s m h hn
    obtain ⟨meth, c, h1, h2, h3, h4, h5, h6, -, -⟩ := Cond.code_spec hn (atoms_spec (ws := Jvm.Cond.code x code maxLocals ret :: tables_1) h _ List.mem_cons_self)
    exact ⟨meth, c, h1, h2, h3, h4, h5, h6⟩
  · intro p e s m args below meth c s₁ B hml0 hP _
    obtain ⟨rfl, hx, hbd, hgv⟩ := hP
    obtain ⟨scr, harrAt, hlist, hof, hsmall⟩ := hx
    obtain ⟨hcb, hkn, -, -⟩ := State.arrayAt?_spec harrAt
    have hown : s.vm.findClass R_law = some m.cls := findClass_of_methodNamed B.named
    have hts0 : ∀ c ∈ (Jvm.Cond.code x code maxLocals ret :: tables_1), c.before #[Value.ref b] s = true := atoms_spec (ws := Jvm.Cond.code x code maxLocals ret :: tables_1) B.pre
    have hts : ∀ w ∈ lw_tbl, w.before #[Value.ref b] s = true := k2_hts_sels lw_privs (fun w hw => hts0 w (List.mem_cons_of_mem _ hw)) lw_privs_ok
    have hml : c.maxLocals = 19 := B.maxLocals_eq (hts0 _ List.mem_cons_self)
    have X₀ : Stand p l e room_1 s m #[Value.ref b] below meth c s₁ [] 0 0 := Stand.of_body B
    have hh0 : s₁.heap = s.heap := by rw [B.state]; rfl
    have hsz : scr.slots.size = xs.length := by rw [← Array.length_toList, hlist, List.length_map]
    have hval : ∀ j : Nat, j < xs.length → scr.slots[j]? = some (.int (xs.getD j 0)) := fun j hj => by
      rw [← Array.getElem?_toList, hlist]
      simp [hj]
    have hbl : b < s.heap.size := (Array.getElem?_eq_some_iff.mp hcb).1
    have hX : va_X b xs.length (fun j => xs.getD j 0) s s.heap := ⟨scr, hcb, hof, hkn, hsz, hval⟩
    have K : W p l e room_1 s m #[Value.ref b] below meth c s₁.heap [] 0 0 (lw_Z below #[Value.ref b] s) (entryFrame m ([Value.ref b] : List Value).toArray 19) := by
      rw [hh0]
      exact whole_start l hflags hbd ⟨B.exec, B.bytes, B.returns, hml, hown, hts, hX, hbl, B.notSynchronized, hgv⟩
    obtain ⟨t, a1, o, b1, b2, b3⟩ := K s₁ rfl X₀
    exact ⟨t, o, a1, b1, b2, b3⟩
theorem lw_pre_spec {args : Array Value} {s : State} (h : (Jvm.Cond.and given_1 narrow_1).before args s = true) (hr : rest_1_c.before args s = true) : ∃ (b : Addr) (xs : List Int32), lw_P b xs args s := by
  have hs := flat_of_before _ h
  have hq := flat_of_before _ hr
  have hc : (Cond.count 1).before args s = true := hs _ (by decide +kernel)
  have harr : (Cond.arrayOf (.arg 0) .int).before args s = true := hs _ (by decide +kernel)
  have hle : (Cond.le (.length (.arg 0)) (.int 260)).before args s = true := hs _ (by decide +kernel)
  have hlen : (Cond.isInt (.length (.arg 0))).before args s = true := hq _ (by decide +kernel)
  have hall : (Cond.all (.arg 0) (.isInt (.elem (.arg 0) (.index 0)))).before args s = true := hq _ (by decide +kernel)
  obtain ⟨b, xs, hb, hx⟩ := State.ints_of_pre rfl harr hlen hall
  have hsm : xs.length < 2 ^ 31 := hx.choose_spec.2.2.2
  have hev : (Term.length (.arg 0)).eval args s none [] s = some (.int xs.length.toInt32) := hx.length_eval hb
  have hv := Cond.le_ints hev (show (Term.int 260).eval args s none [] s = some (.int 260) from rfl)
  have hd : xs.length.toInt32 ≤ 260 := by
    simpa [Cond.before, Cond.holds, hv] using hle
  have hN : xs.length ≤ 260 := (Int32.ofNat_le_ofNat hsm (by decide)).mp (show Int32.ofNat xs.length ≤ Int32.ofNat 260 from hd)
  exact ⟨b, xs, Cond.one_arg hc (show args[0]? = some (.ref b) from hb), hx, hN, h⟩
theorem lw_comes (l : Launch) (hflags : l.flags = flags0) : Comes l x (Jvm.Cond.code x code maxLocals ret :: tables_1) room_1 (fun tb e args s => Calls_1 tb e args s ∧ rest_1 tb e args s ∧ Pre_1 tb e args s)
    (fun _ _ args s o t => lw_Q args s o t) := by
  intro p e ha hc hk s m args below hf hfit hheap happ hpre
  obtain ⟨b, xs, hP⟩ := lw_pre_spec hpre.2.2 hpre.2.1
  obtain ⟨k, o, h1, h2, h3, hQ⟩ := lw_walk l hflags b xs p e ha hc hk s m args below hf ((Spec.applies_iff_loose hf).mp happ).1 hP trivial
  exact ⟨k, o, h1, h2, h3, hQ⟩
theorem lw_frame {s t : State} {o : Outcome} {args : Array Value} (h : Framed s o t [] 600130 7301080) :
    Framed s o t (fieldLocs frame_1_writes args s ++ arrayLocs frame_1_arrays args s ++ staticLocs frame_1_statics s) 600130 7301080 := h
theorem lw_limb (L : Cond) (hL : ∀ (args : Array Value) (s t : State), L.after args s (.returned (some (.int 1))) t = true) :
    ArmFor flags0 classFile x code maxLocals ret World_1 tables_1 room_1 Calls_1 rest_1 Pre_1
      (fun tb e a s o t => postC L tb e a s o t ∧ Framed s o t (fieldLocs frame_1_writes a s ++ arrayLocs frame_1_arrays a s ++ staticLocs frame_1_statics s) 600130 7301080) := by
  intro l hflags _ _ p e ha hc hk s m args below hf hfit hheap happ hpre
  obtain ⟨k, o, h1, h2, h3, rfl, hF⟩ := lw_comes l hflags p e ha hc hk s m args below hf hfit hheap happ hpre
  exact ⟨k, _, h1, h2, h3, hL args s _, lw_frame hF⟩
theorem i_vc : Claimed_1_1 ∧ Claimed_1_2 := ⟨lw_limb limb_1_1 (fun args s t => by simp [limb_1_1, Cond.after, Cond.holds, Cond.value]), lw_limb limb_1_2 (fun args s t => Cond.after_iff.mpr (by
  first | (rw [show limb_1_2 = Cond.eq .result (.int 1) from rfl, Cond.eq_ints (x := 1) (y := 1) rfl rfl]; simp; done) | (simp [limb_1_2, Cond.value, Term.eval]; done)))⟩
