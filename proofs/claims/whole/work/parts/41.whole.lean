/-! THE CLAIM OUT OF ONE WALK OF THE LAW'S BODY. Your part is whole_start (and what it stands on); all else here is the same for every law, but numbers. -/
def R_law : String := "CoverSheetLaw"
def lw_P (b : Addr) (xs : List Int32) (args : Array Value) (s : State) : Prop := args = #[.ref b] ∧ s.IntsAt b xs ∧ xs.length ≤ 2048 ∧ (Jvm.Cond.and given_1 narrow_1).before args s = true
def lw_Q (_ : Array Value) (s : State) (o : Outcome) (t : State) : Prop := o = .returned (some (.int 1)) ∧ Framed s o t [] 601024 7293034
def lw_Z (below : List Frame) (a : Array Value) (s : State) : State → Prop := fun t => ∃ o, t.status = .running ∧ Ended t below o ∧ lw_Q a s o t
/-- the law's own end, with 1 on the stack, nothing written that was there before, its room as the claim has it -/
theorem lw_ret {p : Program} {l : Launch} {e : Env} {s : State} {m : MethodId} {below : List Frame} {meth : Method} {c : Code} {b : Nat} (hx : p.tables.exec = Jvm.exec) (hb : c.code = code) (hr : meth.sig.returnType = ret) (hlocks : meth.locks = false) {pc : Nat} {H : Heap} {ls : Array Slot} (hdg : decode code pc = .ok (.ireturn, 1)) : W p l e room_1 s m #[Value.ref b] below meth c H [] 601024 7293034 (lw_Z below #[Value.ref b] s) (F0 m pc ls [.int 1]) := by
  intro T hT X
  obtain ⟨fs, hret, hrun, hended, hW, hframe⟩ := X.leave (v := some (.int 1)) (hlocks := hlocks) (fun h => by rw [hr] at h; cases h)
  have hmeth' : T.vm.method? m = some meth := X.method'
  refine ⟨T.setFrames fs, ?_, .returned (some (.int 1)), hrun, hended, rfl, ⟨_, rfl⟩, hW, hframe⟩
  jvm_step X.here [X.here.top, hx, hb, hdg, hmeth', hr, ret, narrow_b1]
  (try refine ⟨rfl, ?_⟩); (try refine ⟨rfl, ?_⟩)
  first | (intro acts; rw [hret _ acts rfl rfl rfl]) | rw [hret _ _ rfl rfl rfl]
  exact Steps.refl _
/-- what holds at the law's entry: the machine, the code, the tables' words (any of lw_tbl by 'hts w (by decide +kernel)'), the script of L ints xs at the cell b, what the Statement gives of the start (any of its parts by flat_of_before) -/
def lw_At (p : Program) (s : State) (m : MethodId) (meth : Method) (c : Code) (b L : Nat) (xs : Nat → Int32) : Prop :=
  p.tables.exec = Jvm.exec ∧ c.code = code ∧ meth.sig.returnType = ret ∧ c.maxLocals = 7 ∧ s.vm.findClass R_law = some m.cls ∧ (∀ w ∈ lw_tbl, w.before #[Value.ref b] s = true) ∧ va_X b L xs s s.heap ∧ b < s.heap.size ∧ meth.locks = false ∧ (Jvm.Cond.and given_1 narrow_1).before #[Value.ref b] s = true
set_option maxHeartbeats 4000000 in
set_option maxRecDepth 100000 in
/-- THE LAW'S LOOP: at its head, after k calls, desk and reference stand in the same numbers -/
theorem law_loop {p : Program} {l : Launch} {e : Env} {s : State} {m : MethodId} {below : List Frame} {meth : Method} {c : Code} {b L : Nat} {xs : Nat → Int32} {D : va_G} {cT : ClassId × ClassId × ClassId} {ca q : Nat → Nat} {o : Nat} (X : LA p s m meth c b L xs D cT) (hfl : l.stackTraces = false) (hr : meth.sig.returnType = ret) (hlocks : meth.locks = false) :
    ∀ (n k : Nat) (x : SG) (H : Heap) (locs : List Loc), 513 ≤ k + n → k ≤ 512 → x.ok k → va_P D vwCl ((x.wd cT ca ++ ou cT o x.g) ++ x.wm cT q) H → va_D (AL s) ((x.wd cT ca ++ ou cT o x.g) ++ x.wm cT q) → va_S (AL s) s.heap H locs → ∀ ls : Array Slot, lv_has ls 7 [(0, .ref b), (1, .ref (ca 0)), (2, .ref (q 0)), (3, .ref o), (4, .int (nI (4 * k)))] → W p l e room_1 s m #[Value.ref b] below meth c H locs (23 + k) (1259 + 8 * k) (lw_Z below #[Value.ref b] s) (F0 m 23 ls []) := by
  obtain ⟨S, hL, hX, hbl, hK, hXS⟩ := id X
  have hbA : ¬ AL s b := Nat.not_le.mpr hbl
  intro n
  induction n with
  | zero => intro k x H locs h1 h2; exact absurd h1 (by omega)
  | succ n ih =>
    intro k x H locs h1 h2 hx hP hD hS ls hl
    refine lv_iload S.1 S.2.1 dL_law_23 (lv_at hl 4 rfl) ?_
    refine lv_aload_n S.1 S.2.1 dL_law_25 rfl (lv_at hl 0 rfl) ?_
    refine va_slen S.1 S.2.1 hX hbl hbA hS dL_law_26 ?_
    refine lv_iconst (v := nI 4) S.1 S.2.1 dL_law_27 (by decide) ?_
    refine lv_isub S.1 S.2.1 dL_law_28 ?_
    have eL : (nI L - nI 4).toInt = (L : Int) - 4 := dif_toI ⟨Nat.lt_of_le_of_lt hL (by decide), by decide⟩
    have eK : (nI (4 * k)).toInt = ((4 * k : Nat) : Int) := nI_toInt (by omega)
    refine lv_icmp_gt (tgt := 1557) S.1 S.2.1 dL_law_29 (by decide) (fun cg => ?_) (fun cg => ?_)
    · refine lv_iconst (v := 1) S.1 S.2.1 dL_law_1557 (by decide) ?_
      refine va_forget (fun q hq => hS.2.2 q hq) ?_
      refine W.widen (k := 601024) (n := 7293034) (by omega) (by omega) ?_
      exact lw_ret S.1 S.2.1 hr hlocks dL_law_1558
    · have hiL : 4 * k + 3 < L := by
        have q1 : ¬ (nI L - nI 4).toInt < (nI (4 * k)).toInt := fun z => cg (Int32.lt_iff_toInt_lt.mpr z)
        rw [eL, eK] at q1; omega
      have hk6 : k < 600 := by omega
      have hroom : (23 + k) + 1 ≤ room_1.cells ∧ (1259 + 8 * k) + 8 ≤ room_1.slots := by
        constructor
        · show (23 + k) + 1 ≤ 601024; omega
        · show (1259 + 8 * k) + 8 ≤ 7293034; omega
      have K : KT p l e s m b below meth c (lw_Z below #[Value.ref b] s) D cT ca q o k (23 + k) (1259 + 8 * k) := by
        intro y H locs hy hP hD hS ls hl
        refine lv_iinc (v := nI (4 * (k + 1))) (lv' := [(4, .int (nI (4 * (k + 1)))), (0, .ref b), (1, .ref (ca 0)), (2, .ref (q 0)), (3, .ref o)]) S.1 S.2.1 dL_law_1551 hl (k := 4) rfl (nI_add _ 4) (by decide) rfl (fun ls hl => ?_)
        refine lv_goto (tgt := 23) S.1 S.2.1 dL_law_1554 (by decide) ?_
        refine W.widen (k := 23 + (k + 1)) (n := 1259 + 8 * (k + 1)) (by omega) (by omega) ?_
        exact ih (k + 1) y H locs (by omega) (by omega) hy hP hD hS ls (lv_sub hl [1, 2, 3, 4, 0] rfl)
      refine lv_aload_n S.1 S.2.1 dL_law_32 rfl (lv_at hl 0 rfl) ?_
      refine lv_iload S.1 S.2.1 dL_law_33 (lv_at hl 4 rfl) ?_
      refine l_sld S hX hbl hS hL (by omega) rfl dL_law_35 ?_
      refine lv_bipush (v := nI 31) S.1 S.2.1 dL_law_36 (by decide) ?_
      refine lv_iand S.1 S.2.1 dL_law_38 ?_
      obtain ⟨j, hj, ej⟩ := and31 (xs (4 * k))
      refine n_top ej ?_
      by_cases h25 : 25 ≤ j
      · refine lv_tableOut (tgt := 1551) S.1 S.2.1 dL_law_39 (Or.inr (by rw [nI_toInt (by omega)]; omega)) (by decide) ?_
        refine W.widen (k := (23 + k) + 1) (n := (1259 + 8 * k) + 8) (by omega) (by omega) ?_
        exact K x H locs ⟨hx.1, hx.2.1, hx.2.2.1, Nat.le_succ_of_le hx.2.2.2⟩ hP hD hS ls hl
      clear ej
      rcases (show j = 0 ∨ j = 1 ∨ j = 2 ∨ j = 3 ∨ j = 4 ∨ j = 5 ∨ j = 6 ∨ j = 7 ∨ j = 8 ∨ j = 9 ∨ j = 10 ∨ j = 11 ∨ j = 12 ∨ j = 13 ∨ j = 14 ∨ j = 15 ∨ j = 16 ∨ j = 17 ∨ j = 18 ∨ j = 19 ∨ j = 20 ∨ j = 21 ∨ j = 22 ∨ j = 23 ∨ j = 24 by omega) with rfl | rfl | rfl | rfl | rfl | rfl | rfl | rfl | rfl | rfl | rfl | rfl | rfl | rfl | rfl | rfl | rfl | rfl | rfl | rfl | rfl | rfl | rfl | rfl | rfl
      · exact lv_tableIn (off := 113) (tgt := 152) S.1 S.2.1 dL_law_39 (by decide) (by decide) rfl (by decide) (st_addPerson X hfl hiL hk6 hx hroom hP hD hS hl K)
      · exact lv_tableIn (off := 181) (tgt := 220) S.1 S.2.1 dL_law_39 (by decide) (by decide) rfl (by decide) (st_setNeed X hfl hiL hk6 hx hroom hP hD hS hl K)
      · exact lv_tableIn (off := 261) (tgt := 300) S.1 S.2.1 dL_law_39 (by decide) (by decide) rfl (by decide) (st_forbid X hfl hiL hk6 hx hroom hP hD hS hl K)
      · exact lv_tableIn (off := 364) (tgt := 403) S.1 S.2.1 dL_law_39 (by decide) (by decide) rfl (by decide) (st_setRun X hfl hiL hk6 hx hroom hP hD hS hl K)
      · exact lv_tableIn (off := 420) (tgt := 459) S.1 S.2.1 dL_law_39 (by decide) (by decide) rfl (by decide) (st_wish X hfl hiL hk6 hx hroom hP hD hS hl K)
      · exact lv_tableIn (off := 523) (tgt := 562) S.1 S.2.1 dL_law_39 (by decide) (by decide) rfl (by decide) (st_fix X hfl hiL hk6 hx hroom hP hD hS hl K)
      · exact lv_tableIn (off := 603) (tgt := 642) S.1 S.2.1 dL_law_39 (by decide) (by decide) rfl (by decide) (st_plan X hk6 hx hroom hP hD hS hl K)
      · exact lv_tableIn (off := 616) (tgt := 655) S.1 S.2.1 dL_law_39 (by decide) (by decide) rfl (by decide) (st_rounds X hk6 hx hroom hP hD hS hl K)
      · exact lv_tableIn (off := 629) (tgt := 668) S.1 S.2.1 dL_law_39 (by decide) (by decide) rfl (by decide) (st_set X hfl hiL hk6 hx hroom hP hD hS hl K)
      · exact lv_tableIn (off := 709) (tgt := 748) S.1 S.2.1 dL_law_39 (by decide) (by decide) rfl (by decide) (st_swap X hfl hiL hk6 hx hroom hP hD hS hl K)
      · exact lv_tableIn (off := 789) (tgt := 828) S.1 S.2.1 dL_law_39 (by decide) (by decide) rfl (by decide) (st_closeWeek X hk6 hx hroom hP hD hS hl K)
      · exact lv_tableIn (off := 802) (tgt := 841) S.1 S.2.1 dL_law_39 (by decide) (by decide) rfl (by decide) (st_people X hk6 hx hroom hP hD hS hl K)
      · exact lv_tableIn (off := 815) (tgt := 854) S.1 S.2.1 dL_law_39 (by decide) (by decide) rfl (by decide) (st_entry X hfl hiL hk6 hx hroom hP hD hS hl K)
      · exact lv_tableIn (off := 883) (tgt := 922) S.1 S.2.1 dL_law_39 (by decide) (by decide) rfl (by decide) (st_gaps X hk6 hx hroom hP hD hS hl K)
      · exact lv_tableIn (off := 896) (tgt := 935) S.1 S.2.1 dL_law_39 (by decide) (by decide) rfl (by decide) (st_gap X hfl hiL hk6 hx hroom hP hD hS hl K)
      · exact lv_tableIn (off := 964) (tgt := 1003) S.1 S.2.1 dL_law_39 (by decide) (by decide) rfl (by decide) (st_shifts X hfl hiL hk6 hx hroom hP hD hS hl K)
      · exact lv_tableIn (off := 1020) (tgt := 1059) S.1 S.2.1 dL_law_39 (by decide) (by decide) rfl (by decide) (st_weekends X hfl hiL hk6 hx hroom hP hD hS hl K)
      · exact lv_tableIn (off := 1076) (tgt := 1115) S.1 S.2.1 dL_law_39 (by decide) (by decide) rfl (by decide) (st_broken X hfl hiL hk6 hx hroom hP hD hS hl K)
      · exact lv_tableIn (off := 1132) (tgt := 1171) S.1 S.2.1 dL_law_39 (by decide) (by decide) rfl (by decide) (st_runBefore X hfl hiL hk6 hx hroom hP hD hS hl K)
      · exact lv_tableIn (off := 1188) (tgt := 1227) S.1 S.2.1 dL_law_39 (by decide) (by decide) rfl (by decide) (st_isFeasible X hfl hiL hk6 hx hroom hP hD hS hl K)
      · exact lv_tableIn (off := 1251) (tgt := 1290) S.1 S.2.1 dL_law_39 (by decide) (by decide) rfl (by decide) (st_weeks X hfl hiL hk6 hx hroom hP hD hS hl K)
      · exact lv_tableIn (off := 1307) (tgt := 1346) S.1 S.2.1 dL_law_39 (by decide) (by decide) rfl (by decide) (st_weeksByDays X hfl hiL hk6 hx hroom hP hD hS hl K)
      · exact lv_tableIn (off := 1363) (tgt := 1402) S.1 S.2.1 dL_law_39 (by decide) (by decide) rfl (by decide) (st_couldTake X hfl hiL hk6 hx hroom hP hD hS hl K)
      · exact lv_tableIn (off := 1431) (tgt := 1470) S.1 S.2.1 dL_law_39 (by decide) (by decide) rfl (by decide) (st_swapFor X hfl hiL hk6 hx hroom hP hD hS hl K)
      · exact lv_tableIn (off := 1499) (tgt := 1538) S.1 S.2.1 dL_law_39 (by decide) (by decide) rfl (by decide) (st_bound X hk6 hx hroom hP hD hS hl K)
theorem wf_start : wfC 0 0 25088 5 (fun _ => 0) (fun _ => 0) (fun _ => 0) (fun _ => 0) (fun _ => 17895697) (fun _ => 0) (fun _ => 0) (fun _ => 0) (fun _ => 0) := ⟨by decide, by decide, by decide, by decide, fun _ => Nat.zero_le _, fun _ => ⟨(by decide : 0 < 16), Nat.zero_le _, (by decide : 0 < 16384), (by decide : 17895697 < 2 ^ 28), (by decide : 0 < 128), (by decide : 0 < 4), Nat.zero_le _, Nat.zero_le _⟩⟩
theorem fb_start : ∀ b, b < 4 → bit 25088 (4 * b) = 0 := by decide
theorem ok_start (a b : Nat) : (sg_mk 0 0 0 25088 5 0 a b (fun _ => 0) (fun _ => 0) (fun _ => 0) (fun _ => 0) (fun _ => 17895697) (fun _ => 0) (fun _ => 0) (fun _ => 0) (fun _ => 0) (fun _ => 0) (fun _ => 0) (fun _ => 0) (fun _ => 0) (fun _ => 0)).ok 0 := ⟨wf_start, fb_start, fun _ _ => ⟨rfl, rfl, rfl, rfl, rfl⟩, Nat.le_refl _⟩
set_option maxHeartbeats 4000000 in
set_option maxRecDepth 100000 in
theorem whole_start {p : Program} {e : Env} {s : State} {m : MethodId} {below : List Frame} {meth : Method} {c : Code} (l : Launch) (hflags : l.flags = flags0) {b L : Nat} {xs : Nat → Int32} (hL : L ≤ 2048) (C0 : lw_At p s m meth c b L xs) : W p l e room_1 s m #[Value.ref b] below meth c s.heap [] 0 0 (lw_Z below #[Value.ref b] s) (entryFrame m ([Value.ref b] : List Value).toArray 7) := by
  obtain ⟨hx, hb, hr, hml, hown, hts, hX, hbl, hlocks, hgv⟩ := id C0
  have hfl : l.stackTraces = false := by unfold Launch.stackTraces; rw [hflags]; decide +kernel
  obtain ⟨D, cT, hK⟩ := law_KN hts
  have hXS := law_XS hts hgv
  have hE : va_AO RX4 s := va_AO.of (hts _ (tl_in tl_3))
  have S : CallFix p m c cL_law 7 s #[Value.ref b] wsL_law RL := ⟨hx, hb, hml, hown, fun w h => hts w (wsL_law_in w h)⟩
  have X : LA p s m meth c b L xs D cT := ⟨S, hL, hX, hbl, hK, hXS⟩
  have hA : ∀ q : Nat, s.heap.size ≤ q → AL s q := fun _ h => h
  have hS : va_S (AL s) s.heap s.heap [] := va_S.rf
  have hP : va_P D vwCl [] s.heap := fun k q h => by simp at h
  have hD : va_D (AL s) [] := ⟨fun i j p q h => by simp at h, fun k q h => by simp at h⟩
  have hl := lv_entry ([.ref b]) (n := 7) (Nat.le_of_ble_eq_true rfl)
  rw [lg_entry_eq]
  generalize (lg_sl ([.ref b]) ++ List.replicate (7 - (lg_sl ([.ref b])).length) Slot.unset).toArray = ls at hl ⊢
  have hl : lv_has ls 7 [(0, .ref b)] := hl
  refine n_new (C := RX8) (T := TX8) (N := 9) S 6 inlX8 tyX8 tyX8_ok ⟨wd_1, wd_2, wd_3⟩ hK hP hD hS hA rfl [.null, .null, .null, .null, .null, .null, .int 0, .int 0, .int 0] (fun j hj => match j, hj with | 0, _ => rfl | 1, _ => rfl | 2, _ => rfl | 3, _ => rfl | 4, _ => rfl | 5, _ => rfl | 6, _ => rfl | 7, _ => rfl | 8, _ => rfl | n + 9, h => absurd h (by omega)) ⟨Nat.le_of_ble_eq_true rfl, Nat.le_of_ble_eq_true rfl⟩ dL_law_0 (fun a H hP hD hS => ?_)
  refine lv_dup S.1 S.2.1 dL_law_3 rfl ?_
  refine n_callE (As := []) (rest := [.ref a]) (n := 0) S hE (w_X8_init l D cT _ [] a) gL_law_X8_init rfl wd_8 ⟨wd_3, wd_9, rfl⟩ ⟨by decide +kernel, by decide +kernel, rfl⟩ ⟨rfl, rfl, Nat.le_of_ble_eq_true rfl, Nat.le_of_ble_eq_true rfl⟩ hP hK hD hS hA hl rfl rfl (Nat.le_of_ble_eq_true rfl) ⟨Nat.le_of_ble_eq_true rfl, Nat.le_of_ble_eq_true rfl⟩ dL_law_4 (fun u H locs hu hP2 hD2 hS2 => ?_)
  have hu : u.1 0 = a := hu
  subst hu
  have hP := hP2
  have hD := hD2
  have hS := hS2
  refine lv_astore_n (lv' := [(1, .ref (u.1 0)), (0, .ref b)]) S.1 S.2.1 dL_law_7 rfl hl (by decide) rfl (fun ls hl => ?_)
  refine n_new (C := RX9) (T := TX9) (N := 15) S 7 inlX9 tyX9 tyX9_ok ⟨wd_4, wd_5, wd_6⟩ hK hP hD hS hA rfl [.int 0, .int 0, .int 0, .int 0, .int 0, .null, .null, .null, .null, .null, .null, .null, .null, .null, .null] (fun j hj => match j, hj with | 0, _ => rfl | 1, _ => rfl | 2, _ => rfl | 3, _ => rfl | 4, _ => rfl | 5, _ => rfl | 6, _ => rfl | 7, _ => rfl | 8, _ => rfl | 9, _ => rfl | 10, _ => rfl | 11, _ => rfl | 12, _ => rfl | 13, _ => rfl | 14, _ => rfl | n + 15, h => absurd h (by omega)) ⟨Nat.le_of_ble_eq_true rfl, Nat.le_of_ble_eq_true rfl⟩ dL_law_8 (fun a H hP hD hS => ?_)
  refine lv_dup S.1 S.2.1 dL_law_11 rfl ?_
  refine n_callL (As := []) (rest := [.ref a]) (n := 0) S (w_X9_init l D cT _ _ a) gL_law_X9_init rfl wd_10 ⟨wd_6, wd_11, rfl⟩ ⟨by decide +kernel, by decide +kernel, rfl⟩ ⟨rfl, rfl, Nat.le_of_ble_eq_true rfl, Nat.le_of_ble_eq_true rfl⟩ hP hK hD hS hA hl rfl rfl (Nat.le_of_ble_eq_true rfl) ⟨Nat.le_of_ble_eq_true rfl, Nat.le_of_ble_eq_true rfl⟩ dL_law_12 (fun v H locs _ hP hD hS => ?_)
  refine lv_astore_n (lv' := [(2, .ref a), (1, .ref (u.1 0)), (0, .ref b)]) S.1 S.2.1 dL_law_15 rfl hl (by decide) rfl (fun ls hl => ?_)
  refine lv_iconst (v := nI 1) S.1 S.2.1 dL_law_16 (by decide) ?_
  refine n_newl S hK hP hD hS hA wd_7 (by decide +kernel) ⟨Nat.le_of_ble_eq_true rfl, Nat.le_of_ble_eq_true rfl⟩ dL_law_17 (fun o H hP hD hS => ?_)
  refine lv_astore_n (lv' := [(3, .ref o), (2, .ref a), (1, .ref (u.1 0)), (0, .ref b)]) S.1 S.2.1 dL_law_19 rfl hl (by decide) rfl (fun ls hl => ?_)
  refine lv_iconst (v := nI 0) S.1 S.2.1 dL_law_20 (by decide) ?_
  refine lv_istore (lv' := [(4, .int (nI (4 * 0))), (3, .ref o), (2, .ref a), (1, .ref (u.1 0)), (0, .ref b)]) S.1 S.2.1 dL_law_21 hl (by decide) rfl (fun ls hl => ?_)
  refine W.widen (k := 23 + 0) (n := 1259 + 8 * 0) (Nat.le_of_ble_eq_true rfl) (Nat.le_of_ble_eq_true rfl) ?_
  have e := X9_start cT a v

  rw [e] at hP hD
  have hP := va_P.swap hP
  have hD := va_D.swap hD
  have hok : (sg_mk 0 0 0 25088 5 0 u.2.1 u.2.2 (fun _ => 0) (fun _ => 0) (fun _ => 0) (fun _ => 0) (fun _ => 17895697) (fun _ => 0) (fun _ => 0) (fun _ => 0) (fun _ => 0) (fun _ => 0) (fun _ => 0) (fun _ => 0) (fun _ => 0) (fun _ => 0)).ok 0 := ok_start _ _
  exact law_loop (ca := u.1) (q := (fun k => [a, v.1, v.2.1, v.2.2.1, v.2.2.2.1, v.2.2.2.2.1, v.2.2.2.2.2.1, v.2.2.2.2.2.2.1, v.2.2.2.2.2.2.2.1, v.2.2.2.2.2.2.2.2.1, v.2.2.2.2.2.2.2.2.2].getD k 0)) (o := o) X hfl hr hlocks 513 0 (sg_mk 0 0 0 25088 5 0 u.2.1 u.2.2 (fun _ => 0) (fun _ => 0) (fun _ => 0) (fun _ => 0) (fun _ => 17895697) (fun _ => 0) (fun _ => 0) (fun _ => 0) (fun _ => 0) (fun _ => 0) (fun _ => 0) (fun _ => 0) (fun _ => 0) (fun _ => 0)) H locs (by decide) (by decide) hok hP hD hS ls (lv_sub hl [4, 3, 2, 1, 0] rfl)
-- ===== YOUR PART ENDS =====
set_option maxHeartbeats 4000000 in
theorem lw_walk (l : Launch) (hflags : l.flags = flags0) (b : Addr) (xs : List Int32) : MetFree l x (headSpec (Jvm.Cond.code x code maxLocals ret :: tables_1) room_1) (lw_P b xs) (fun _ _ _ _ _ => True) lw_Q := by
  refine MetFree.of_bodyS (code := code) (maxLocals := maxLocals) (ret := ret) (by decide) ?_ ?_
  · intro args s m h hn
    obtain ⟨meth, c, h1, h2, h3, h4, h5, h6, -, -⟩ := Cond.code_spec hn (atoms_spec (ws := Jvm.Cond.code x code maxLocals ret :: tables_1) h _ List.mem_cons_self)
    exact ⟨meth, c, h1, h2, h3, h4, h5, h6⟩
  · intro p e s m args below meth c s₁ B hml0 hP _
    obtain ⟨rfl, hx, hbd, hgv⟩ := hP
    obtain ⟨scr, harrAt, hlist, hof, hsmall⟩ := hx
    obtain ⟨hcb, hkn, -, -⟩ := State.arrayAt?_spec harrAt
    have hown : s.vm.findClass R_law = some m.cls := findClass_of_methodNamed B.named
    have hts0 : ∀ c ∈ (Jvm.Cond.code x code maxLocals ret :: tables_1), c.before #[Value.ref b] s = true := atoms_spec (ws := Jvm.Cond.code x code maxLocals ret :: tables_1) B.pre
    have hts : ∀ w ∈ lw_tbl, w.before #[Value.ref b] s = true := k2_hts_sels lw_privs (fun w hw => hts0 w (List.mem_cons_of_mem _ hw)) lw_privs_ok
    have hml : c.maxLocals = 7 := B.maxLocals_eq (hts0 _ List.mem_cons_self)
    have X₀ : Stand p l e room_1 s m #[Value.ref b] below meth c s₁ [] 0 0 := Stand.of_body B
    have hh0 : s₁.heap = s.heap := by rw [B.state]; rfl
    have hsz : scr.slots.size = xs.length := by rw [← Array.length_toList, hlist, List.length_map]
    have hval : ∀ j : Nat, j < xs.length → scr.slots[j]? = some (.int (xs.getD j 0)) := fun j hj => by
      rw [← Array.getElem?_toList, hlist]
      simp [hj]
    have hbl : b < s.heap.size := (Array.getElem?_eq_some_iff.mp hcb).1
    have hX : va_X b xs.length (fun j => xs.getD j 0) s s.heap := ⟨scr, hcb, hof, hkn, hsz, hval⟩
    have K : W p l e room_1 s m #[Value.ref b] below meth c s₁.heap [] 0 0 (lw_Z below #[Value.ref b] s) (entryFrame m ([Value.ref b] : List Value).toArray 7) := by
      rw [hh0]
      exact whole_start l hflags hbd ⟨B.exec, B.bytes, B.returns, hml, hown, hts, hX, hbl, B.notSynchronized, hgv⟩
    obtain ⟨t, a1, o, b1, b2, b3⟩ := K s₁ rfl X₀
    exact ⟨t, o, a1, b1, b2, b3⟩
theorem lw_pre_spec {args : Array Value} {s : State} (h : (Jvm.Cond.and given_1 narrow_1).before args s = true) (hr : rest_1_c.before args s = true) : ∃ (b : Addr) (xs : List Int32), lw_P b xs args s := by
  have hs := flat_of_before _ h
  have hq := flat_of_before _ hr
  have hc : (Cond.count 1).before args s = true := hs _ (by decide +kernel)
  have harr : (Cond.arrayOf (.arg 0) .int).before args s = true := hs _ (by decide +kernel)
  have hle : (Cond.le (.length (.arg 0)) (.int 2048)).before args s = true := hs _ (by decide +kernel)
  have hlen : (Cond.isInt (.length (.arg 0))).before args s = true := hq _ (by decide +kernel)
  have hall : (Cond.all (.arg 0) (.isInt (.elem (.arg 0) (.index 0)))).before args s = true := hq _ (by decide +kernel)
  obtain ⟨b, xs, hb, hx⟩ := State.ints_of_pre rfl harr hlen hall
  have hsm : xs.length < 2 ^ 31 := hx.choose_spec.2.2.2
  have hev : (Term.length (.arg 0)).eval args s none [] s = some (.int xs.length.toInt32) := hx.length_eval hb
  have hv := Cond.le_ints hev (show (Term.int 2048).eval args s none [] s = some (.int 2048) from rfl)
  have hd : xs.length.toInt32 ≤ 2048 := by
    simpa [Cond.before, Cond.holds, hv] using hle
  have hN : xs.length ≤ 2048 := (Int32.ofNat_le_ofNat hsm (by decide)).mp (show Int32.ofNat xs.length ≤ Int32.ofNat 2048 from hd)
  exact ⟨b, xs, Cond.one_arg hc (show args[0]? = some (.ref b) from hb), hx, hN, h⟩
theorem lw_comes (l : Launch) (hflags : l.flags = flags0) : Comes l x (Jvm.Cond.code x code maxLocals ret :: tables_1) room_1 (fun tb e args s => Calls_1 tb e args s ∧ rest_1 tb e args s ∧ Pre_1 tb e args s)
    (fun _ _ args s o t => lw_Q args s o t) := by
  intro p e ha hc hk s m args below hf hfit hheap happ hpre
  obtain ⟨b, xs, hP⟩ := lw_pre_spec hpre.2.2 hpre.2.1
  obtain ⟨k, o, h1, h2, h3, hQ⟩ := lw_walk l hflags b xs p e ha hc hk s m args below hf ((Spec.applies_iff_loose hf).mp happ).1 hP trivial
  exact ⟨k, o, h1, h2, h3, hQ⟩
theorem lw_frame {s t : State} {o : Outcome} {args : Array Value} (h : Framed s o t [] 601024 7293034) :
    Framed s o t (fieldLocs frame_1_writes args s ++ arrayLocs frame_1_arrays args s ++ staticLocs frame_1_statics s) 601024 7293034 := h
theorem lw_limb (L : Cond) (hL : ∀ (args : Array Value) (s t : State), L.after args s (.returned (some (.int 1))) t = true) :
    ArmFor flags0 classFile x code maxLocals ret World_1 tables_1 room_1 Calls_1 rest_1 Pre_1
      (fun tb e a s o t => postC L tb e a s o t ∧ Framed s o t (fieldLocs frame_1_writes a s ++ arrayLocs frame_1_arrays a s ++ staticLocs frame_1_statics s) 601024 7293034) := by
  intro l hflags _ _ p e ha hc hk s m args below hf hfit hheap happ hpre
  obtain ⟨k, o, h1, h2, h3, rfl, hF⟩ := lw_comes l hflags p e ha hc hk s m args below hf hfit hheap happ hpre
  exact ⟨k, _, h1, h2, h3, hL args s _, lw_frame hF⟩
theorem i_vc : Claimed_1_1 ∧ Claimed_1_2 := ⟨lw_limb limb_1_1 (fun args s t => by simp [limb_1_1, Cond.after, Cond.holds, Cond.value]), lw_limb limb_1_2 (fun args s t => Cond.after_iff.mpr (by
  first | (rw [show limb_1_2 = Cond.eq .result (.int 1) from rfl, Cond.eq_ints (x := 1) (y := 1) rfl rfl]; simp; done) | (simp [limb_1_2, Cond.value, Term.eval]; done)))⟩
