/-! THE CLAIM OUT OF ONE WALK OF THE LAW'S BODY. Your part is whole_start (and what it stands on); all else here is the same for every law, but numbers. -/
def R_law : String := "CoverSheetLaw"
def lw_P (b : Addr) (xs : List Int32) (args : Array Value) (s : State) : Prop := args = #[.ref b] ∧ s.IntsAt b xs ∧ xs.length ≤ 260 ∧ (Jvm.Cond.and given_1 narrow_1).before args s = true
def lw_Q (_ : Array Value) (s : State) (o : Outcome) (t : State) : Prop := o = .returned (some (.int 1)) ∧ Framed s o t [] 600130 7301080
def lw_Z (below : List Frame) (a : Array Value) (s : State) : State → Prop := fun t => ∃ o, t.status = .running ∧ Ended t below o ∧ lw_Q a s o t
/-- the law's own end, with 1 on the stack, nothing written that was there before, its room as the claim has it -/
theorem lw_ret {p : Program} {l : Launch} {e : Env} {s : State} {m : MethodId} {below : List Frame} {meth : Method} {c : Code} {b : Nat} (hx : p.tables.exec = Jvm.exec) (hb : c.code = code) (hr : meth.sig.returnType = ret) (hlocks : meth.locks = false) {pc : Nat} {H : Heap} {ls : Array Slot} (hdg : decode code pc = .ok (.ireturn, 1)) : W p l e room_1 s m #[Value.ref b] below meth c H [] 600130 7301080 (lw_Z below #[Value.ref b] s) (F0 m pc ls [.int 1]) := by
  intro T hT X
  obtain ⟨fs, hret, hrun, hended, hW, hframe⟩ := X.leave (v := some (.int 1)) (hlocks := hlocks) (fun h => by rw [hr] at h; cases h)
  have hmeth' : T.vm.method? m = some meth := X.method'
  refine ⟨T.setFrames fs, ?_, .returned (some (.int 1)), hrun, hended, rfl, ⟨_, rfl⟩, hW, hframe⟩
  jvm_step X.here [X.here.top, hx, hb, hdg, hmeth', hr, ret, narrow_b1]
  (try refine ⟨rfl, ?_⟩); (try refine ⟨rfl, ?_⟩)
  first | (intro acts; rw [hret _ acts rfl rfl rfl]) | rw [hret _ _ rfl rfl rfl]
  exact Steps.refl _
/-- what holds at the law's entry: the machine, the code, the tables' words (any of lw_tbl by 'hts w (by decide +kernel)'), the script of L ints xs at the cell b, what the Statement gives of the start (any of its parts by flat_of_before) -/
def lw_At (p : Program) (s : State) (m : MethodId) (meth : Method) (c : Code) (b L : Nat) (xs : Nat → Int32) : Prop :=
  p.tables.exec = Jvm.exec ∧ c.code = code ∧ meth.sig.returnType = ret ∧ c.maxLocals = 19 ∧ s.vm.findClass R_law = some m.cls ∧ (∀ w ∈ lw_tbl, w.before #[Value.ref b] s = true) ∧ va_X b L xs s s.heap ∧ b < s.heap.size ∧ meth.locks = false ∧ (Jvm.Cond.and given_1 narrow_1).before #[Value.ref b] s = true
set_option maxHeartbeats 4000000 in
set_option maxRecDepth 100000 in
/-- THE LAW'S LOOP: at its head, after k turns, the law's arrays and the desk stand in the same numbers -/
theorem law_loop {p0 : Program} {l : Launch} {e0 : Env} {s0 : State} {m0 : MethodId} {b0 : List Frame} {t0 : Method} {c0 : Code} {bb L : Nat} {xs : Nat → Int32} {D : va_G} {cT : ClassId × ClassId × ClassId} {z c : Nat → Nat} (X : LA p0 s0 m0 t0 c0 bb L xs D cT) (hfl : l.stackTraces = false) (hr : t0.sig.returnType = ret) (hlocks : t0.locks = false) :
    ∀ (q : Nat) (k : Nat) (x : SG) (H : Heap) (locs : List Loc), 81 ≤ k + q → k ≤ 80 → x.ok k → va_P D vwCl (x.w cT z c) H → va_D (AL s0) (x.w cT z c) → va_S (AL s0) s0.heap H locs → ∀ ls : Array Slot, lv_has ls 19 [(0, .ref bb), (1, .ref (c 0)), (2, .ref (z 0)), (3, .ref (z 1)), (4, .ref (z 2)), (5, .ref (z 3)), (6, .ref (z 4)), (7, .ref (z 5)), (8, .ref (z 6)), (9, .int (nI k))] → W p0 l e0 room_1 s0 m0 #[Value.ref bb] b0 t0 c0 H locs (18 + k) (1277 + 8 * k) (lw_Z b0 #[Value.ref bb] s0) (F0 m0 96 ls []) := by
  obtain ⟨S, hL, hX, hbl, hK, hXS⟩ := id X
  have hA : ∀ q : Nat, s0.heap.size ≤ q → AL s0 q := fun _ h => h
  intro q
  induction q with
  | zero => intro k x H locs h1 h2; exact absurd h1 (by omega)
  | succ q ih =>
    intro k x H locs h1 h2 hx hP hD hS ls hl
    obtain ⟨hwf, hz, hro, h0⟩ := id (show okN k x.n x.ro x.fb x.rn x.nd x.sk x.mo x.wk x.fx x.wi x.la x.da x.we from hx)
    obtain ⟨hn, hcl, hfb, hrn, hnd, hper⟩ := id hwf
    have hP : va_P D vwCl (lX cT z x.n x.ro x.cl x.fb x.rn x.nd x.sk x.mo x.wk x.fx x.wi x.la x.da x.we x.Wv x.Bv ++ (cX cT c x.a6 x.a7 x.n x.ro x.cl x.fb x.rn x.nd x.V x.V2 x.PR x.pa ++ pool x.n x.pa (per x.sk x.mo x.wk x.fx x.wi x.la x.da x.we))) H := hP
    have hD : va_D (AL s0) (lX cT z x.n x.ro x.cl x.fb x.rn x.nd x.sk x.mo x.wk x.fx x.wi x.la x.da x.we x.Wv x.Bv ++ (cX cT c x.a6 x.a7 x.n x.ro x.cl x.fb x.rn x.nd x.V x.V2 x.PR x.pa ++ pool x.n x.pa (per x.sk x.mo x.wk x.fx x.wi x.la x.da x.we))) := hD
    have hcs0 : 18 + k ≤ room_1.cells ∧ 1277 + 8 * k ≤ room_1.slots := ⟨by show 18 + k ≤ 600130; omega, by show 1277 + 8 * k ≤ 7301080; omega⟩
    have hroom : 18 + k + 1 ≤ room_1.cells ∧ 1277 + 8 * k + 8 ≤ room_1.slots := ⟨by show 18 + k + 1 ≤ 600130; omega, by show 1277 + 8 * k + 8 ≤ 7301080; omega⟩
    have hcs1 : 18 + k + 1 ≤ room_1.cells ∧ 1277 + 8 * k + 8 ≤ room_1.slots := hroom
    have tail : k < 80 → ∀ (zz : Int32) (y : SG) (v : Int32) (H : Heap) (locs : List Loc), y.ok (k + 1) → va_P D vwCl (lX cT z y.n y.ro y.cl y.fb y.rn y.nd y.sk y.mo y.wk y.fx y.wi y.la y.da y.we y.Wv y.Bv ++ (cX cT c y.a6 y.a7 y.n y.ro y.cl y.fb y.rn y.nd y.V y.V2 y.PR y.pa ++ pool y.n y.pa (per y.sk y.mo y.wk y.fx y.wi y.la y.da y.we))) H → va_D (AL s0) (lX cT z y.n y.ro y.cl y.fb y.rn y.nd y.sk y.mo y.wk y.fx y.wi y.la y.da y.we y.Wv y.Bv ++ (cX cT c y.a6 y.a7 y.n y.ro y.cl y.fb y.rn y.nd y.V y.V2 y.PR y.pa ++ pool y.n y.pa (per y.sk y.mo y.wk y.fx y.wi y.la y.da y.we))) → va_S (AL s0) s0.heap H locs → ∀ ls : Array Slot, lv_has ls 19 [(0, .ref bb), (1, .ref (c 0)), (2, .ref (z 0)), (3, .ref (z 1)), (4, .ref (z 2)), (5, .ref (z 3)), (6, .ref (z 4)), (7, .ref (z 5)), (8, .ref (z 6)), (9, .int (nI k)), (10, .int zz), (14, .int v), (15, .int v)] → W p0 l e0 room_1 s0 m0 #[Value.ref bb] b0 t0 c0 H locs (18 + k + 1) (1277 + 8 * k + 8) (lw_Z b0 #[Value.ref bb] s0) (F0 m0 1009 ls []) := by
      intro hk80 zz y v H locs hy hP hD hS ls hl
      obtain ⟨hwf, hz, hro, h0⟩ := id (show okN (k + 1) y.n y.ro y.fb y.rn y.nd y.sk y.mo y.wk y.fx y.wi y.la y.da y.we from hy)
      obtain ⟨hn, hcl, hfb, hrn, hnd, hper⟩ := id hwf
      refine lv_iload S.1 S.2.1 dL_law_1009 (lv_at hl 12 rfl) ?_
      refine lv_iload S.1 S.2.1 dL_law_1011 (lv_at hl 11 rfl) ?_
      refine lv_icmp_ne (tgt := 1046) S.1 S.2.1 dL_law_1013 (by decide) (fun c1013 => ?_) (fun c1013 => ?_)
      · exact absurd rfl c1013
      refine lv_iload S.1 S.2.1 dL_law_1016 (lv_at hl 9 rfl) ?_
      refine lv_iconst (v := (nI 2)) S.1 S.2.1 dL_law_1018 (by decide) ?_
      refine n_rem S (by omega) dL_law_1019 ?_
      refine n_zne S (tgt := 1048) (by omega) dL_law_1020 (by decide) (fun c1020 => ?_) (fun c1020 => ?_)
      · refine lv_iinc (v := (nI (k + 1))) (lv' := [(9, .int (nI (k + 1))), (0, .ref bb), (1, .ref (c 0)), (2, .ref (z 0)), (3, .ref (z 1)), (4, .ref (z 2)), (5, .ref (z 3)), (6, .ref (z 4)), (7, .ref (z 5)), (8, .ref (z 6)), (10, .int zz), (14, .int v), (15, .int v)]) S.1 S.2.1 dL_law_1048 hl (k := 9) rfl (nI_1 _) (by decide) rfl (fun ls hl => ?_)
        refine lv_goto (tgt := 96) S.1 S.2.1 dL_law_1051 (by decide) ?_
        refine W.widen (k := 18 + (k + 1)) (n := 1277 + 8 * (k + 1)) (by omega) (by omega) ?_
        exact ih (k + 1) (sg_mk y.n y.ro y.cl y.fb y.rn y.a6 y.a7 y.nd y.sk y.mo y.wk y.fx y.wi y.la y.da y.we y.pa y.V y.V2 y.PR y.Wv y.Bv) H locs (by omega) (by omega) hy hP hD hS ls (lv_sub hl [1, 2, 3, 4, 5, 6, 7, 8, 9, 0] rfl)
      · refine lv_aload_n S.1 S.2.1 dL_law_1023 rfl (lv_at hl 1 rfl) ?_
        refine lv_iload S.1 S.2.1 dL_law_1024 (lv_at hl 10 rfl) ?_
        refine lv_iconst (v := (nI 4)) S.1 S.2.1 dL_law_1026 (by decide) ?_
        refine lv_ishr S.1 S.2.1 dL_law_1027 ?_
        refine lv_aload S.1 S.2.1 dL_law_1028 (lv_at hl 6 rfl) ?_
        refine lv_aload S.1 S.2.1 dL_law_1030 (lv_at hl 7 rfl) ?_
        refine lv_aload_n S.1 S.2.1 dL_law_1032 rfl (lv_at hl 2 rfl) ?_
        refine lv_aload_n S.1 S.2.1 dL_law_1033 rfl (lv_at hl 3 rfl) ?_
        refine lv_aload S.1 S.2.1 dL_law_1034 (lv_at hl 4 rfl) ?_
        refine lv_aload S.1 S.2.1 dL_law_1036 (lv_at hl 5 rfl) ?_
        refine lv_aload S.1 S.2.1 dL_law_1038 (lv_at hl 8 rfl) ?_
        refine wr_callSi (rest := []) S (w_L_isSo l D cT _ z c y.pa (k + 1) y.a6 y.a7 y.n y.ro y.cl y.fb y.rn y.nd y.sk y.mo y.wk y.fx y.wi y.la y.da y.we y.Wv y.Bv y.V y.V2 y.PR (zz >>> ((nI 4) &&& 31)) (hwf) (hz) (hro)) gL_law_L_isSo rfl pd_L_isSo ⟨rfl, rfl, Nat.le_of_ble_eq_true rfl, Nat.le_of_ble_eq_true rfl⟩ hP hK hD hS hA hl rfl rfl (Nat.le_of_ble_eq_true rfl) hcs1 dL_law_1040 (fun r_ u_ H locs hr_ hP hD hS => ?_)
        subst hr_
        have hP : va_P D vwCl (lX cT z y.n y.ro y.cl y.fb y.rn y.nd y.sk y.mo y.wk y.fx y.wi y.la y.da y.we u_.1 u_.2.1 ++ (cX cT c u_.2.2.1 u_.2.2.2.1 y.n y.ro y.cl y.fb y.rn y.nd u_.2.2.2.2.1 u_.2.2.2.2.2 y.PR y.pa ++ pool y.n y.pa (per y.sk y.mo y.wk y.fx y.wi y.la y.da y.we))) H := hP
        have hD : va_D (AL s0) (lX cT z y.n y.ro y.cl y.fb y.rn y.nd y.sk y.mo y.wk y.fx y.wi y.la y.da y.we u_.1 u_.2.1 ++ (cX cT c u_.2.2.1 u_.2.2.2.1 y.n y.ro y.cl y.fb y.rn y.nd u_.2.2.2.2.1 u_.2.2.2.2.2 y.PR y.pa ++ pool y.n y.pa (per y.sk y.mo y.wk y.fx y.wi y.la y.da y.we))) := hD
        refine n_bne S (tgt := 1048) dL_law_1043 (by decide) (fun _ => ?_) (fun q => absurd q (by decide))
        refine lv_iinc (v := (nI (k + 1))) (lv' := [(9, .int (nI (k + 1))), (0, .ref bb), (1, .ref (c 0)), (2, .ref (z 0)), (3, .ref (z 1)), (4, .ref (z 2)), (5, .ref (z 3)), (6, .ref (z 4)), (7, .ref (z 5)), (8, .ref (z 6)), (10, .int zz), (14, .int v), (15, .int v)]) S.1 S.2.1 dL_law_1048 hl (k := 9) rfl (nI_1 _) (by decide) rfl (fun ls hl => ?_)
        refine lv_goto (tgt := 96) S.1 S.2.1 dL_law_1051 (by decide) ?_
        refine W.widen (k := 18 + (k + 1)) (n := 1277 + 8 * (k + 1)) (by omega) (by omega) ?_
        exact ih (k + 1) (sg_mk y.n y.ro y.cl y.fb y.rn u_.2.2.1 u_.2.2.2.1 y.nd y.sk y.mo y.wk y.fx y.wi y.la y.da y.we y.pa u_.2.2.2.2.1 u_.2.2.2.2.2 y.PR u_.1 u_.2.1) H locs (by omega) (by omega) hy hP hD hS ls (lv_sub hl [1, 2, 3, 4, 5, 6, 7, 8, 9, 0] rfl)
    refine lv_iload S.1 S.2.1 dL_law_96 (lv_at hl 9 rfl) ?_
    refine lv_bipush (v := (nI 80)) S.1 S.2.1 dL_law_98 (by decide) ?_
    refine n_cge S (tgt := 1054) (by omega) dL_law_100 (by decide) (fun c100 => ?_) (fun c100 => ?_)
    · refine lv_iconst (v := 1) S.1 S.2.1 dL_law_1054 (by decide) ?_
      refine va_forget (fun q hq => hS.2.2 q hq) ?_
      refine W.widen (k := 600130) (n := 7301080) (by omega) (by omega) ?_
      exact lw_ret S.1 S.2.1 hr hlocks dL_law_1055
    · refine lv_aload_n S.1 S.2.1 dL_law_103 rfl (lv_at hl 0 rfl) ?_
      refine lv_iload S.1 S.2.1 dL_law_104 (lv_at hl 9 rfl) ?_
      have hXH : va_X bb L xs s0 H := hX.kept (hS.2.1 bb hbl (Nat.not_le.mpr hbl))
      have hbH : bb < H.size := Nat.lt_of_lt_of_le hbl hS.1
      refine rd_callX (As := [.ref bb, .int (nI k)]) (rest := []) S (r_L_cell l D cT bb L k xs hL (by omega)) gL_law_L_cell rfl pd_L_cell ⟨rfl, rfl, Nat.le_of_ble_eq_true rfl, Nat.le_of_ble_eq_true rfl⟩ hXH hbH hK hl rfl rfl (Nat.le_of_ble_eq_true rfl) hcs0 dL_law_106 ?_
      generalize cellv xs L k = zz
      refine lv_istore (lv' := [(10, .int zz), (0, .ref bb), (1, .ref (c 0)), (2, .ref (z 0)), (3, .ref (z 1)), (4, .ref (z 2)), (5, .ref (z 3)), (6, .ref (z 4)), (7, .ref (z 5)), (8, .ref (z 6)), (9, .int (nI k))]) S.1 S.2.1 dL_law_109 hl (by decide) rfl (fun ls hl => ?_)
      refine lv_iload S.1 S.2.1 dL_law_111 (lv_at hl 0 rfl) ?_
      refine lv_bipush (v := (nI 28)) S.1 S.2.1 dL_law_113 (by decide) ?_
      refine rd_callS (rest := []) S (r_L_low l D cT zz 28 (by omega)) gL_law_L_low rfl pd_L_low ⟨rfl, rfl, Nat.le_of_ble_eq_true rfl, Nat.le_of_ble_eq_true rfl⟩ (sx_P0 D _) hK hl rfl rfl (Nat.le_of_ble_eq_true rfl) hcs0 dL_law_115 ?_
      have hact := Nat.mod_lt (lowb zz) (show 28 > 0 from by omega)
      generalize lowb zz % 28 = act at hact ⊢
      refine lv_istore (lv' := [(11, .int (nI act)), (10, .int zz), (0, .ref bb), (1, .ref (c 0)), (2, .ref (z 0)), (3, .ref (z 1)), (4, .ref (z 2)), (5, .ref (z 3)), (6, .ref (z 4)), (7, .ref (z 5)), (8, .ref (z 6)), (9, .int (nI k))]) S.1 S.2.1 dL_law_118 hl (by decide) rfl (fun ls hl => ?_)
      have jn142 : ∀ (p : Nat) , (0 < x.n → p < x.n) → ∀ (H : Heap) (locs : List Loc), va_P D vwCl (lX cT z x.n x.ro x.cl x.fb x.rn x.nd x.sk x.mo x.wk x.fx x.wi x.la x.da x.we x.Wv x.Bv ++ (cX cT c x.a6 x.a7 x.n x.ro x.cl x.fb x.rn x.nd x.V x.V2 x.PR x.pa ++ pool x.n x.pa (per x.sk x.mo x.wk x.fx x.wi x.la x.da x.we))) H → va_D (AL s0) (lX cT z x.n x.ro x.cl x.fb x.rn x.nd x.sk x.mo x.wk x.fx x.wi x.la x.da x.we x.Wv x.Bv ++ (cX cT c x.a6 x.a7 x.n x.ro x.cl x.fb x.rn x.nd x.V x.V2 x.PR x.pa ++ pool x.n x.pa (per x.sk x.mo x.wk x.fx x.wi x.la x.da x.we))) → va_S (AL s0) s0.heap H locs → ∀ ls : Array Slot, lv_has ls 19 [(0, .ref bb), (1, .ref (c 0)), (2, .ref (z 0)), (3, .ref (z 1)), (4, .ref (z 2)), (5, .ref (z 3)), (6, .ref (z 4)), (7, .ref (z 5)), (8, .ref (z 6)), (9, .int (nI k)), (10, .int zz), (11, .int (nI act))] → W p0 l e0 room_1 s0 m0 #[Value.ref bb] b0 t0 c0 H locs (18 + k) (1277 + 8 * k) (lw_Z b0 #[Value.ref bb] s0) (F0 m0 142 ls [.int (nI p)]) := by
        intro p hp0 H locs hP hD hS ls hl
        refine lv_istore (lv' := [(12, .int (nI p)), (0, .ref bb), (1, .ref (c 0)), (2, .ref (z 0)), (3, .ref (z 1)), (4, .ref (z 2)), (5, .ref (z 3)), (6, .ref (z 4)), (7, .ref (z 5)), (8, .ref (z 6)), (9, .int (nI k)), (10, .int zz), (11, .int (nI act))]) S.1 S.2.1 dL_law_142 hl (by decide) rfl (fun ls hl => ?_)
        refine lv_iload S.1 S.2.1 dL_law_144 (lv_at hl 11 rfl) ?_
        refine lv_bipush (v := (nI 8)) S.1 S.2.1 dL_law_146 (by decide) ?_
        refine lv_ishr S.1 S.2.1 dL_law_148 ?_
        refine lv_bipush (v := (nI 7)) S.1 S.2.1 dL_law_149 (by decide) ?_
        refine rd_callS (rest := []) S (r_L_low l D cT (zz >>> ((nI 8) &&& 31)) 7 (by omega)) gL_law_L_low rfl pd_L_low ⟨rfl, rfl, Nat.le_of_ble_eq_true rfl, Nat.le_of_ble_eq_true rfl⟩ (sx_P0 D _) hK hl rfl rfl (Nat.le_of_ble_eq_true rfl) hcs0 dL_law_151 ?_
        have hdy := Nat.mod_lt (lowb (zz >>> ((nI 8) &&& 31))) (show 7 > 0 from by omega)
        generalize lowb (zz >>> ((nI 8) &&& 31)) % 7 = dy at hdy ⊢
        refine lv_istore (lv' := [(13, .int (nI dy)), (12, .int (nI p)), (0, .ref bb), (1, .ref (c 0)), (2, .ref (z 0)), (3, .ref (z 1)), (4, .ref (z 2)), (5, .ref (z 3)), (6, .ref (z 4)), (7, .ref (z 5)), (8, .ref (z 6)), (9, .int (nI k)), (10, .int zz), (11, .int (nI act))]) S.1 S.2.1 dL_law_154 hl (by decide) rfl (fun ls hl => ?_)
        refine lv_iconst (v := (nI 0)) S.1 S.2.1 dL_law_156 (by decide) ?_
        refine lv_istore (lv' := [(14, .int (nI 0)), (13, .int (nI dy)), (12, .int (nI p)), (0, .ref bb), (1, .ref (c 0)), (2, .ref (z 0)), (3, .ref (z 1)), (4, .ref (z 2)), (5, .ref (z 3)), (6, .ref (z 4)), (7, .ref (z 5)), (8, .ref (z 6)), (9, .int (nI k)), (10, .int zz), (11, .int (nI act))]) S.1 S.2.1 dL_law_157 hl (by decide) rfl (fun ls hl => ?_)
        refine lv_iconst (v := (nI 0)) S.1 S.2.1 dL_law_159 (by decide) ?_
        refine lv_istore (lv' := [(15, .int (nI 0)), (14, .int (nI 0)), (13, .int (nI dy)), (12, .int (nI p)), (0, .ref bb), (1, .ref (c 0)), (2, .ref (z 0)), (3, .ref (z 1)), (4, .ref (z 2)), (5, .ref (z 3)), (6, .ref (z 4)), (7, .ref (z 5)), (8, .ref (z 6)), (9, .int (nI k)), (10, .int zz), (11, .int (nI act))]) S.1 S.2.1 dL_law_160 hl (by decide) rfl (fun ls hl => ?_)
        have jn294 : (3 ≤ x.n) → (p < x.n) → ∀ (H : Heap) (locs : List Loc), va_P D vwCl (lX cT z x.n x.ro x.cl x.fb x.rn x.nd x.sk x.mo x.wk x.fx x.wi x.la x.da x.we x.Wv x.Bv ++ (cX cT c x.a6 x.a7 x.n x.ro x.cl x.fb x.rn x.nd x.V x.V2 x.PR x.pa ++ pool x.n x.pa (per x.sk x.mo x.wk x.fx x.wi x.la x.da x.we))) H → va_D (AL s0) (lX cT z x.n x.ro x.cl x.fb x.rn x.nd x.sk x.mo x.wk x.fx x.wi x.la x.da x.we x.Wv x.Bv ++ (cX cT c x.a6 x.a7 x.n x.ro x.cl x.fb x.rn x.nd x.V x.V2 x.PR x.pa ++ pool x.n x.pa (per x.sk x.mo x.wk x.fx x.wi x.la x.da x.we))) → va_S (AL s0) s0.heap H locs → ∀ ls : Array Slot, lv_has ls 19 [(0, .ref bb), (1, .ref (c 0)), (2, .ref (z 0)), (3, .ref (z 1)), (4, .ref (z 2)), (5, .ref (z 3)), (6, .ref (z 4)), (7, .ref (z 5)), (8, .ref (z 6)), (9, .int (nI k)), (10, .int zz), (11, .int (nI act)), (12, .int (nI p)), (13, .int (nI dy)), (14, .int (nI 0)), (15, .int (nI 0))] → W p0 l e0 room_1 s0 m0 #[Value.ref bb] b0 t0 c0 H locs (18 + k) (1277 + 8 * k) (lw_Z b0 #[Value.ref bb] s0) (F0 m0 294 ls []) := by
          intro  h3 hp H locs hP hD hS ls hl
          refine lv_iload S.1 S.2.1 dL_law_294 (lv_at hl 11 rfl) ?_
          refine lv_bipush (v := (nI 10)) S.1 S.2.1 dL_law_296 (by decide) ?_
          refine n_cge S (tgt := 359) (by omega) dL_law_298 (by decide) (fun c298 => ?_) (fun c298 => ?_)
          · refine lv_iload S.1 S.2.1 dL_law_359 (lv_at hl 11 rfl) ?_
            refine lv_bipush (v := (nI 12)) S.1 S.2.1 dL_law_361 (by decide) ?_
            refine n_cge S (tgt := 469) (by omega) dL_law_363 (by decide) (fun c363 => ?_) (fun c363 => ?_)
            · refine lv_iload S.1 S.2.1 dL_law_469 (lv_at hl 11 rfl) ?_
              refine lv_bipush (v := (nI 12)) S.1 S.2.1 dL_law_471 (by decide) ?_
              refine n_cne S (tgt := 513) (by omega) dL_law_473 (by decide) (fun c473 => ?_) (fun c473 => ?_)
              · refine lv_iload S.1 S.2.1 dL_law_513 (lv_at hl 11 rfl) ?_
                refine lv_bipush (v := (nI 15)) S.1 S.2.1 dL_law_515 (by decide) ?_
                refine n_cge S (tgt := 614) (by omega) dL_law_517 (by decide) (fun c517 => ?_) (fun c517 => ?_)
                · refine lv_iload S.1 S.2.1 dL_law_614 (lv_at hl 11 rfl) ?_
                  refine lv_bipush (v := (nI 17)) S.1 S.2.1 dL_law_616 (by decide) ?_
                  refine n_cge S (tgt := 680) (by omega) dL_law_618 (by decide) (fun c618 => ?_) (fun c618 => ?_)
                  · refine lv_iload S.1 S.2.1 dL_law_680 (lv_at hl 11 rfl) ?_
                    refine lv_bipush (v := (nI 19)) S.1 S.2.1 dL_law_682 (by decide) ?_
                    refine n_cge S (tgt := 721) (by omega) dL_law_684 (by decide) (fun c684 => ?_) (fun c684 => ?_)
                    · refine lv_iload S.1 S.2.1 dL_law_721 (lv_at hl 11 rfl) ?_
                      refine lv_bipush (v := (nI 23)) S.1 S.2.1 dL_law_723 (by decide) ?_
                      refine n_cge S (tgt := 826) (by omega) dL_law_725 (by decide) (fun c725 => ?_) (fun c725 => ?_)
                      · refine lv_iload S.1 S.2.1 dL_law_826 (lv_at hl 11 rfl) ?_
                        refine lv_bipush (v := (nI 26)) S.1 S.2.1 dL_law_828 (by decide) ?_
                        refine n_cge S (tgt := 981) (by omega) dL_law_830 (by decide) (fun c830 => ?_) (fun c830 => ?_)
                        · refine lv_iload S.1 S.2.1 dL_law_981 (lv_at hl 11 rfl) ?_
                          refine lv_bipush (v := (nI 26)) S.1 S.2.1 dL_law_983 (by decide) ?_
                          refine n_cne S (tgt := 1009) (by omega) dL_law_985 (by decide) (fun c985 => ?_) (fun c985 => ?_)
                          · refine W.widen (k := 18 + k + 1) (n := 1277 + 8 * k + 8) (by omega) (by omega) ?_
                            exact tail (by omega) zz x (nI 0) H locs (on_id hx (by omega)) hP hD hS ls (lv_sub hl [0, 1, 2, 3, 4, 5, 6, 7, 8, 9, 10, 14, 15] rfl)
                          · refine lc_close X hcs0 hroom hwf hz h0 (by omega) hP hD hS (lv_sub hl [0, 1, 2, 3, 4, 5, 6, 7, 8, 9, 10, 11, 12, 13, 14, 15] rfl) (fun  H locs hP hD hS ls hl => ?_)
                            exact tail (by omega) zz (sg_mk x.n x.ro (x.cl + 1) x.fb x.rn x.a6 x.a7 x.nd x.sk x.mo (upn x.wk (fun _ => 0) x.n) (upn x.fx (fun _ => 0) x.n) (upn x.wi (fun _ => 0) x.n) (upn x.la (clL x.wk) x.n) (upn x.da (clG x.wk x.da) x.n) (upn x.we (clE x.wk x.we) x.n) x.pa x.V x.V2 x.PR x.Wv x.Bv) (nI (x.cl + 1)) H locs (on_cl hx (by omega)) hP hD hS ls hl
                        · refine lc_swap X hcs0 hroom hwf hz h0 hp hdy hfl hP hD hS (lv_sub hl [0, 1, 2, 3, 4, 5, 6, 7, 8, 9, 10, 11, 12, 13, 14, 15] rfl) (fun w2 W2 tv hw2 hw0 H locs hP hD hS ls hl => ?_)
                          exact tail (by omega) zz (sg_mk x.n x.ro x.cl x.fb x.rn x.a6 x.a7 x.nd x.sk x.mo w2 x.fx x.wi x.la x.da x.we x.pa x.V x.V2 x.PR W2 x.Bv) tv H locs (on_wk hx (by omega) hw2 hw0 hro) hP hD hS ls hl
                      · refine lc_set X hcs0 hroom hwf hz h0 hp hdy hfl hP hD hS (lv_sub hl [0, 1, 2, 3, 4, 5, 6, 7, 8, 9, 10, 11, 12, 13, 14, 15] rfl) (fun w2 W2 tv hw2 hw0 H locs hP hD hS ls hl => ?_)
                        exact tail (by omega) zz (sg_mk x.n x.ro x.cl x.fb x.rn x.a6 x.a7 x.nd x.sk x.mo w2 x.fx x.wi x.la x.da x.we x.pa x.V x.V2 x.PR W2 x.Bv) tv H locs (on_wk hx (by omega) hw2 hw0 hro) hP hD hS ls hl
                    · refine lc_plan X hcs0 hroom hwf hz h0  hP hD hS (lv_sub hl [0, 1, 2, 3, 4, 5, 6, 7, 8, 9, 10, 11, 12, 13, 14, 15] rfl) (fun u1 u2 hq1 H locs hP hD hS ls hl => ?_)
                      exact tail (by omega) zz (sg_mk x.n u1.1 x.cl x.fb x.rn u2.2.1 u2.2.2.1 x.nd x.sk x.mo ((pls (cho x.n x.fb x.rn x.nd x.sk x.mo x.fx x.wi x.la x.da x.we) x.n (fun _ => 0) u1.1).1) x.fx x.wi x.la x.da x.we x.pa u2.2.2.2.1 u2.2.2.2.2.1 u2.2.2.2.2.2 u1.2.1 u1.2.2) (nI (gpd x.n x.nd ((pls (cho x.n x.fb x.rn x.nd x.sk x.mo x.fx x.wi x.la x.da x.we) x.n (fun _ => 0) u1.1).1) 7)) H locs (on_wk hx (by omega) (pls_lt (fun w p => cho_lt _ _ _ _ _ _ _ _ _ _ _ w p) (fun _ => by decide) u1.1) (fun j hj => pls_out u1.1 j hj) hq1.2.2) hP hD hS ls hl
                  · refine lc_fix X hcs0 hroom hwf hz h0 hp hdy hP hD hS (lv_sub hl [0, 1, 2, 3, 4, 5, 6, 7, 8, 9, 10, 11, 12, 13, 14, 15] rfl) (fun v5 hv5 H locs hP hD hS ls hl => ?_)
                    exact tail (by omega) zz (sg_mk x.n x.ro x.cl x.fb x.rn x.a6 x.a7 x.nd x.sk x.mo x.wk (va_up x.fx p (nset (x.fx p) dy v5)) x.wi x.la x.da x.we x.pa x.V x.V2 x.PR x.Wv x.Bv) (nI (nib (x.fx p) dy) - nI 1) H locs (on_fx hx (by omega) hp hdy hv5) hP hD hS ls hl
                · refine lc_wish X hcs0 hroom hwf hz h0 hp hdy hP hD hS (lv_sub hl [0, 1, 2, 3, 4, 5, 6, 7, 8, 9, 10, 11, 12, 13, 14, 15] rfl) (fun b2 tv hb2 H locs hP hD hS ls hl => ?_)
                  exact tail (by omega) zz (sg_mk x.n x.ro x.cl x.fb x.rn x.a6 x.a7 x.nd x.sk x.mo x.wk x.fx (va_up x.wi p (bset (x.wi p) dy b2)) x.la x.da x.we x.pa x.V x.V2 x.PR x.Wv x.Bv) (nI tv) H locs (on_wi hx (by omega) hp hdy hb2) hP hD hS ls hl
              · refine lc_setRun X hcs0 hroom hwf hz h0  hP hD hS (lv_sub hl [0, 1, 2, 3, 4, 5, 6, 7, 8, 9, 10, 11, 12, 13, 14, 15] rfl) (fun v hv H locs hP hD hS ls hl => ?_)
                exact tail (by omega) zz (sg_mk x.n x.ro x.cl x.fb v x.a6 x.a7 x.nd x.sk x.mo x.wk x.fx x.wi x.la x.da x.we x.pa x.V x.V2 x.PR x.Wv x.Bv) (nI x.rn) H locs (on_rn hx (by omega) hv.2) hP hD hS ls hl
            · refine lc_forbid X hcs0 hroom hwf hz h0  hP hD hS (lv_sub hl [0, 1, 2, 3, 4, 5, 6, 7, 8, 9, 10, 11, 12, 13, 14, 15] rfl) (fun ea eb b2 tv hea heb hb2 H locs hP hD hS ls hl => ?_)
              exact tail (by omega) zz (sg_mk x.n x.ro x.cl (bset x.fb (4 * ea + eb) b2) x.rn x.a6 x.a7 x.nd x.sk x.mo x.wk x.fx x.wi x.la x.da x.we x.pa x.V x.V2 x.PR x.Wv x.Bv) (nI tv) H locs (on_fb hx (by omega) hb2 hea heb) hP hD hS ls hl
          · refine lc_setNeed X hcs0 hroom hwf hz h0 hdy hP hD hS (lv_sub hl [0, 1, 2, 3, 4, 5, 6, 7, 8, 9, 10, 11, 12, 13, 14, 15] rfl) (fun kd v4 hkd hv4 H locs hP hD hS ls hl => ?_)
            exact tail (by omega) zz (sg_mk x.n x.ro x.cl x.fb x.rn x.a6 x.a7 (va_up x.nd (dy * 4 + kd) v4) x.sk x.mo x.wk x.fx x.wi x.la x.da x.we x.pa x.V x.V2 x.PR x.Wv x.Bv) (nI (x.nd (dy * 4 + kd))) H locs (on_nd hx (by omega) (by omega)) hP hD hS ls hl
        refine lv_aload S.1 S.2.1 dL_law_162 (lv_at hl 12 rfl) ?_
        refine lv_iconst (v := (nI 0)) S.1 S.2.1 dL_law_164 (by decide) ?_
        refine g_iald S 6 hK hP rfl (by omega) dL_law_165 ?_
        refine n_top (show (nI ((qfn x.n x.cl x.ro) 0)) = (nI x.n) from rfl) ?_
        refine lv_iconst (v := (nI 3)) S.1 S.2.1 dL_law_166 (by decide) ?_
        refine n_clt S (tgt := 184) (by omega) dL_law_167 (by decide) (fun c167 => ?_) (fun c167 => ?_)
        · refine lc_addPerson X hcs0 hroom hwf hz h0 (by omega) hP hD hS (lv_sub hl [4, 5, 6, 7, 8, 9, 10, 11, 12, 13, 14, 15, 3, 2, 1, 0] rfl) (fun v mm u9 hv hmm H locs hP hD hS ls hl => ?_)
          exact tail (by omega) zz (sg_mk (x.n + 1) x.ro x.cl x.fb x.rn x.a6 x.a7 x.nd (va_up x.sk x.n v) (va_up x.mo x.n mm) x.wk x.fx x.wi x.la x.da x.we (va_up x.pa x.n u9) x.V x.V2 x.PR x.Wv x.Bv) (nI x.n) H locs (on_add hx (by omega) (by omega) hv hmm) hP hD hS ls hl
        · refine lv_iload S.1 S.2.1 dL_law_170 (lv_at hl 15 rfl) ?_
          refine n_zne S (tgt := 294) (by omega) dL_law_172 (by decide) (fun c172 => ?_) (fun c172 => ?_)
          · exact jn294  (by omega) (hp0 (by omega)) _ _ hP hD hS ls (lv_sub hl [4, 5, 6, 7, 8, 9, 10, 11, 12, 13, 14, 15, 3, 2, 1, 0] rfl)
          · refine lv_aload S.1 S.2.1 dL_law_175 (lv_at hl 12 rfl) ?_
            refine lv_iconst (v := (nI 0)) S.1 S.2.1 dL_law_177 (by decide) ?_
            refine g_iald S 6 hK hP rfl (by omega) dL_law_178 ?_
            refine n_top (show (nI ((qfn x.n x.cl x.ro) 0)) = (nI x.n) from rfl) ?_
            refine lv_bipush (v := (nI 8)) S.1 S.2.1 dL_law_179 (by decide) ?_
            refine n_cge S (tgt := 294) (by omega) dL_law_181 (by decide) (fun c181 => ?_) (fun c181 => ?_)
            · exact jn294  (by omega) (hp0 (by omega)) _ _ hP hD hS ls (lv_sub hl [4, 5, 6, 7, 8, 9, 10, 11, 12, 13, 14, 15, 3, 2, 1, 0] rfl)
            · refine lc_addPerson X hcs0 hroom hwf hz h0 (by omega) hP hD hS (lv_sub hl [4, 5, 6, 7, 8, 9, 10, 11, 12, 13, 14, 15, 3, 2, 1, 0] rfl) (fun v mm u9 hv hmm H locs hP hD hS ls hl => ?_)
              exact tail (by omega) zz (sg_mk (x.n + 1) x.ro x.cl x.fb x.rn x.a6 x.a7 x.nd (va_up x.sk x.n v) (va_up x.mo x.n mm) x.wk x.fx x.wi x.la x.da x.we (va_up x.pa x.n u9) x.V x.V2 x.PR x.Wv x.Bv) (nI x.n) H locs (on_add hx (by omega) (by omega) hv hmm) hP hD hS ls hl
      refine lv_aload S.1 S.2.1 dL_law_120 (lv_at hl 10 rfl) ?_
      refine lv_iconst (v := (nI 0)) S.1 S.2.1 dL_law_122 (by decide) ?_
      refine g_iald S 6 hK hP rfl (by omega) dL_law_123 ?_
      refine n_top (show (nI ((qfn x.n x.cl x.ro) 0)) = (nI x.n) from rfl) ?_
      refine n_zne S (tgt := 131) (by omega) dL_law_124 (by decide) (fun c124 => ?_) (fun c124 => ?_)
      · refine lv_iload S.1 S.2.1 dL_law_131 (lv_at hl 1 rfl) ?_
        refine lv_iconst (v := (nI 5)) S.1 S.2.1 dL_law_133 (by decide) ?_
        refine lv_ishr S.1 S.2.1 dL_law_134 ?_
        refine lv_aload S.1 S.2.1 dL_law_135 (lv_at hl 10 rfl) ?_
        refine lv_iconst (v := (nI 0)) S.1 S.2.1 dL_law_137 (by decide) ?_
        refine g_iald S 6 hK hP rfl (by omega) dL_law_138 ?_
        refine n_top (show (nI ((qfn x.n x.cl x.ro) 0)) = (nI x.n) from rfl) ?_
        refine rd_callS (rest := []) S (r_L_low l D cT (zz >>> ((nI 5) &&& 31)) x.n (⟨by omega, by omega⟩)) gL_law_L_low rfl pd_L_low ⟨rfl, rfl, Nat.le_of_ble_eq_true rfl, Nat.le_of_ble_eq_true rfl⟩ (sx_P0 D _) hK hl rfl rfl (Nat.le_of_ble_eq_true rfl) hcs0 dL_law_139 ?_
        exact jn142 (lowb (zz >>> ((nI 5) &&& 31)) % x.n) (fun h => Nat.mod_lt _ h) _ _ hP hD hS ls (lv_sub hl [2, 3, 4, 5, 6, 7, 8, 9, 10, 11, 1, 0] rfl)
      · refine lv_iconst (v := (nI 0)) S.1 S.2.1 dL_law_127 (by decide) ?_
        refine lv_goto (tgt := 142) S.1 S.2.1 dL_law_128 (by decide) ?_
        exact jn142 0 (fun h => absurd c124 (by omega)) _ _ hP hD hS ls (lv_sub hl [2, 3, 4, 5, 6, 7, 8, 9, 10, 11, 1, 0] rfl)
set_option maxHeartbeats 4000000 in
set_option maxRecDepth 100000 in
theorem whole_start {p : Program} {e : Env} {s : State} {m : MethodId} {below : List Frame} {meth : Method} {c : Code} (l : Launch) (hflags : l.flags = flags0) {b L : Nat} {xs : Nat → Int32} (hL : L ≤ 260) (C0 : lw_At p s m meth c b L xs) : W p l e room_1 s m #[Value.ref b] below meth c s.heap [] 0 0 (lw_Z below #[Value.ref b] s) (entryFrame m ([Value.ref b] : List Value).toArray 19) := by
  obtain ⟨hx, hb, hr, hml, hown, hts, hX, hbl, hlocks, hgv⟩ := id C0
  have hfl : l.stackTraces = false := by unfold Launch.stackTraces; rw [hflags]; decide +kernel
  obtain ⟨D, cT, hK⟩ := law_KN hts
  have hXS := law_XS hts hgv
  have hE : va_AO RX4 s := va_AO.of (hts _ (tl_in tl_3))
  have S : CallFix p m c cL_law 19 s #[Value.ref b] wsL_law RL := ⟨hx, hb, hml, hown, fun w h => hts w (wsL_law_in w h)⟩
  have X : LA p s m meth c b L xs D cT := ⟨S, hL, hX, hbl, hK, hXS⟩
  have hA : ∀ q : Nat, s.heap.size ≤ q → AL s q := fun _ h => h
  have hS : va_S (AL s) s.heap s.heap [] := va_S.rf
  have hP : va_P D vwCl [] s.heap := fun k q h => by simp at h
  have hD : va_D (AL s) [] := ⟨fun i j p q h => by simp at h, fun k q h => by simp at h⟩
  have hl := lv_entry ([.ref b]) (n := 19) (Nat.le_of_ble_eq_true rfl)
  rw [lg_entry_eq]
  generalize (lg_sl ([.ref b]) ++ List.replicate (19 - (lg_sl ([.ref b])).length) Slot.unset).toArray = ls at hl ⊢
  have hl : lv_has ls 19 [(0, .ref b)] := hl
  refine n_new (C := RX8) (T := TX8) (N := 9) S 6 inlX8 tyX8 tyX8_ok ⟨wd_1, wd_2, wd_3⟩ hK hP hD hS hA rfl [.null, .null, .null, .null, .null, .null, .int 0, .int 0, .int 0] (fun j hj => match j, hj with | 0, _ => rfl | 1, _ => rfl | 2, _ => rfl | 3, _ => rfl | 4, _ => rfl | 5, _ => rfl | 6, _ => rfl | 7, _ => rfl | 8, _ => rfl | n + 9, h => absurd h (by omega)) ⟨Nat.le_of_ble_eq_true rfl, Nat.le_of_ble_eq_true rfl⟩ dL_law_0 (fun a H hP hD hS => ?_)
  refine lv_dup S.1 S.2.1 dL_law_3 rfl ?_
  refine n_callE (As := []) (rest := [.ref a]) (n := 0) S hE (w_X8_init l D cT _ [] a) gL_law_X8_init rfl wd_8 ⟨wd_3, wd_9, rfl⟩ ⟨by decide +kernel, by decide +kernel, rfl⟩ ⟨rfl, rfl, Nat.le_of_ble_eq_true rfl, Nat.le_of_ble_eq_true rfl⟩ hP hK hD hS hA hl rfl rfl (Nat.le_of_ble_eq_true rfl) ⟨Nat.le_of_ble_eq_true rfl, Nat.le_of_ble_eq_true rfl⟩ dL_law_4 (fun u H locs hu hP2 hD2 hS2 => ?_)
  have hu : u.1 0 = a := hu
  subst hu
  have hP : va_P D vwCl (cX cT u.1 u.2.1 u.2.2 0 0 0 25088 5 (fun _ => 0) (fun _ => 0) (fun _ => 0) (fun _ => 0) (fun _ => 0)) H := hP2
  have hD : va_D (AL s) (cX cT u.1 u.2.1 u.2.2 0 0 0 25088 5 (fun _ => 0) (fun _ => 0) (fun _ => 0) (fun _ => 0) (fun _ => 0)) := hD2
  have hS := hS2
  refine lv_astore_n (lv' := [(1, .ref (u.1 0)), (0, .ref b)]) S.1 S.2.1 dL_law_7 rfl hl (by decide) rfl (fun ls hl => ?_)
  refine lv_bipush (v := nI 64) S.1 S.2.1 dL_law_8 (by decide) ?_
  refine n_newi (N := 64) S hK hP hD hS hA wd_7 (by decide +kernel) ⟨Nat.le_of_ble_eq_true rfl, Nat.le_of_ble_eq_true rfl⟩ dL_law_10 (fun a1 H hP hD hS => ?_)
  refine lv_astore_n (lv' := [(2, .ref a1), (1, .ref (u.1 0)), (0, .ref b)]) S.1 S.2.1 dL_law_12 rfl hl (by decide) rfl (fun ls hl => ?_)
  refine lv_bipush (v := nI 56) S.1 S.2.1 dL_law_13 (by decide) ?_
  refine n_newi (N := 56) S hK hP hD hS hA wd_7 (by decide +kernel) ⟨Nat.le_of_ble_eq_true rfl, Nat.le_of_ble_eq_true rfl⟩ dL_law_15 (fun a2 H hP hD hS => ?_)
  refine lv_astore_n (lv' := [(3, .ref a2), (2, .ref a1), (1, .ref (u.1 0)), (0, .ref b)]) S.1 S.2.1 dL_law_17 rfl hl (by decide) rfl (fun ls hl => ?_)
  refine lv_bipush (v := nI 56) S.1 S.2.1 dL_law_18 (by decide) ?_
  refine n_newi (N := 56) S hK hP hD hS hA wd_7 (by decide +kernel) ⟨Nat.le_of_ble_eq_true rfl, Nat.le_of_ble_eq_true rfl⟩ dL_law_20 (fun a3 H hP hD hS => ?_)
  refine lv_astore (lv' := [(4, .ref a3), (3, .ref a2), (2, .ref a1), (1, .ref (u.1 0)), (0, .ref b)]) S.1 S.2.1 dL_law_22 hl (by decide) rfl (fun ls hl => ?_)
  refine lv_bipush (v := nI 45) S.1 S.2.1 dL_law_24 (by decide) ?_
  refine n_newi (N := 45) S hK hP hD hS hA wd_7 (by decide +kernel) ⟨Nat.le_of_ble_eq_true rfl, Nat.le_of_ble_eq_true rfl⟩ dL_law_26 (fun a4 H hP hD hS => ?_)
  refine lv_astore (lv' := [(5, .ref a4), (4, .ref a3), (3, .ref a2), (2, .ref a1), (1, .ref (u.1 0)), (0, .ref b)]) S.1 S.2.1 dL_law_28 hl (by decide) rfl (fun ls hl => ?_)
  refine lv_bipush (v := nI 7) S.1 S.2.1 dL_law_30 (by decide) ?_
  refine n_newi (N := 7) S hK hP hD hS hA wd_7 (by decide +kernel) ⟨Nat.le_of_ble_eq_true rfl, Nat.le_of_ble_eq_true rfl⟩ dL_law_32 (fun a5 H hP hD hS => ?_)
  refine lv_astore (lv' := [(6, .ref a5), (5, .ref a4), (4, .ref a3), (3, .ref a2), (2, .ref a1), (1, .ref (u.1 0)), (0, .ref b)]) S.1 S.2.1 dL_law_34 hl (by decide) rfl (fun ls hl => ?_)
  refine lv_bipush (v := nI 7) S.1 S.2.1 dL_law_36 (by decide) ?_
  refine n_newi (N := 7) S hK hP hD hS hA wd_7 (by decide +kernel) ⟨Nat.le_of_ble_eq_true rfl, Nat.le_of_ble_eq_true rfl⟩ dL_law_38 (fun a6 H hP hD hS => ?_)
  refine lv_astore (lv' := [(7, .ref a6), (6, .ref a5), (5, .ref a4), (4, .ref a3), (3, .ref a2), (2, .ref a1), (1, .ref (u.1 0)), (0, .ref b)]) S.1 S.2.1 dL_law_40 hl (by decide) rfl (fun ls hl => ?_)
  refine lv_iconst (v := nI 3) S.1 S.2.1 dL_law_42 (by decide) ?_
  refine n_newi (N := 3) S hK hP hD hS hA wd_7 (by decide +kernel) ⟨Nat.le_of_ble_eq_true rfl, Nat.le_of_ble_eq_true rfl⟩ dL_law_43 (fun a7 H hP hD hS => ?_)
  refine lv_astore (lv' := [(8, .ref a7), (7, .ref a6), (6, .ref a5), (5, .ref a4), (4, .ref a3), (3, .ref a2), (2, .ref a1), (1, .ref (u.1 0)), (0, .ref b)]) S.1 S.2.1 dL_law_45 hl (by decide) rfl (fun ls hl => ?_)
  have hP : va_P D vwCl ((cX cT u.1 u.2.1 u.2.2 0 0 0 25088 5 (fun _ => 0) (fun _ => 0) (fun _ => 0) (fun _ => 0) (fun _ => 0)) ++ [(a1, .inl (cT.1, 64, .inl (fun _ => nI 0))), (a2, .inl (cT.1, 56, .inl (fun _ => nI 0))), (a3, .inl (cT.1, 56, .inl (fun _ => nI 0))), (a4, .inl (cT.1, 45, .inl (fun _ => nI 0))), (a5, .inl (cT.1, 7, .inl (fun _ => nI 0))), (a6, .inl (cT.1, 7, .inl (fun _ => nI 0))), (a7, .inl (cT.1, 3, .inl (fun _ => nI 0)))]) H := hP
  have hD : va_D (AL s) ((cX cT u.1 u.2.1 u.2.2 0 0 0 25088 5 (fun _ => 0) (fun _ => 0) (fun _ => 0) (fun _ => 0) (fun _ => 0)) ++ [(a1, .inl (cT.1, 64, .inl (fun _ => nI 0))), (a2, .inl (cT.1, 56, .inl (fun _ => nI 0))), (a3, .inl (cT.1, 56, .inl (fun _ => nI 0))), (a4, .inl (cT.1, 45, .inl (fun _ => nI 0))), (a5, .inl (cT.1, 7, .inl (fun _ => nI 0))), (a6, .inl (cT.1, 7, .inl (fun _ => nI 0))), (a7, .inl (cT.1, 3, .inl (fun _ => nI 0)))]) := hD
  have hP := fr_Pc hP
  have hD := fr_Dc hD
  refine lv_aload S.1 S.2.1 dL_law_47 (lv_at hl 3 rfl) ?_
  refine lv_bipush (v := nI 37) S.1 S.2.1 dL_law_49 (by decide) ?_
  refine lv_iconst (v := nI 1) S.1 S.2.1 dL_law_51 (by decide) ?_
  refine w_iast (g := fun _ => 0) S 3 hK hP hD hS rfl (by decide) dL_law_52 (fun H locs hP hD hS => ?_)
  have hP : va_P D vwCl ([(a1, .inl (cT.1, 64, .inl (fun _ => nI 0))), (a2, .inl (cT.1, 56, .inl (fun _ => nI 0))), (a3, .inl (cT.1, 56, .inl (fun _ => nI 0))), (a4, .inl (cT.1, 45, .inl (fun k => nI ((va_up (fun _ => 0) 37 1) k)))), (a5, .inl (cT.1, 7, .inl (fun _ => nI 0))), (a6, .inl (cT.1, 7, .inl (fun _ => nI 0))), (a7, .inl (cT.1, 3, .inl (fun _ => nI 0)))] ++ (cX cT u.1 u.2.1 u.2.2 0 0 0 25088 5 (fun _ => 0) (fun _ => 0) (fun _ => 0) (fun _ => 0) (fun _ => 0))) H := hP
  have hD : va_D (AL s) ([(a1, .inl (cT.1, 64, .inl (fun _ => nI 0))), (a2, .inl (cT.1, 56, .inl (fun _ => nI 0))), (a3, .inl (cT.1, 56, .inl (fun _ => nI 0))), (a4, .inl (cT.1, 45, .inl (fun k => nI ((va_up (fun _ => 0) 37 1) k)))), (a5, .inl (cT.1, 7, .inl (fun _ => nI 0))), (a6, .inl (cT.1, 7, .inl (fun _ => nI 0))), (a7, .inl (cT.1, 3, .inl (fun _ => nI 0)))] ++ (cX cT u.1 u.2.1 u.2.2 0 0 0 25088 5 (fun _ => 0) (fun _ => 0) (fun _ => 0) (fun _ => 0) (fun _ => 0))) := hD
  refine lv_aload S.1 S.2.1 dL_law_53 (lv_at hl 3 rfl) ?_
  refine lv_bipush (v := nI 41) S.1 S.2.1 dL_law_55 (by decide) ?_
  refine lv_iconst (v := nI 1) S.1 S.2.1 dL_law_57 (by decide) ?_
  refine w_iast (g := va_up (fun _ => 0) 37 1) S 3 hK hP hD hS rfl (by decide) dL_law_58 (fun H locs hP hD hS => ?_)
  have hP : va_P D vwCl ([(a1, .inl (cT.1, 64, .inl (fun _ => nI 0))), (a2, .inl (cT.1, 56, .inl (fun _ => nI 0))), (a3, .inl (cT.1, 56, .inl (fun _ => nI 0))), (a4, .inl (cT.1, 45, .inl (fun k => nI ((va_up (va_up (fun _ => 0) 37 1) 41 1) k)))), (a5, .inl (cT.1, 7, .inl (fun _ => nI 0))), (a6, .inl (cT.1, 7, .inl (fun _ => nI 0))), (a7, .inl (cT.1, 3, .inl (fun _ => nI 0)))] ++ (cX cT u.1 u.2.1 u.2.2 0 0 0 25088 5 (fun _ => 0) (fun _ => 0) (fun _ => 0) (fun _ => 0) (fun _ => 0))) H := hP
  have hD : va_D (AL s) ([(a1, .inl (cT.1, 64, .inl (fun _ => nI 0))), (a2, .inl (cT.1, 56, .inl (fun _ => nI 0))), (a3, .inl (cT.1, 56, .inl (fun _ => nI 0))), (a4, .inl (cT.1, 45, .inl (fun k => nI ((va_up (va_up (fun _ => 0) 37 1) 41 1) k)))), (a5, .inl (cT.1, 7, .inl (fun _ => nI 0))), (a6, .inl (cT.1, 7, .inl (fun _ => nI 0))), (a7, .inl (cT.1, 3, .inl (fun _ => nI 0)))] ++ (cX cT u.1 u.2.1 u.2.2 0 0 0 25088 5 (fun _ => 0) (fun _ => 0) (fun _ => 0) (fun _ => 0) (fun _ => 0))) := hD
  refine lv_aload S.1 S.2.1 dL_law_59 (lv_at hl 3 rfl) ?_
  refine lv_bipush (v := nI 42) S.1 S.2.1 dL_law_61 (by decide) ?_
  refine lv_iconst (v := nI 1) S.1 S.2.1 dL_law_63 (by decide) ?_
  refine w_iast (g := va_up (va_up (fun _ => 0) 37 1) 41 1) S 3 hK hP hD hS rfl (by decide) dL_law_64 (fun H locs hP hD hS => ?_)
  have hP : va_P D vwCl ([(a1, .inl (cT.1, 64, .inl (fun _ => nI 0))), (a2, .inl (cT.1, 56, .inl (fun _ => nI 0))), (a3, .inl (cT.1, 56, .inl (fun _ => nI 0))), (a4, .inl (cT.1, 45, .inl (fun k => nI ((va_up (va_up (va_up (fun _ => 0) 37 1) 41 1) 42 1) k)))), (a5, .inl (cT.1, 7, .inl (fun _ => nI 0))), (a6, .inl (cT.1, 7, .inl (fun _ => nI 0))), (a7, .inl (cT.1, 3, .inl (fun _ => nI 0)))] ++ (cX cT u.1 u.2.1 u.2.2 0 0 0 25088 5 (fun _ => 0) (fun _ => 0) (fun _ => 0) (fun _ => 0) (fun _ => 0))) H := hP
  have hD : va_D (AL s) ([(a1, .inl (cT.1, 64, .inl (fun _ => nI 0))), (a2, .inl (cT.1, 56, .inl (fun _ => nI 0))), (a3, .inl (cT.1, 56, .inl (fun _ => nI 0))), (a4, .inl (cT.1, 45, .inl (fun k => nI ((va_up (va_up (va_up (fun _ => 0) 37 1) 41 1) 42 1) k)))), (a5, .inl (cT.1, 7, .inl (fun _ => nI 0))), (a6, .inl (cT.1, 7, .inl (fun _ => nI 0))), (a7, .inl (cT.1, 3, .inl (fun _ => nI 0)))] ++ (cX cT u.1 u.2.1 u.2.2 0 0 0 25088 5 (fun _ => 0) (fun _ => 0) (fun _ => 0) (fun _ => 0) (fun _ => 0))) := hD
  refine lv_aload S.1 S.2.1 dL_law_65 (lv_at hl 3 rfl) ?_
  refine lv_bipush (v := nI 44) S.1 S.2.1 dL_law_67 (by decide) ?_
  refine lv_iconst (v := nI 5) S.1 S.2.1 dL_law_69 (by decide) ?_
  refine w_iast (g := va_up (va_up (va_up (fun _ => 0) 37 1) 41 1) 42 1) S 3 hK hP hD hS rfl (by decide) dL_law_70 (fun H locs hP hD hS => ?_)
  have hP : va_P D vwCl ([(a1, .inl (cT.1, 64, .inl (fun _ => nI 0))), (a2, .inl (cT.1, 56, .inl (fun _ => nI 0))), (a3, .inl (cT.1, 56, .inl (fun _ => nI 0))), (a4, .inl (cT.1, 45, .inl (fun k => nI ((va_up (va_up (va_up (va_up (fun _ => 0) 37 1) 41 1) 42 1) 44 5) k)))), (a5, .inl (cT.1, 7, .inl (fun _ => nI 0))), (a6, .inl (cT.1, 7, .inl (fun _ => nI 0))), (a7, .inl (cT.1, 3, .inl (fun _ => nI 0)))] ++ (cX cT u.1 u.2.1 u.2.2 0 0 0 25088 5 (fun _ => 0) (fun _ => 0) (fun _ => 0) (fun _ => 0) (fun _ => 0))) H := hP
  have hD : va_D (AL s) ([(a1, .inl (cT.1, 64, .inl (fun _ => nI 0))), (a2, .inl (cT.1, 56, .inl (fun _ => nI 0))), (a3, .inl (cT.1, 56, .inl (fun _ => nI 0))), (a4, .inl (cT.1, 45, .inl (fun k => nI ((va_up (va_up (va_up (va_up (fun _ => 0) 37 1) 41 1) 42 1) 44 5) k)))), (a5, .inl (cT.1, 7, .inl (fun _ => nI 0))), (a6, .inl (cT.1, 7, .inl (fun _ => nI 0))), (a7, .inl (cT.1, 3, .inl (fun _ => nI 0)))] ++ (cX cT u.1 u.2.1 u.2.2 0 0 0 25088 5 (fun _ => 0) (fun _ => 0) (fun _ => 0) (fun _ => 0) (fun _ => 0))) := hD
  refine lv_iconst (v := nI 0) S.1 S.2.1 dL_law_71 (by decide) ?_
  refine lv_istore (lv' := [(9, .int (nI 0)), (8, .ref a7), (7, .ref a6), (6, .ref a5), (5, .ref a4), (4, .ref a3), (3, .ref a2), (2, .ref a1), (1, .ref (u.1 0)), (0, .ref b)]) S.1 S.2.1 dL_law_72 hl (by decide) rfl (fun ls hl => ?_)
  have lp : ∀ (fu : Nat) (k : Nat) (F : Nat → Int32) (H : Heap) (locs : List Loc), k ≤ 56 → (∀ j, j < k → F j = nI 0 - nI 1) → 56 - k < fu → va_P D vwCl ([(a1, .inl (cT.1, 64, .inl (fun _ => nI 0))), (a2, .inl (cT.1, 56, .inl (fun _ => nI 0))), (a3, .inl (cT.1, 56, .inl (F))), (a4, .inl (cT.1, 45, .inl (fun k => nI ((va_up (va_up (va_up (va_up (fun _ => 0) 37 1) 41 1) 42 1) 44 5) k)))), (a5, .inl (cT.1, 7, .inl (fun _ => nI 0))), (a6, .inl (cT.1, 7, .inl (fun _ => nI 0))), (a7, .inl (cT.1, 3, .inl (fun _ => nI 0)))] ++ (cX cT u.1 u.2.1 u.2.2 0 0 0 25088 5 (fun _ => 0) (fun _ => 0) (fun _ => 0) (fun _ => 0) (fun _ => 0))) H → va_D (AL s) ([(a1, .inl (cT.1, 64, .inl (fun _ => nI 0))), (a2, .inl (cT.1, 56, .inl (fun _ => nI 0))), (a3, .inl (cT.1, 56, .inl (F))), (a4, .inl (cT.1, 45, .inl (fun k => nI ((va_up (va_up (va_up (va_up (fun _ => 0) 37 1) 41 1) 42 1) 44 5) k)))), (a5, .inl (cT.1, 7, .inl (fun _ => nI 0))), (a6, .inl (cT.1, 7, .inl (fun _ => nI 0))), (a7, .inl (cT.1, 3, .inl (fun _ => nI 0)))] ++ (cX cT u.1 u.2.1 u.2.2 0 0 0 25088 5 (fun _ => 0) (fun _ => 0) (fun _ => 0) (fun _ => 0) (fun _ => 0))) → va_S (AL s) s.heap H locs → ∀ ls : Array Slot, lv_has ls 19 [(0, .ref b), (1, .ref (u.1 0)), (2, .ref a1), (3, .ref a2), (4, .ref a3), (5, .ref a4), (6, .ref a5), (7, .ref a6), (8, .ref a7), (9, .int (nI k))] → W p l e room_1 s m #[Value.ref b] below meth c H locs 18 1277 (lw_Z below #[Value.ref b] s) (F0 m 74 ls []) := by
    intro fu
    induction fu with
    | zero => intro k F H locs h2 hF hm; exact absurd hm (Nat.not_lt_zero _)
    | succ fu ih =>
      intro k F H locs h2 hF hm hP hD hS ls hl
      refine lv_iload S.1 S.2.1 dL_law_74 (lv_at hl 9 rfl) ?_
      refine lv_bipush (v := nI 56) S.1 S.2.1 dL_law_76 (by decide) ?_
      refine n_cge S (tgt := 93) (by omega) dL_law_78 (by decide) (fun c78 => ?_) (fun c78 => ?_)
      · have ek : k = 56 := by omega
        subst ek
        have hP := ia_P (k0 := 2) (g := fun k => nI (fxf (fun _ => 0) k) - nI 1) rfl (fun j hj => (hF j hj).trans (by show nI 0 - nI 1 = nI (nib 0 _) - nI 1; rw [nib_z])) hP
        have hD := ia_D (k0 := 2) (g := fun k => nI (fxf (fun _ => 0) k) - nI 1) rfl hD
        have e1 : (fun k => nI (hfn (fun _ => 0) (fun _ => 0) (fun _ => 0) (fun _ => 0) (fun _ => 0) (fun _ => 0) k)) = (fun _ => nI 0) := funext fun k => congrArg nI (hf_z k)
        have e2 : (fun k => nI (enf (fun _ => 0) k)) = (fun _ => nI 0) := funext fun k => congrArg nI (ent_0 _)
        have e3 : (fun k => nI (nfn 25088 5 (fun _ => 0) k)) = (fun k => nI ((va_up (va_up (va_up (va_up (fun _ => 0) 37 1) 41 1) 42 1) 44 5) k)) := funext fun k => congrArg nI (nf_z k).symm
        have e4 : (fun k => nI (qfn 0 0 0 k)) = (fun _ => nI 0) := funext fun k => congrArg nI (qf_z k)
        have hP : va_P D vwCl ([(a1, .inl (cT.1, 64, .inl (fun k => nI (hfn (fun _ => 0) (fun _ => 0) (fun _ => 0) (fun _ => 0) (fun _ => 0) (fun _ => 0) k)))), (a2, .inl (cT.1, 56, .inl (fun k => nI (enf (fun _ => 0) k)))), (a3, .inl (cT.1, 56, .inl (fun k => nI (fxf (fun _ => 0) k) - nI 1))), (a4, .inl (cT.1, 45, .inl (fun k => nI (nfn 25088 5 (fun _ => 0) k)))), (a5, .inl (cT.1, 7, .inl (fun _ => nI 0))), (a6, .inl (cT.1, 7, .inl (fun _ => nI 0))), (a7, .inl (cT.1, 3, .inl (fun k => nI (qfn 0 0 0 k))))] ++ (cX cT u.1 u.2.1 u.2.2 0 0 0 25088 5 (fun _ => 0) (fun _ => 0) (fun _ => 0) (fun _ => 0) (fun _ => 0))) H := by rw [e1, e2, e3, e4]; exact hP
        have hD : va_D (AL s) ([(a1, .inl (cT.1, 64, .inl (fun k => nI (hfn (fun _ => 0) (fun _ => 0) (fun _ => 0) (fun _ => 0) (fun _ => 0) (fun _ => 0) k)))), (a2, .inl (cT.1, 56, .inl (fun k => nI (enf (fun _ => 0) k)))), (a3, .inl (cT.1, 56, .inl (fun k => nI (fxf (fun _ => 0) k) - nI 1))), (a4, .inl (cT.1, 45, .inl (fun k => nI (nfn 25088 5 (fun _ => 0) k)))), (a5, .inl (cT.1, 7, .inl (fun _ => nI 0))), (a6, .inl (cT.1, 7, .inl (fun _ => nI 0))), (a7, .inl (cT.1, 3, .inl (fun k => nI (qfn 0 0 0 k))))] ++ (cX cT u.1 u.2.1 u.2.2 0 0 0 25088 5 (fun _ => 0) (fun _ => 0) (fun _ => 0) (fun _ => 0) (fun _ => 0))) := by rw [e1, e2, e3, e4]; exact hD
        refine lv_iconst (v := nI 0) S.1 S.2.1 dL_law_93 (by decide) ?_
        refine lv_istore (lv' := [(9, .int (nI 0)), (0, .ref b), (1, .ref (u.1 0)), (2, .ref a1), (3, .ref a2), (4, .ref a3), (5, .ref a4), (6, .ref a5), (7, .ref a6), (8, .ref a7)]) S.1 S.2.1 dL_law_94 hl (by decide) rfl (fun ls hl => ?_)
        refine W.widen (k := 18 + 0) (n := 1277 + 8 * 0) (Nat.le_of_ble_eq_true rfl) (Nat.le_of_ble_eq_true rfl) ?_
        exact law_loop (z := (fun k => [a1, a2, a3, a4, a5, a6, a7].getD k 0)) (c := u.1) X hfl hr hlocks 81 0 (sg_mk 0 0 0 25088 5 u.2.1 u.2.2 (fun _ => 0) (fun _ => 0) (fun _ => 0) (fun _ => 0) (fun _ => 0) (fun _ => 0) (fun _ => 0) (fun _ => 0) (fun _ => 0) (fun _ => 0) (fun _ => 0) (fun _ => 0) (fun _ => 0) (fun _ => nI 0) (fun _ => nI 0)) H locs (by decide) (by decide) (ok_start _ _) hP hD hS ls (lv_sub hl [1, 2, 3, 4, 5, 6, 7, 8, 9, 0] rfl)
      · refine lv_aload S.1 S.2.1 dL_law_81 (lv_at hl 4 rfl) ?_
        refine lv_iload S.1 S.2.1 dL_law_83 (lv_at hl 9 rfl) ?_
        refine lv_iconst (v := (-1)) S.1 S.2.1 dL_law_85 (by decide) ?_
        refine n_top (show (-1 : Int32) = nI 0 - nI 1 from by decide) ?_
        refine w_iastR (g := F) S 2 hK hP hD hS rfl (by omega) dL_law_86 (fun H locs hP hD hS => ?_)
        refine lv_iinc (v := nI (k + 1)) (lv' := [(9, .int (nI (k + 1))), (0, .ref b), (1, .ref (u.1 0)), (2, .ref a1), (3, .ref a2), (4, .ref a3), (5, .ref a4), (6, .ref a5), (7, .ref a6), (8, .ref a7)]) S.1 S.2.1 dL_law_87 hl (k := 9) rfl (nI_1 _) (by decide) rfl (fun ls hl => ?_)
        refine lv_goto (tgt := 74) S.1 S.2.1 dL_law_90 (by decide) ?_
        exact ih (k + 1) (upd F k (nI 0 - nI 1)) H locs (by omega) (upd_mem hF) (by omega) hP hD hS ls (lv_sub hl [1, 2, 3, 4, 5, 6, 7, 8, 9, 0] rfl)
  exact lp _ 0 (fun _ => nI 0) H locs (Nat.zero_le _) (fun j hj => absurd hj (Nat.not_lt_zero j)) (Nat.lt_succ_self _) hP hD hS ls (lv_sub hl [9, 8, 7, 6, 5, 4, 3, 2, 1, 0] rfl)
-- ===== YOUR PART ENDS =====
set_option maxHeartbeats 4000000 in
theorem lw_walk (l : Launch) (hflags : l.flags = flags0) (b : Addr) (xs : List Int32) : MetFree l x (headSpec (Jvm.Cond.code x code maxLocals ret :: tables_1) room_1) (lw_P b xs) (fun _ _ _ _ _ => True) lw_Q := by
  refine MetFree.of_bodyS (code := code) (maxLocals := maxLocals) (ret := ret) (by decide) ?_ ?_
  · intro args s m h hn
    obtain ⟨meth, c, h1, h2, h3, h4, h5, h6, -, -⟩ := Cond.code_spec hn (atoms_spec (ws := Jvm.Cond.code x code maxLocals ret :: tables_1) h _ List.mem_cons_self)
    exact ⟨meth, c, h1, h2, h3, h4, h5, h6⟩
  · intro p e s m args below meth c s₁ B hml0 hP _
    obtain ⟨rfl, hx, hbd, hgv⟩ := hP
    obtain ⟨scr, harrAt, hlist, hof, hsmall⟩ := hx
    obtain ⟨hcb, hkn, -, -⟩ := State.arrayAt?_spec harrAt
    have hown : s.vm.findClass R_law = some m.cls := findClass_of_methodNamed B.named
    have hts0 : ∀ c ∈ (Jvm.Cond.code x code maxLocals ret :: tables_1), c.before #[Value.ref b] s = true := atoms_spec (ws := Jvm.Cond.code x code maxLocals ret :: tables_1) B.pre
    have hts : ∀ w ∈ lw_tbl, w.before #[Value.ref b] s = true := k2_hts_sels lw_privs (fun w hw => hts0 w (List.mem_cons_of_mem _ hw)) lw_privs_ok
    have hml : c.maxLocals = 19 := B.maxLocals_eq (hts0 _ List.mem_cons_self)
    have X₀ : Stand p l e room_1 s m #[Value.ref b] below meth c s₁ [] 0 0 := Stand.of_body B
    have hh0 : s₁.heap = s.heap := by rw [B.state]; rfl
    have hsz : scr.slots.size = xs.length := by rw [← Array.length_toList, hlist, List.length_map]
    have hval : ∀ j : Nat, j < xs.length → scr.slots[j]? = some (.int (xs.getD j 0)) := fun j hj => by
      rw [← Array.getElem?_toList, hlist]
      simp [hj]
    have hbl : b < s.heap.size := (Array.getElem?_eq_some_iff.mp hcb).1
    have hX : va_X b xs.length (fun j => xs.getD j 0) s s.heap := ⟨scr, hcb, hof, hkn, hsz, hval⟩
    have K : W p l e room_1 s m #[Value.ref b] below meth c s₁.heap [] 0 0 (lw_Z below #[Value.ref b] s) (entryFrame m ([Value.ref b] : List Value).toArray 19) := by
      rw [hh0]
      exact whole_start l hflags hbd ⟨B.exec, B.bytes, B.returns, hml, hown, hts, hX, hbl, B.notSynchronized, hgv⟩
    obtain ⟨t, a1, o, b1, b2, b3⟩ := K s₁ rfl X₀
    exact ⟨t, o, a1, b1, b2, b3⟩
theorem lw_pre_spec {args : Array Value} {s : State} (h : (Jvm.Cond.and given_1 narrow_1).before args s = true) (hr : rest_1_c.before args s = true) : ∃ (b : Addr) (xs : List Int32), lw_P b xs args s := by
  have hs := flat_of_before _ h
  have hq := flat_of_before _ hr
  have hc : (Cond.count 1).before args s = true := hs _ (by decide +kernel)
  have harr : (Cond.arrayOf (.arg 0) .int).before args s = true := hs _ (by decide +kernel)
  have hle : (Cond.le (.length (.arg 0)) (.int 260)).before args s = true := hs _ (by decide +kernel)
  have hlen : (Cond.isInt (.length (.arg 0))).before args s = true := hq _ (by decide +kernel)
  have hall : (Cond.all (.arg 0) (.isInt (.elem (.arg 0) (.index 0)))).before args s = true := hq _ (by decide +kernel)
  obtain ⟨b, xs, hb, hx⟩ := State.ints_of_pre rfl harr hlen hall
  have hsm : xs.length < 2 ^ 31 := hx.choose_spec.2.2.2
  have hev : (Term.length (.arg 0)).eval args s none [] s = some (.int xs.length.toInt32) := hx.length_eval hb
  have hv := Cond.le_ints hev (show (Term.int 260).eval args s none [] s = some (.int 260) from rfl)
  have hd : xs.length.toInt32 ≤ 260 := by
    simpa [Cond.before, Cond.holds, hv] using hle
  have hN : xs.length ≤ 260 := (Int32.ofNat_le_ofNat hsm (by decide)).mp (show Int32.ofNat xs.length ≤ Int32.ofNat 260 from hd)
  exact ⟨b, xs, Cond.one_arg hc (show args[0]? = some (.ref b) from hb), hx, hN, h⟩
theorem lw_comes (l : Launch) (hflags : l.flags = flags0) : Comes l x (Jvm.Cond.code x code maxLocals ret :: tables_1) room_1 (fun tb e args s => Calls_1 tb e args s ∧ rest_1 tb e args s ∧ Pre_1 tb e args s)
    (fun _ _ args s o t => lw_Q args s o t) := by
  intro p e ha hc hk s m args below hf hfit hheap happ hpre
  obtain ⟨b, xs, hP⟩ := lw_pre_spec hpre.2.2 hpre.2.1
  obtain ⟨k, o, h1, h2, h3, hQ⟩ := lw_walk l hflags b xs p e ha hc hk s m args below hf ((Spec.applies_iff_loose hf).mp happ).1 hP trivial
  exact ⟨k, o, h1, h2, h3, hQ⟩
theorem lw_frame {s t : State} {o : Outcome} {args : Array Value} (h : Framed s o t [] 600130 7301080) :
    Framed s o t (fieldLocs frame_1_writes args s ++ arrayLocs frame_1_arrays args s ++ staticLocs frame_1_statics s) 600130 7301080 := h
theorem lw_limb (L : Cond) (hL : ∀ (args : Array Value) (s t : State), L.after args s (.returned (some (.int 1))) t = true) :
    ArmFor flags0 classFile x code maxLocals ret World_1 tables_1 room_1 Calls_1 rest_1 Pre_1
      (fun tb e a s o t => postC L tb e a s o t ∧ Framed s o t (fieldLocs frame_1_writes a s ++ arrayLocs frame_1_arrays a s ++ staticLocs frame_1_statics s) 600130 7301080) := by
  intro l hflags _ _ p e ha hc hk s m args below hf hfit hheap happ hpre
  obtain ⟨k, o, h1, h2, h3, rfl, hF⟩ := lw_comes l hflags p e ha hc hk s m args below hf hfit hheap happ hpre
  exact ⟨k, _, h1, h2, h3, hL args s _, lw_frame hF⟩
theorem i_vc : Claimed_1_1 ∧ Claimed_1_2 := ⟨lw_limb limb_1_1 (fun args s t => by simp [limb_1_1, Cond.after, Cond.holds, Cond.value]), lw_limb limb_1_2 (fun args s t => Cond.after_iff.mpr (by
  first | (rw [show limb_1_2 = Cond.eq .result (.int 1) from rfl, Cond.eq_ints (x := 1) (y := 1) rfl rfl]; simp; done) | (simp [limb_1_2, Cond.value, Term.eval]; done)))⟩
