/-! the desk's public calls with wrong arguments: what they throw; the desk and all else stay as they were -/
theorem sk_odd : ∀ v, v < 15 → v % 2 = 1 → ¬ nI v &&& (-15) = 0 := by decide +kernel
theorem sk_bad {x : Int32} (h1 : ¬ x ≤ 0) (hx : x < nI 2 ∨ nI 14 < x) : ¬ x &&& (-15) = 0 := by
  intro h
  have e : x = x &&& 14 := by
    apply sx_inj
    apply BitVec.eq_of_toNat_eq
    have h2 : x.toBitVec &&& ~~~(14#32) = 0#32 := congrArg Int32.toBitVec h
    have h3 : x.toBitVec = (x.toBitVec &&& ~~~(14#32)) ||| (x.toBitVec &&& 14#32) := by
      apply BitVec.eq_of_getLsbD_eq
      intro i hi
      simp only [BitVec.getLsbD_or, BitVec.getLsbD_and, BitVec.getLsbD_not, hi, decide_true, Bool.true_and]
      cases x.toBitVec.getLsbD i <;> cases (14#32).getLsbD i <;> rfl
    rw [h2, BitVec.zero_or] at h3
    exact congrArg BitVec.toNat h3
  have hle : x.toBitVec.toNat ≤ 14 := by
    rw [e]
    show (x.toBitVec &&& 14#32).toNat ≤ 14
    rw [BitVec.toNat_and]
    exact Nat.and_le_right
  have ex : x = nI x.toBitVec.toNat := by
    apply sx_inj
    show x.toBitVec = BitVec.ofNat 32 x.toBitVec.toNat
    rw [BitVec.ofNat_toNat, BitVec.setWidth_eq]
  generalize x.toBitVec.toNat = k at hle ex
  subst ex
  have all : ∀ k, k < 15 → ¬ nI k ≤ 0 → (nI k < nI 2 ∨ nI 14 < nI k) → ¬ (nI k &&& (-15) = 0) := by decide +kernel
  exact all k (by omega) h1 hx h
theorem fx_bad {x : Int32} (hx : x < -1 ∨ nI 3 < x) (h : ¬ x = -1) : x < nI 0 ∨ nI 3 < x := hx.imp (fun q => Int32.lt_trans q (by decide)) id

theorem thw_X8_setNeed_82 : ∀ w ∈ (vx_atS RX8 82 "java/lang/IndexOutOfBoundsException" vnm).filter goodWord, w ∈ wsX8_setNeed := by decide +kernel
theorem w_X8_setNeed_1 : Cond.classLink RX8 78 "java/lang/IndexOutOfBoundsException" ∈ wsX8_setNeed := by decide +kernel
theorem w_X8_setNeed_2 : Cond.initialized "java/lang/IndexOutOfBoundsException" ∈ wsX8_setNeed := by decide +kernel
set_option maxHeartbeats 4000000 in
set_option maxRecDepth 100000 in
theorem t_X8_setNeed_x0 (l : Launch) (D : va_G) (cT : ClassId × ClassId × ClassId) (sz : Nat) (c pa : Nat → Nat) (bd a6 a7 n ro cl fb rn : Nat) (nd sk mo wk fx wi la da we : Nat → Nat) (V V2 PR : Nat → Int64) (x : Int32) (ze : Int32) (zv : Int32) (hwf : wfC n bd fb rn nd sk mo wk fx wi la da we) (hx : PX x 7) (hflag : l.stackTraces = false) : vx_Met l yX8_setNeed wsX8_setNeed ({ frames := 6, cells := 1, slots := 6, locals := 160 } : Room) (va_Pc [.ref (c 0), .int x, .int ze, .int zv] (tr_R D (TY cT) (cX cT c a6 a7 n ro cl fb rn nd V V2 PR pa ++ pool n pa (per sk mo wk fx wi la da we)) sz)) (tr_Q sz) (tr_X "java/lang/IndexOutOfBoundsException" sz) 1 6 (fun q => sz ≤ q) := by
  refine tr_start (cc := cX8_setNeed) (maxL := 5) (ret := (some .int)) RX8 ⟨by decide +kernel, rfl⟩ rfl (Nat.le_of_ble_eq_true rfl) ?_
  intro p0 e0 s0 m0 a0 b0 t0 c0 S hr hlocks htab hsz hP hK hXS ls hl
  have hl : lv_has ls 5 [(0, .ref (c 0)), (1, .int x), (2, .int ze), (3, .int zv)] := hl
  obtain ⟨hn, hcl, hfb, hrn, hnd, hper⟩ := id hwf
  refine lv_iload_n S.1 S.2.1 dX8_setNeed_0 rfl (lv_at hl 1 rfl) ?_
  refine rd_callS (rest := []) S (r_X8_isDay_x l D cT x (hx)) gX8_setNeed_X8_isDay rfl pd_X8_isDay ⟨rfl, rfl, Nat.le_of_ble_eq_true rfl, Nat.le_of_ble_eq_true rfl⟩ (sx_P0 D _) hK hl rfl rfl (Nat.le_of_ble_eq_true rfl) ⟨Nat.zero_le _, Nat.zero_le _⟩ dX8_setNeed_1 ?_
  refine n_beq S (tgt := 14) dX8_setNeed_4 (by decide) (fun _ => ?_) (fun q => absurd q (by decide))
  exact t_throw (text := "no such day or kind") S hflag trE_3 hsz hK hXS (by decide +kernel) ⟨w_X8_setNeed_1, w_X8_setNeed_2⟩ thw_X8_setNeed_82 hl.1 dX8_setNeed_14 dX8_setNeed_17 dX8_setNeed_18 dX8_setNeed_20 dX8_setNeed_23 htab (by decide) hlocks

set_option maxHeartbeats 4000000 in
set_option maxRecDepth 100000 in
theorem t_X8_setNeed_x1 (l : Launch) (D : va_G) (cT : ClassId × ClassId × ClassId) (sz : Nat) (c pa : Nat → Nat) (bd a6 a7 n ro cl fb rn : Nat) (nd sk mo wk fx wi la da we : Nat → Nat) (V V2 PR : Nat → Int64) (d : Nat) (x : Int32) (zv : Int32) (hwf : wfC n bd fb rn nd sk mo wk fx wi la da we) (hd : d < 7) (hx : x < nI 1 ∨ nI 3 < x) (hflag : l.stackTraces = false) : vx_Met l yX8_setNeed wsX8_setNeed ({ frames := 6, cells := 1, slots := 6, locals := 160 } : Room) (va_Pc [.ref (c 0), .int (nI d), .int x, .int zv] (tr_R D (TY cT) (cX cT c a6 a7 n ro cl fb rn nd V V2 PR pa ++ pool n pa (per sk mo wk fx wi la da we)) sz)) (tr_Q sz) (tr_X "java/lang/IndexOutOfBoundsException" sz) 1 6 (fun q => sz ≤ q) := by
  refine tr_start (cc := cX8_setNeed) (maxL := 5) (ret := (some .int)) RX8 ⟨by decide +kernel, rfl⟩ rfl (Nat.le_of_ble_eq_true rfl) ?_
  intro p0 e0 s0 m0 a0 b0 t0 c0 S hr hlocks htab hsz hP hK hXS ls hl
  have hl : lv_has ls 5 [(0, .ref (c 0)), (1, .int (nI d)), (2, .int x), (3, .int zv)] := hl
  obtain ⟨hn, hcl, hfb, hrn, hnd, hper⟩ := id hwf
  refine lv_iload_n S.1 S.2.1 dX8_setNeed_0 rfl (lv_at hl 1 rfl) ?_
  refine rd_callS (rest := []) S (r_X8_isDay l D cT d (by omega)) gX8_setNeed_X8_isDay rfl pd_X8_isDay ⟨rfl, rfl, Nat.le_of_ble_eq_true rfl, Nat.le_of_ble_eq_true rfl⟩ (sx_P0 D _) hK hl rfl rfl (Nat.le_of_ble_eq_true rfl) ⟨Nat.zero_le _, Nat.zero_le _⟩ dX8_setNeed_1 ?_
  refine n_beq S (tgt := 14) dX8_setNeed_4 (by decide) (fun q => absurd q (by decide)) (fun _ => ?_)
  refine lv_iload_n S.1 S.2.1 dX8_setNeed_7 rfl (lv_at hl 2 rfl) ?_
  refine rd_callS (rest := []) S (r_X8_isKind_x l D cT x (hx)) gX8_setNeed_X8_isKind rfl pd_X8_isKind ⟨rfl, rfl, Nat.le_of_ble_eq_true rfl, Nat.le_of_ble_eq_true rfl⟩ (sx_P0 D _) hK hl rfl rfl (Nat.le_of_ble_eq_true rfl) ⟨Nat.zero_le _, Nat.zero_le _⟩ dX8_setNeed_8 ?_
  refine n_bne S (tgt := 24) dX8_setNeed_11 (by decide) (fun q => absurd q (by decide)) (fun _ => ?_)
  exact t_throw (text := "no such day or kind") S hflag trE_3 hsz hK hXS (by decide +kernel) ⟨w_X8_setNeed_1, w_X8_setNeed_2⟩ thw_X8_setNeed_82 hl.1 dX8_setNeed_14 dX8_setNeed_17 dX8_setNeed_18 dX8_setNeed_20 dX8_setNeed_23 htab (by decide) hlocks

theorem thw_X8_setNeed_54 : ∀ w ∈ (vx_atS RX8 54 "java/lang/IllegalArgumentException" vnm).filter goodWord, w ∈ wsX8_setNeed := by decide +kernel
theorem w_X8_setNeed_3 : Cond.classLink RX8 50 "java/lang/IllegalArgumentException" ∈ wsX8_setNeed := by decide +kernel
theorem w_X8_setNeed_4 : Cond.initialized "java/lang/IllegalArgumentException" ∈ wsX8_setNeed := by decide +kernel
set_option maxHeartbeats 4000000 in
set_option maxRecDepth 100000 in
theorem t_X8_setNeed_x2 (l : Launch) (D : va_G) (cT : ClassId × ClassId × ClassId) (sz : Nat) (c pa : Nat → Nat) (bd a6 a7 n ro cl fb rn : Nat) (nd sk mo wk fx wi la da we : Nat → Nat) (V V2 PR : Nat → Int64) (d : Nat) (e : Nat) (x : Int32) (hwf : wfC n bd fb rn nd sk mo wk fx wi la da we) (hd : d < 7) (he : 1 ≤ e ∧ e < 4) (hx : x < nI 0 ∨ nI 5 < x) (hflag : l.stackTraces = false) : vx_Met l yX8_setNeed wsX8_setNeed ({ frames := 6, cells := 1, slots := 6, locals := 160 } : Room) (va_Pc [.ref (c 0), .int (nI d), .int (nI e), .int x] (tr_R D (TY cT) (cX cT c a6 a7 n ro cl fb rn nd V V2 PR pa ++ pool n pa (per sk mo wk fx wi la da we)) sz)) (tr_Q sz) (tr_X "java/lang/IllegalArgumentException" sz) 1 6 (fun q => sz ≤ q) := by
  refine tr_start (cc := cX8_setNeed) (maxL := 5) (ret := (some .int)) RX8 ⟨by decide +kernel, rfl⟩ rfl (Nat.le_of_ble_eq_true rfl) ?_
  intro p0 e0 s0 m0 a0 b0 t0 c0 S hr hlocks htab hsz hP hK hXS ls hl
  have hl : lv_has ls 5 [(0, .ref (c 0)), (1, .int (nI d)), (2, .int (nI e)), (3, .int x)] := hl
  obtain ⟨hn, hcl, hfb, hrn, hnd, hper⟩ := id hwf
  refine lv_iload_n S.1 S.2.1 dX8_setNeed_0 rfl (lv_at hl 1 rfl) ?_
  refine rd_callS (rest := []) S (r_X8_isDay l D cT d (by omega)) gX8_setNeed_X8_isDay rfl pd_X8_isDay ⟨rfl, rfl, Nat.le_of_ble_eq_true rfl, Nat.le_of_ble_eq_true rfl⟩ (sx_P0 D _) hK hl rfl rfl (Nat.le_of_ble_eq_true rfl) ⟨Nat.zero_le _, Nat.zero_le _⟩ dX8_setNeed_1 ?_
  refine n_beq S (tgt := 14) dX8_setNeed_4 (by decide) (fun q => absurd q (by decide)) (fun _ => ?_)
  refine lv_iload_n S.1 S.2.1 dX8_setNeed_7 rfl (lv_at hl 2 rfl) ?_
  refine rd_callS (rest := []) S (r_X8_isKind l D cT e (by omega)) gX8_setNeed_X8_isKind rfl pd_X8_isKind ⟨rfl, rfl, Nat.le_of_ble_eq_true rfl, Nat.le_of_ble_eq_true rfl⟩ (sx_P0 D _) hK hl rfl rfl (Nat.le_of_ble_eq_true rfl) ⟨Nat.zero_le _, Nat.zero_le _⟩ dX8_setNeed_8 ?_
  refine n_bne S (tgt := 24) dX8_setNeed_11 (by decide) (fun _ => ?_) (fun q => absurd q (by decide))
  refine lv_iload_n S.1 S.2.1 dX8_setNeed_24 rfl (lv_at hl 3 rfl) ?_
  refine lv_if_lt (tgt := 33) S.1 S.2.1 dX8_setNeed_25 (by decide) (fun c25 => ?_) (fun c25 => ?_)
  · exact t_throw (text := "people is out of range") S hflag trE_1 hsz hK hXS (by decide +kernel) ⟨w_X8_setNeed_3, w_X8_setNeed_4⟩ thw_X8_setNeed_54 hl.1 dX8_setNeed_33 dX8_setNeed_36 dX8_setNeed_37 dX8_setNeed_39 dX8_setNeed_42 htab (by decide) hlocks
  · refine lv_iload_n S.1 S.2.1 dX8_setNeed_28 rfl (lv_at hl 3 rfl) ?_
    refine lv_iconst (v := (nI 5)) S.1 S.2.1 dX8_setNeed_29 (by decide) ?_
    refine lv_icmp_le (tgt := 43) S.1 S.2.1 dX8_setNeed_30 (by decide) (fun c30 => ?_) (fun c30 => ?_)
    · exact (hx.elim (fun q => c25 q) (fun q => Int32.not_le.mpr q c30)).elim
    exact t_throw (text := "people is out of range") S hflag trE_1 hsz hK hXS (by decide +kernel) ⟨w_X8_setNeed_3, w_X8_setNeed_4⟩ thw_X8_setNeed_54 hl.1 dX8_setNeed_33 dX8_setNeed_36 dX8_setNeed_37 dX8_setNeed_39 dX8_setNeed_42 htab (by decide) hlocks

theorem thw_X8_forbid_82 : ∀ w ∈ (vx_atS RX8 82 "java/lang/IndexOutOfBoundsException" vnm).filter goodWord, w ∈ wsX8_forbid := by decide +kernel
theorem w_X8_forbid_1 : Cond.classLink RX8 78 "java/lang/IndexOutOfBoundsException" ∈ wsX8_forbid := by decide +kernel
theorem w_X8_forbid_2 : Cond.initialized "java/lang/IndexOutOfBoundsException" ∈ wsX8_forbid := by decide +kernel
set_option maxHeartbeats 4000000 in
set_option maxRecDepth 100000 in
theorem t_X8_forbid_x0 (l : Launch) (D : va_G) (cT : ClassId × ClassId × ClassId) (sz : Nat) (c pa : Nat → Nat) (bd a6 a7 n ro cl fb rn : Nat) (nd sk mo wk fx wi la da we : Nat → Nat) (V V2 PR : Nat → Int64) (x : Int32) (zf : Int32) (b : Bool) (hwf : wfC n bd fb rn nd sk mo wk fx wi la da we) (hx : x < nI 1 ∨ nI 3 < x) (hflag : l.stackTraces = false) : vx_Met l yX8_forbid wsX8_forbid ({ frames := 6, cells := 1, slots := 6, locals := 160 } : Room) (va_Pc [.ref (c 0), .int x, .int zf, .int (nI b.toNat)] (tr_R D (TY cT) (cX cT c a6 a7 n ro cl fb rn nd V V2 PR pa ++ pool n pa (per sk mo wk fx wi la da we)) sz)) (tr_Q sz) (tr_X "java/lang/IndexOutOfBoundsException" sz) 1 6 (fun q => sz ≤ q) := by
  refine tr_start (cc := cX8_forbid) (maxL := 4) (ret := (some .boolean)) RX8 ⟨by decide +kernel, rfl⟩ rfl (Nat.le_of_ble_eq_true rfl) ?_
  intro p0 e0 s0 m0 a0 b0 t0 c0 S hr hlocks htab hsz hP hK hXS ls hl
  have hl : lv_has ls 4 [(0, .ref (c 0)), (1, .int x), (2, .int zf), (3, .int (nI b.toNat))] := hl
  obtain ⟨hn, hcl, hfb, hrn, hnd, hper⟩ := id hwf
  refine lv_iload_n S.1 S.2.1 dX8_forbid_0 rfl (lv_at hl 1 rfl) ?_
  refine rd_callS (rest := []) S (r_X8_isKind_x l D cT x (hx)) gX8_forbid_X8_isKind rfl pd_X8_isKind ⟨rfl, rfl, Nat.le_of_ble_eq_true rfl, Nat.le_of_ble_eq_true rfl⟩ (sx_P0 D _) hK hl rfl rfl (Nat.le_of_ble_eq_true rfl) ⟨Nat.zero_le _, Nat.zero_le _⟩ dX8_forbid_1 ?_
  refine n_beq S (tgt := 14) dX8_forbid_4 (by decide) (fun _ => ?_) (fun q => absurd q (by decide))
  exact t_throw (text := "no such kind or next") S hflag trE_3 hsz hK hXS (by decide +kernel) ⟨w_X8_forbid_1, w_X8_forbid_2⟩ thw_X8_forbid_82 hl.1 dX8_forbid_14 dX8_forbid_17 dX8_forbid_18 dX8_forbid_20 dX8_forbid_23 htab (by decide) hlocks

set_option maxHeartbeats 4000000 in
set_option maxRecDepth 100000 in
theorem t_X8_forbid_x1 (l : Launch) (D : va_G) (cT : ClassId × ClassId × ClassId) (sz : Nat) (c pa : Nat → Nat) (bd a6 a7 n ro cl fb rn : Nat) (nd sk mo wk fx wi la da we : Nat → Nat) (V V2 PR : Nat → Int64) (e : Nat) (x : Int32) (b : Bool) (hwf : wfC n bd fb rn nd sk mo wk fx wi la da we) (he : 1 ≤ e ∧ e < 4) (hx : x < nI 1 ∨ nI 3 < x) (hflag : l.stackTraces = false) : vx_Met l yX8_forbid wsX8_forbid ({ frames := 6, cells := 1, slots := 6, locals := 160 } : Room) (va_Pc [.ref (c 0), .int (nI e), .int x, .int (nI b.toNat)] (tr_R D (TY cT) (cX cT c a6 a7 n ro cl fb rn nd V V2 PR pa ++ pool n pa (per sk mo wk fx wi la da we)) sz)) (tr_Q sz) (tr_X "java/lang/IndexOutOfBoundsException" sz) 1 6 (fun q => sz ≤ q) := by
  refine tr_start (cc := cX8_forbid) (maxL := 4) (ret := (some .boolean)) RX8 ⟨by decide +kernel, rfl⟩ rfl (Nat.le_of_ble_eq_true rfl) ?_
  intro p0 e0 s0 m0 a0 b0 t0 c0 S hr hlocks htab hsz hP hK hXS ls hl
  have hl : lv_has ls 4 [(0, .ref (c 0)), (1, .int (nI e)), (2, .int x), (3, .int (nI b.toNat))] := hl
  obtain ⟨hn, hcl, hfb, hrn, hnd, hper⟩ := id hwf
  refine lv_iload_n S.1 S.2.1 dX8_forbid_0 rfl (lv_at hl 1 rfl) ?_
  refine rd_callS (rest := []) S (r_X8_isKind l D cT e (by omega)) gX8_forbid_X8_isKind rfl pd_X8_isKind ⟨rfl, rfl, Nat.le_of_ble_eq_true rfl, Nat.le_of_ble_eq_true rfl⟩ (sx_P0 D _) hK hl rfl rfl (Nat.le_of_ble_eq_true rfl) ⟨Nat.zero_le _, Nat.zero_le _⟩ dX8_forbid_1 ?_
  refine n_beq S (tgt := 14) dX8_forbid_4 (by decide) (fun q => absurd q (by decide)) (fun _ => ?_)
  refine lv_iload_n S.1 S.2.1 dX8_forbid_7 rfl (lv_at hl 2 rfl) ?_
  refine rd_callS (rest := []) S (r_X8_isKind_x l D cT x (hx)) gX8_forbid_X8_isKind rfl pd_X8_isKind ⟨rfl, rfl, Nat.le_of_ble_eq_true rfl, Nat.le_of_ble_eq_true rfl⟩ (sx_P0 D _) hK hl rfl rfl (Nat.le_of_ble_eq_true rfl) ⟨Nat.zero_le _, Nat.zero_le _⟩ dX8_forbid_8 ?_
  refine n_bne S (tgt := 24) dX8_forbid_11 (by decide) (fun q => absurd q (by decide)) (fun _ => ?_)
  exact t_throw (text := "no such kind or next") S hflag trE_3 hsz hK hXS (by decide +kernel) ⟨w_X8_forbid_1, w_X8_forbid_2⟩ thw_X8_forbid_82 hl.1 dX8_forbid_14 dX8_forbid_17 dX8_forbid_18 dX8_forbid_20 dX8_forbid_23 htab (by decide) hlocks

theorem thw_X8_setRun_54 : ∀ w ∈ (vx_atS RX8 54 "java/lang/IllegalArgumentException" vnm).filter goodWord, w ∈ wsX8_setRun := by decide +kernel
theorem w_X8_setRun_1 : Cond.classLink RX8 50 "java/lang/IllegalArgumentException" ∈ wsX8_setRun := by decide +kernel
theorem w_X8_setRun_2 : Cond.initialized "java/lang/IllegalArgumentException" ∈ wsX8_setRun := by decide +kernel
set_option maxHeartbeats 4000000 in
set_option maxRecDepth 100000 in
theorem t_X8_setRun_x0 (l : Launch) (D : va_G) (cT : ClassId × ClassId × ClassId) (sz : Nat) (c pa : Nat → Nat) (bd a6 a7 n ro cl fb rn : Nat) (nd sk mo wk fx wi la da we : Nat → Nat) (V V2 PR : Nat → Int64) (x : Int32) (hwf : wfC n bd fb rn nd sk mo wk fx wi la da we) (hx : x < nI 1 ∨ nI 14 < x) (hflag : l.stackTraces = false) : vx_Met l yX8_setRun wsX8_setRun ({ frames := 6, cells := 1, slots := 6, locals := 160 } : Room) (va_Pc [.ref (c 0), .int x] (tr_R D (TY cT) (cX cT c a6 a7 n ro cl fb rn nd V V2 PR pa ++ pool n pa (per sk mo wk fx wi la da we)) sz)) (tr_Q sz) (tr_X "java/lang/IllegalArgumentException" sz) 1 6 (fun q => sz ≤ q) := by
  refine tr_start (cc := cX8_setRun) (maxL := 3) (ret := (some .int)) RX8 ⟨by decide +kernel, rfl⟩ rfl (Nat.le_of_ble_eq_true rfl) ?_
  intro p0 e0 s0 m0 a0 b0 t0 c0 S hr hlocks htab hsz hP hK hXS ls hl
  have hl : lv_has ls 3 [(0, .ref (c 0)), (1, .int x)] := hl
  obtain ⟨hn, hcl, hfb, hrn, hnd, hper⟩ := id hwf
  refine lv_iload_n S.1 S.2.1 dX8_setRun_0 rfl (lv_at hl 1 rfl) ?_
  refine lv_iconst (v := (nI 1)) S.1 S.2.1 dX8_setRun_1 (by decide) ?_
  refine lv_icmp_lt (tgt := 11) S.1 S.2.1 dX8_setRun_2 (by decide) (fun c2 => ?_) (fun c2 => ?_)
  · exact t_throw (text := "days is out of range") S hflag trE_1 hsz hK hXS (by decide +kernel) ⟨w_X8_setRun_1, w_X8_setRun_2⟩ thw_X8_setRun_54 hl.1 dX8_setRun_11 dX8_setRun_14 dX8_setRun_15 dX8_setRun_17 dX8_setRun_20 htab (by decide) hlocks
  · refine lv_iload_n S.1 S.2.1 dX8_setRun_5 rfl (lv_at hl 1 rfl) ?_
    refine lv_bipush (v := (nI 14)) S.1 S.2.1 dX8_setRun_6 (by decide) ?_
    refine lv_icmp_le (tgt := 21) S.1 S.2.1 dX8_setRun_8 (by decide) (fun c8 => ?_) (fun c8 => ?_)
    · exact (hx.elim (fun q => c2 q) (fun q => Int32.not_le.mpr q c8)).elim
    exact t_throw (text := "days is out of range") S hflag trE_1 hsz hK hXS (by decide +kernel) ⟨w_X8_setRun_1, w_X8_setRun_2⟩ thw_X8_setRun_54 hl.1 dX8_setRun_11 dX8_setRun_14 dX8_setRun_15 dX8_setRun_17 dX8_setRun_20 htab (by decide) hlocks

theorem thw_X8_wish_82 : ∀ w ∈ (vx_atS RX8 82 "java/lang/IndexOutOfBoundsException" vnm).filter goodWord, w ∈ wsX8_wish := by decide +kernel
theorem w_X8_wish_0 : Cond.classLink RX8 78 "java/lang/IndexOutOfBoundsException" ∈ wsX8_wish := by decide +kernel
theorem w_X8_wish_1 : Cond.initialized "java/lang/IndexOutOfBoundsException" ∈ wsX8_wish := by decide +kernel
set_option maxHeartbeats 4000000 in
set_option maxRecDepth 100000 in
theorem t_X8_wish_x0 (l : Launch) (D : va_G) (cT : ClassId × ClassId × ClassId) (sz : Nat) (c pa : Nat → Nat) (bd a6 a7 n ro cl fb rn : Nat) (nd sk mo wk fx wi la da we : Nat → Nat) (V V2 PR : Nat → Int64) (x : Int32) (zd : Int32) (b : Bool) (hwf : wfC n bd fb rn nd sk mo wk fx wi la da we) (hx : PX x n) (hflag : l.stackTraces = false) : vx_Met l yX8_wish wsX8_wish ({ frames := 6, cells := 1, slots := 6, locals := 160 } : Room) (va_Pc [.ref (c 0), .int x, .int zd, .int (nI b.toNat)] (tr_R D (TY cT) (cX cT c a6 a7 n ro cl fb rn nd V V2 PR pa ++ pool n pa (per sk mo wk fx wi la da we)) sz)) (tr_Q sz) (tr_X "java/lang/IndexOutOfBoundsException" sz) 1 6 (fun q => sz ≤ q) := by
  refine tr_start (cc := cX8_wish) (maxL := 5) (ret := (some .boolean)) RX8 ⟨by decide +kernel, rfl⟩ rfl (Nat.le_of_ble_eq_true rfl) ?_
  intro p0 e0 s0 m0 a0 b0 t0 c0 S hr hlocks htab hsz hP hK hXS ls hl
  have hl : lv_has ls 5 [(0, .ref (c 0)), (1, .int x), (2, .int zd), (3, .int (nI b.toNat))] := hl
  obtain ⟨hn, hcl, hfb, hrn, hnd, hper⟩ := id hwf
  refine lv_aload_n S.1 S.2.1 dX8_wish_0 rfl (lv_at hl 0 rfl) ?_
  refine lv_iload_n S.1 S.2.1 dX8_wish_1 rfl (lv_at hl 1 rfl) ?_
  refine rd_callVz (rest := []) S (r_X8_personAt_x l D cT c pa bd a6 a7 n ro cl fb rn nd sk mo wk fx wi la da we V V2 PR x (hwf) (hx)) gX8_wish_X8_personAt rfl pd_X8_personAt ⟨rfl, rfl, Nat.le_of_ble_eq_true rfl, Nat.le_of_ble_eq_true rfl⟩ hP hK (va_recv hK.1 hP (ci := 6) (q0 := 0) rfl rfl) hl rfl rfl (Nat.le_of_ble_eq_true rfl) ⟨Nat.zero_le _, Nat.zero_le _⟩ dX8_wish_2 ?_
  refine lv_astoreN (lv' := [(4, .null), (0, .ref (c 0)), (1, .int x), (2, .int zd), (3, .int (nI b.toNat))]) S.1 S.2.1 dX8_wish_5 hl (by decide) rfl (fun ls hl => ?_)
  refine lv_aloadN S.1 S.2.1 dX8_wish_7 (lv_at hl 0 rfl) ?_
  refine lv_ifnullN (tgt := 19) S.1 S.2.1 dX8_wish_9 (by decide) ?_
  exact t_throw (text := "no such person or day") S hflag trE_3 hsz hK hXS (by decide +kernel) ⟨w_X8_wish_0, w_X8_wish_1⟩ thw_X8_wish_82 hl.1 dX8_wish_19 dX8_wish_22 dX8_wish_23 dX8_wish_25 dX8_wish_28 htab (by decide) hlocks

set_option maxHeartbeats 4000000 in
set_option maxRecDepth 100000 in
theorem t_X8_wish_x1 (l : Launch) (D : va_G) (cT : ClassId × ClassId × ClassId) (sz : Nat) (c pa : Nat → Nat) (bd a6 a7 n ro cl fb rn : Nat) (nd sk mo wk fx wi la da we : Nat → Nat) (V V2 PR : Nat → Int64) (i : Nat) (x : Int32) (b : Bool) (hwf : wfC n bd fb rn nd sk mo wk fx wi la da we) (hi : i < n) (hx : PX x 7) (hflag : l.stackTraces = false) : vx_Met l yX8_wish wsX8_wish ({ frames := 6, cells := 1, slots := 6, locals := 160 } : Room) (va_Pc [.ref (c 0), .int (nI i), .int x, .int (nI b.toNat)] (tr_R D (TY cT) (cX cT c a6 a7 n ro cl fb rn nd V V2 PR pa ++ pool n pa (per sk mo wk fx wi la da we)) sz)) (tr_Q sz) (tr_X "java/lang/IndexOutOfBoundsException" sz) 1 6 (fun q => sz ≤ q) := by
  refine tr_start (cc := cX8_wish) (maxL := 5) (ret := (some .boolean)) RX8 ⟨by decide +kernel, rfl⟩ rfl (Nat.le_of_ble_eq_true rfl) ?_
  intro p0 e0 s0 m0 a0 b0 t0 c0 S hr hlocks htab hsz hP hK hXS ls hl
  have hl : lv_has ls 5 [(0, .ref (c 0)), (1, .int (nI i)), (2, .int x), (3, .int (nI b.toNat))] := hl
  obtain ⟨hn, hcl, hfb, hrn, hnd, hper⟩ := id hwf
  refine lv_aload_n S.1 S.2.1 dX8_wish_0 rfl (lv_at hl 0 rfl) ?_
  refine lv_iload_n S.1 S.2.1 dX8_wish_1 rfl (lv_at hl 1 rfl) ?_
  refine rd_callVr (rest := []) S (r_X8_personAt l D cT c pa bd a6 a7 n ro cl fb rn nd sk mo wk fx wi la da we V V2 PR i (hwf) (by omega)) gX8_wish_X8_personAt rfl pd_X8_personAt ⟨rfl, rfl, Nat.le_of_ble_eq_true rfl, Nat.le_of_ble_eq_true rfl⟩ hP hK (va_recv hK.1 hP (ci := 6) (q0 := 0) rfl rfl) hl rfl rfl (Nat.le_of_ble_eq_true rfl) ⟨Nat.zero_le _, Nat.zero_le _⟩ dX8_wish_2 ?_
  refine lv_astore (lv' := [(4, .ref (pa i)), (0, .ref (c 0)), (1, .int (nI i)), (2, .int x), (3, .int (nI b.toNat))]) S.1 S.2.1 dX8_wish_5 hl (by decide) rfl (fun ls hl => ?_)
  refine lv_aload S.1 S.2.1 dX8_wish_7 (lv_at hl 0 rfl) ?_
  refine lv_ifnull S.1 S.2.1 dX8_wish_9 ?_
  refine lv_iload_n S.1 S.2.1 dX8_wish_12 rfl (lv_at hl 3 rfl) ?_
  refine rd_callS (rest := []) S (r_X8_isDay_x l D cT x (hx)) gX8_wish_X8_isDay rfl pd_X8_isDay ⟨rfl, rfl, Nat.le_of_ble_eq_true rfl, Nat.le_of_ble_eq_true rfl⟩ (sx_P0 D _) hK hl rfl rfl (Nat.le_of_ble_eq_true rfl) ⟨Nat.zero_le _, Nat.zero_le _⟩ dX8_wish_13 ?_
  refine n_bne S (tgt := 29) dX8_wish_16 (by decide) (fun q => absurd q (by decide)) (fun _ => ?_)
  exact t_throw (text := "no such person or day") S hflag trE_3 hsz hK hXS (by decide +kernel) ⟨w_X8_wish_0, w_X8_wish_1⟩ thw_X8_wish_82 hl.1 dX8_wish_19 dX8_wish_22 dX8_wish_23 dX8_wish_25 dX8_wish_28 htab (by decide) hlocks

theorem thw_X8_fix_82 : ∀ w ∈ (vx_atS RX8 82 "java/lang/IndexOutOfBoundsException" vnm).filter goodWord, w ∈ wsX8_fix := by decide +kernel
theorem w_X8_fix_0 : Cond.classLink RX8 78 "java/lang/IndexOutOfBoundsException" ∈ wsX8_fix := by decide +kernel
theorem w_X8_fix_1 : Cond.initialized "java/lang/IndexOutOfBoundsException" ∈ wsX8_fix := by decide +kernel
set_option maxHeartbeats 4000000 in
set_option maxRecDepth 100000 in
theorem t_X8_fix_x0 (l : Launch) (D : va_G) (cT : ClassId × ClassId × ClassId) (sz : Nat) (c pa : Nat → Nat) (bd a6 a7 n ro cl fb rn : Nat) (nd sk mo wk fx wi la da we : Nat → Nat) (V V2 PR : Nat → Int64) (x : Int32) (zd : Int32) (ze : Int32) (hwf : wfC n bd fb rn nd sk mo wk fx wi la da we) (hx : PX x n) (hflag : l.stackTraces = false) : vx_Met l yX8_fix wsX8_fix ({ frames := 6, cells := 1, slots := 6, locals := 160 } : Room) (va_Pc [.ref (c 0), .int x, .int zd, .int ze] (tr_R D (TY cT) (cX cT c a6 a7 n ro cl fb rn nd V V2 PR pa ++ pool n pa (per sk mo wk fx wi la da we)) sz)) (tr_Q sz) (tr_X "java/lang/IndexOutOfBoundsException" sz) 1 6 (fun q => sz ≤ q) := by
  refine tr_start (cc := cX8_fix) (maxL := 6) (ret := (some .int)) RX8 ⟨by decide +kernel, rfl⟩ rfl (Nat.le_of_ble_eq_true rfl) ?_
  intro p0 e0 s0 m0 a0 b0 t0 c0 S hr hlocks htab hsz hP hK hXS ls hl
  have hl : lv_has ls 6 [(0, .ref (c 0)), (1, .int x), (2, .int zd), (3, .int ze)] := hl
  obtain ⟨hn, hcl, hfb, hrn, hnd, hper⟩ := id hwf
  refine lv_aload_n S.1 S.2.1 dX8_fix_0 rfl (lv_at hl 0 rfl) ?_
  refine lv_iload_n S.1 S.2.1 dX8_fix_1 rfl (lv_at hl 1 rfl) ?_
  refine rd_callVz (rest := []) S (r_X8_personAt_x l D cT c pa bd a6 a7 n ro cl fb rn nd sk mo wk fx wi la da we V V2 PR x (hwf) (hx)) gX8_fix_X8_personAt rfl pd_X8_personAt ⟨rfl, rfl, Nat.le_of_ble_eq_true rfl, Nat.le_of_ble_eq_true rfl⟩ hP hK (va_recv hK.1 hP (ci := 6) (q0 := 0) rfl rfl) hl rfl rfl (Nat.le_of_ble_eq_true rfl) ⟨Nat.zero_le _, Nat.zero_le _⟩ dX8_fix_2 ?_
  refine lv_astoreN (lv' := [(4, .null), (0, .ref (c 0)), (1, .int x), (2, .int zd), (3, .int ze)]) S.1 S.2.1 dX8_fix_5 hl (by decide) rfl (fun ls hl => ?_)
  refine lv_aloadN S.1 S.2.1 dX8_fix_7 (lv_at hl 0 rfl) ?_
  refine lv_ifnullN (tgt := 19) S.1 S.2.1 dX8_fix_9 (by decide) ?_
  exact t_throw (text := "no such person or day") S hflag trE_3 hsz hK hXS (by decide +kernel) ⟨w_X8_fix_0, w_X8_fix_1⟩ thw_X8_fix_82 hl.1 dX8_fix_19 dX8_fix_22 dX8_fix_23 dX8_fix_25 dX8_fix_28 htab (by decide) hlocks

set_option maxHeartbeats 4000000 in
set_option maxRecDepth 100000 in
theorem t_X8_fix_x1 (l : Launch) (D : va_G) (cT : ClassId × ClassId × ClassId) (sz : Nat) (c pa : Nat → Nat) (bd a6 a7 n ro cl fb rn : Nat) (nd sk mo wk fx wi la da we : Nat → Nat) (V V2 PR : Nat → Int64) (i : Nat) (x : Int32) (ze : Int32) (hwf : wfC n bd fb rn nd sk mo wk fx wi la da we) (hi : i < n) (hx : PX x 7) (hflag : l.stackTraces = false) : vx_Met l yX8_fix wsX8_fix ({ frames := 6, cells := 1, slots := 6, locals := 160 } : Room) (va_Pc [.ref (c 0), .int (nI i), .int x, .int ze] (tr_R D (TY cT) (cX cT c a6 a7 n ro cl fb rn nd V V2 PR pa ++ pool n pa (per sk mo wk fx wi la da we)) sz)) (tr_Q sz) (tr_X "java/lang/IndexOutOfBoundsException" sz) 1 6 (fun q => sz ≤ q) := by
  refine tr_start (cc := cX8_fix) (maxL := 6) (ret := (some .int)) RX8 ⟨by decide +kernel, rfl⟩ rfl (Nat.le_of_ble_eq_true rfl) ?_
  intro p0 e0 s0 m0 a0 b0 t0 c0 S hr hlocks htab hsz hP hK hXS ls hl
  have hl : lv_has ls 6 [(0, .ref (c 0)), (1, .int (nI i)), (2, .int x), (3, .int ze)] := hl
  obtain ⟨hn, hcl, hfb, hrn, hnd, hper⟩ := id hwf
  refine lv_aload_n S.1 S.2.1 dX8_fix_0 rfl (lv_at hl 0 rfl) ?_
  refine lv_iload_n S.1 S.2.1 dX8_fix_1 rfl (lv_at hl 1 rfl) ?_
  refine rd_callVr (rest := []) S (r_X8_personAt l D cT c pa bd a6 a7 n ro cl fb rn nd sk mo wk fx wi la da we V V2 PR i (hwf) (by omega)) gX8_fix_X8_personAt rfl pd_X8_personAt ⟨rfl, rfl, Nat.le_of_ble_eq_true rfl, Nat.le_of_ble_eq_true rfl⟩ hP hK (va_recv hK.1 hP (ci := 6) (q0 := 0) rfl rfl) hl rfl rfl (Nat.le_of_ble_eq_true rfl) ⟨Nat.zero_le _, Nat.zero_le _⟩ dX8_fix_2 ?_
  refine lv_astore (lv' := [(4, .ref (pa i)), (0, .ref (c 0)), (1, .int (nI i)), (2, .int x), (3, .int ze)]) S.1 S.2.1 dX8_fix_5 hl (by decide) rfl (fun ls hl => ?_)
  refine lv_aload S.1 S.2.1 dX8_fix_7 (lv_at hl 0 rfl) ?_
  refine lv_ifnull S.1 S.2.1 dX8_fix_9 ?_
  refine lv_iload_n S.1 S.2.1 dX8_fix_12 rfl (lv_at hl 3 rfl) ?_
  refine rd_callS (rest := []) S (r_X8_isDay_x l D cT x (hx)) gX8_fix_X8_isDay rfl pd_X8_isDay ⟨rfl, rfl, Nat.le_of_ble_eq_true rfl, Nat.le_of_ble_eq_true rfl⟩ (sx_P0 D _) hK hl rfl rfl (Nat.le_of_ble_eq_true rfl) ⟨Nat.zero_le _, Nat.zero_le _⟩ dX8_fix_13 ?_
  refine n_bne S (tgt := 29) dX8_fix_16 (by decide) (fun q => absurd q (by decide)) (fun _ => ?_)
  exact t_throw (text := "no such person or day") S hflag trE_3 hsz hK hXS (by decide +kernel) ⟨w_X8_fix_0, w_X8_fix_1⟩ thw_X8_fix_82 hl.1 dX8_fix_19 dX8_fix_22 dX8_fix_23 dX8_fix_25 dX8_fix_28 htab (by decide) hlocks

theorem thw_X8_fix_54 : ∀ w ∈ (vx_atS RX8 54 "java/lang/IllegalArgumentException" vnm).filter goodWord, w ∈ wsX8_fix := by decide +kernel
theorem w_X8_fix_2 : Cond.classLink RX8 50 "java/lang/IllegalArgumentException" ∈ wsX8_fix := by decide +kernel
theorem w_X8_fix_3 : Cond.initialized "java/lang/IllegalArgumentException" ∈ wsX8_fix := by decide +kernel
set_option maxHeartbeats 4000000 in
set_option maxRecDepth 100000 in
theorem t_X8_fix_x2 (l : Launch) (D : va_G) (cT : ClassId × ClassId × ClassId) (sz : Nat) (c pa : Nat → Nat) (bd a6 a7 n ro cl fb rn : Nat) (nd sk mo wk fx wi la da we : Nat → Nat) (V V2 PR : Nat → Int64) (i : Nat) (d : Nat) (x : Int32) (hwf : wfC n bd fb rn nd sk mo wk fx wi la da we) (hi : i < n) (hd : d < 7) (hx : x < -1 ∨ nI 3 < x) (hflag : l.stackTraces = false) : vx_Met l yX8_fix wsX8_fix ({ frames := 6, cells := 1, slots := 6, locals := 160 } : Room) (va_Pc [.ref (c 0), .int (nI i), .int (nI d), .int x] (tr_R D (TY cT) (cX cT c a6 a7 n ro cl fb rn nd V V2 PR pa ++ pool n pa (per sk mo wk fx wi la da we)) sz)) (tr_Q sz) (tr_X "java/lang/IllegalArgumentException" sz) 1 6 (fun q => sz ≤ q) := by
  refine tr_start (cc := cX8_fix) (maxL := 6) (ret := (some .int)) RX8 ⟨by decide +kernel, rfl⟩ rfl (Nat.le_of_ble_eq_true rfl) ?_
  intro p0 e0 s0 m0 a0 b0 t0 c0 S hr hlocks htab hsz hP hK hXS ls hl
  have hl : lv_has ls 6 [(0, .ref (c 0)), (1, .int (nI i)), (2, .int (nI d)), (3, .int x)] := hl
  obtain ⟨hn, hcl, hfb, hrn, hnd, hper⟩ := id hwf
  refine lv_aload_n S.1 S.2.1 dX8_fix_0 rfl (lv_at hl 0 rfl) ?_
  refine lv_iload_n S.1 S.2.1 dX8_fix_1 rfl (lv_at hl 1 rfl) ?_
  refine rd_callVr (rest := []) S (r_X8_personAt l D cT c pa bd a6 a7 n ro cl fb rn nd sk mo wk fx wi la da we V V2 PR i (hwf) (by omega)) gX8_fix_X8_personAt rfl pd_X8_personAt ⟨rfl, rfl, Nat.le_of_ble_eq_true rfl, Nat.le_of_ble_eq_true rfl⟩ hP hK (va_recv hK.1 hP (ci := 6) (q0 := 0) rfl rfl) hl rfl rfl (Nat.le_of_ble_eq_true rfl) ⟨Nat.zero_le _, Nat.zero_le _⟩ dX8_fix_2 ?_
  refine lv_astore (lv' := [(4, .ref (pa i)), (0, .ref (c 0)), (1, .int (nI i)), (2, .int (nI d)), (3, .int x)]) S.1 S.2.1 dX8_fix_5 hl (by decide) rfl (fun ls hl => ?_)
  refine lv_aload S.1 S.2.1 dX8_fix_7 (lv_at hl 0 rfl) ?_
  refine lv_ifnull S.1 S.2.1 dX8_fix_9 ?_
  refine lv_iload_n S.1 S.2.1 dX8_fix_12 rfl (lv_at hl 3 rfl) ?_
  refine rd_callS (rest := []) S (r_X8_isDay l D cT d (by omega)) gX8_fix_X8_isDay rfl pd_X8_isDay ⟨rfl, rfl, Nat.le_of_ble_eq_true rfl, Nat.le_of_ble_eq_true rfl⟩ (sx_P0 D _) hK hl rfl rfl (Nat.le_of_ble_eq_true rfl) ⟨Nat.zero_le _, Nat.zero_le _⟩ dX8_fix_13 ?_
  refine n_bne S (tgt := 29) dX8_fix_16 (by decide) (fun _ => ?_) (fun q => absurd q (by decide))
  refine lv_iload_n S.1 S.2.1 dX8_fix_29 rfl (lv_at hl 4 rfl) ?_
  refine lv_iconst (v := (-1)) S.1 S.2.1 dX8_fix_30 (by decide) ?_
  refine lv_icmp_eq (tgt := 51) S.1 S.2.1 dX8_fix_31 (by decide) (fun c31 => ?_) (fun c31 => ?_)
  · exact absurd hx (by rw [c31]; decide)
  refine lv_iload_n S.1 S.2.1 dX8_fix_34 rfl (lv_at hl 4 rfl) ?_
  refine rd_callS (rest := []) S (r_X8_isEntry_x l D cT x (fx_bad hx c31)) gX8_fix_X8_isEntry rfl pd_X8_isEntry ⟨rfl, rfl, Nat.le_of_ble_eq_true rfl, Nat.le_of_ble_eq_true rfl⟩ (sx_P0 D _) hK hl rfl rfl (Nat.le_of_ble_eq_true rfl) ⟨Nat.zero_le _, Nat.zero_le _⟩ dX8_fix_35 ?_
  refine n_bne S (tgt := 51) dX8_fix_38 (by decide) (fun q => absurd q (by decide)) (fun _ => ?_)
  exact t_throw (text := "neither an entry nor NONE") S hflag trE_1 hsz hK hXS (by decide +kernel) ⟨w_X8_fix_2, w_X8_fix_3⟩ thw_X8_fix_54 hl.1 dX8_fix_41 dX8_fix_44 dX8_fix_45 dX8_fix_47 dX8_fix_50 htab (by decide) hlocks

theorem thw_X8_set_82 : ∀ w ∈ (vx_atS RX8 82 "java/lang/IndexOutOfBoundsException" vnm).filter goodWord, w ∈ wsX8_set := by decide +kernel
theorem w_X8_set_1 : Cond.classLink RX8 78 "java/lang/IndexOutOfBoundsException" ∈ wsX8_set := by decide +kernel
theorem w_X8_set_2 : Cond.initialized "java/lang/IndexOutOfBoundsException" ∈ wsX8_set := by decide +kernel
set_option maxHeartbeats 4000000 in
set_option maxRecDepth 100000 in
theorem t_X8_set_x0 (l : Launch) (D : va_G) (cT : ClassId × ClassId × ClassId) (sz : Nat) (c pa : Nat → Nat) (bd a6 a7 n ro cl fb rn : Nat) (nd sk mo wk fx wi la da we : Nat → Nat) (V V2 PR : Nat → Int64) (x : Int32) (zd : Int32) (ze : Int32) (hwf : wfC n bd fb rn nd sk mo wk fx wi la da we) (hx : PX x n) (hflag : l.stackTraces = false) : vx_Met l yX8_set wsX8_set ({ frames := 6, cells := 1, slots := 6, locals := 160 } : Room) (va_Pc [.ref (c 0), .int x, .int zd, .int ze] (tr_R D (TY cT) (cX cT c a6 a7 n ro cl fb rn nd V V2 PR pa ++ pool n pa (per sk mo wk fx wi la da we)) sz)) (tr_Q sz) (tr_X "java/lang/IndexOutOfBoundsException" sz) 1 6 (fun q => sz ≤ q) := by
  refine tr_start (cc := cX8_set) (maxL := 7) (ret := (some .int)) RX8 ⟨by decide +kernel, rfl⟩ rfl (Nat.le_of_ble_eq_true rfl) ?_
  intro p0 e0 s0 m0 a0 b0 t0 c0 S hr hlocks htab hsz hP hK hXS ls hl
  have hl : lv_has ls 7 [(0, .ref (c 0)), (1, .int x), (2, .int zd), (3, .int ze)] := hl
  obtain ⟨hn, hcl, hfb, hrn, hnd, hper⟩ := id hwf
  refine lv_aload_n S.1 S.2.1 dX8_set_0 rfl (lv_at hl 0 rfl) ?_
  refine lv_iload_n S.1 S.2.1 dX8_set_1 rfl (lv_at hl 1 rfl) ?_
  refine rd_callVz (rest := []) S (r_X8_personAt_x l D cT c pa bd a6 a7 n ro cl fb rn nd sk mo wk fx wi la da we V V2 PR x (hwf) (hx)) gX8_set_X8_personAt rfl pd_X8_personAt ⟨rfl, rfl, Nat.le_of_ble_eq_true rfl, Nat.le_of_ble_eq_true rfl⟩ hP hK (va_recv hK.1 hP (ci := 6) (q0 := 0) rfl rfl) hl rfl rfl (Nat.le_of_ble_eq_true rfl) ⟨Nat.zero_le _, Nat.zero_le _⟩ dX8_set_2 ?_
  refine lv_astoreN (lv' := [(4, .null), (0, .ref (c 0)), (1, .int x), (2, .int zd), (3, .int ze)]) S.1 S.2.1 dX8_set_5 hl (by decide) rfl (fun ls hl => ?_)
  refine lv_aloadN S.1 S.2.1 dX8_set_7 (lv_at hl 0 rfl) ?_
  refine lv_ifnullN (tgt := 19) S.1 S.2.1 dX8_set_9 (by decide) ?_
  exact t_throw (text := "no such person or day") S hflag trE_3 hsz hK hXS (by decide +kernel) ⟨w_X8_set_1, w_X8_set_2⟩ thw_X8_set_82 hl.1 dX8_set_19 dX8_set_22 dX8_set_23 dX8_set_25 dX8_set_28 htab (by decide) hlocks

set_option maxHeartbeats 4000000 in
set_option maxRecDepth 100000 in
theorem t_X8_set_x1 (l : Launch) (D : va_G) (cT : ClassId × ClassId × ClassId) (sz : Nat) (c pa : Nat → Nat) (bd a6 a7 n ro cl fb rn : Nat) (nd sk mo wk fx wi la da we : Nat → Nat) (V V2 PR : Nat → Int64) (i : Nat) (x : Int32) (ze : Int32) (hwf : wfC n bd fb rn nd sk mo wk fx wi la da we) (hi : i < n) (hx : PX x 7) (hflag : l.stackTraces = false) : vx_Met l yX8_set wsX8_set ({ frames := 6, cells := 1, slots := 6, locals := 160 } : Room) (va_Pc [.ref (c 0), .int (nI i), .int x, .int ze] (tr_R D (TY cT) (cX cT c a6 a7 n ro cl fb rn nd V V2 PR pa ++ pool n pa (per sk mo wk fx wi la da we)) sz)) (tr_Q sz) (tr_X "java/lang/IndexOutOfBoundsException" sz) 1 6 (fun q => sz ≤ q) := by
  refine tr_start (cc := cX8_set) (maxL := 7) (ret := (some .int)) RX8 ⟨by decide +kernel, rfl⟩ rfl (Nat.le_of_ble_eq_true rfl) ?_
  intro p0 e0 s0 m0 a0 b0 t0 c0 S hr hlocks htab hsz hP hK hXS ls hl
  have hl : lv_has ls 7 [(0, .ref (c 0)), (1, .int (nI i)), (2, .int x), (3, .int ze)] := hl
  obtain ⟨hn, hcl, hfb, hrn, hnd, hper⟩ := id hwf
  refine lv_aload_n S.1 S.2.1 dX8_set_0 rfl (lv_at hl 0 rfl) ?_
  refine lv_iload_n S.1 S.2.1 dX8_set_1 rfl (lv_at hl 1 rfl) ?_
  refine rd_callVr (rest := []) S (r_X8_personAt l D cT c pa bd a6 a7 n ro cl fb rn nd sk mo wk fx wi la da we V V2 PR i (hwf) (by omega)) gX8_set_X8_personAt rfl pd_X8_personAt ⟨rfl, rfl, Nat.le_of_ble_eq_true rfl, Nat.le_of_ble_eq_true rfl⟩ hP hK (va_recv hK.1 hP (ci := 6) (q0 := 0) rfl rfl) hl rfl rfl (Nat.le_of_ble_eq_true rfl) ⟨Nat.zero_le _, Nat.zero_le _⟩ dX8_set_2 ?_
  refine lv_astore (lv' := [(4, .ref (pa i)), (0, .ref (c 0)), (1, .int (nI i)), (2, .int x), (3, .int ze)]) S.1 S.2.1 dX8_set_5 hl (by decide) rfl (fun ls hl => ?_)
  refine lv_aload S.1 S.2.1 dX8_set_7 (lv_at hl 0 rfl) ?_
  refine lv_ifnull S.1 S.2.1 dX8_set_9 ?_
  refine lv_iload_n S.1 S.2.1 dX8_set_12 rfl (lv_at hl 3 rfl) ?_
  refine rd_callS (rest := []) S (r_X8_isDay_x l D cT x (hx)) gX8_set_X8_isDay rfl pd_X8_isDay ⟨rfl, rfl, Nat.le_of_ble_eq_true rfl, Nat.le_of_ble_eq_true rfl⟩ (sx_P0 D _) hK hl rfl rfl (Nat.le_of_ble_eq_true rfl) ⟨Nat.zero_le _, Nat.zero_le _⟩ dX8_set_13 ?_
  refine n_bne S (tgt := 29) dX8_set_16 (by decide) (fun q => absurd q (by decide)) (fun _ => ?_)
  exact t_throw (text := "no such person or day") S hflag trE_3 hsz hK hXS (by decide +kernel) ⟨w_X8_set_1, w_X8_set_2⟩ thw_X8_set_82 hl.1 dX8_set_19 dX8_set_22 dX8_set_23 dX8_set_25 dX8_set_28 htab (by decide) hlocks

theorem thw_X8_set_54 : ∀ w ∈ (vx_atS RX8 54 "java/lang/IllegalArgumentException" vnm).filter goodWord, w ∈ wsX8_set := by decide +kernel
theorem w_X8_set_3 : Cond.classLink RX8 50 "java/lang/IllegalArgumentException" ∈ wsX8_set := by decide +kernel
theorem w_X8_set_4 : Cond.initialized "java/lang/IllegalArgumentException" ∈ wsX8_set := by decide +kernel
set_option maxHeartbeats 4000000 in
set_option maxRecDepth 100000 in
theorem t_X8_set_x2 (l : Launch) (D : va_G) (cT : ClassId × ClassId × ClassId) (sz : Nat) (c pa : Nat → Nat) (bd a6 a7 n ro cl fb rn : Nat) (nd sk mo wk fx wi la da we : Nat → Nat) (V V2 PR : Nat → Int64) (i : Nat) (d : Nat) (x : Int32) (hwf : wfC n bd fb rn nd sk mo wk fx wi la da we) (hi : i < n) (hd : d < 7) (hx : x < nI 0 ∨ nI 3 < x) (hflag : l.stackTraces = false) : vx_Met l yX8_set wsX8_set ({ frames := 6, cells := 1, slots := 6, locals := 160 } : Room) (va_Pc [.ref (c 0), .int (nI i), .int (nI d), .int x] (tr_R D (TY cT) (cX cT c a6 a7 n ro cl fb rn nd V V2 PR pa ++ pool n pa (per sk mo wk fx wi la da we)) sz)) (tr_Q sz) (tr_X "java/lang/IllegalArgumentException" sz) 1 6 (fun q => sz ≤ q) := by
  refine tr_start (cc := cX8_set) (maxL := 7) (ret := (some .int)) RX8 ⟨by decide +kernel, rfl⟩ rfl (Nat.le_of_ble_eq_true rfl) ?_
  intro p0 e0 s0 m0 a0 b0 t0 c0 S hr hlocks htab hsz hP hK hXS ls hl
  have hl : lv_has ls 7 [(0, .ref (c 0)), (1, .int (nI i)), (2, .int (nI d)), (3, .int x)] := hl
  obtain ⟨hn, hcl, hfb, hrn, hnd, hper⟩ := id hwf
  refine lv_aload_n S.1 S.2.1 dX8_set_0 rfl (lv_at hl 0 rfl) ?_
  refine lv_iload_n S.1 S.2.1 dX8_set_1 rfl (lv_at hl 1 rfl) ?_
  refine rd_callVr (rest := []) S (r_X8_personAt l D cT c pa bd a6 a7 n ro cl fb rn nd sk mo wk fx wi la da we V V2 PR i (hwf) (by omega)) gX8_set_X8_personAt rfl pd_X8_personAt ⟨rfl, rfl, Nat.le_of_ble_eq_true rfl, Nat.le_of_ble_eq_true rfl⟩ hP hK (va_recv hK.1 hP (ci := 6) (q0 := 0) rfl rfl) hl rfl rfl (Nat.le_of_ble_eq_true rfl) ⟨Nat.zero_le _, Nat.zero_le _⟩ dX8_set_2 ?_
  refine lv_astore (lv' := [(4, .ref (pa i)), (0, .ref (c 0)), (1, .int (nI i)), (2, .int (nI d)), (3, .int x)]) S.1 S.2.1 dX8_set_5 hl (by decide) rfl (fun ls hl => ?_)
  refine lv_aload S.1 S.2.1 dX8_set_7 (lv_at hl 0 rfl) ?_
  refine lv_ifnull S.1 S.2.1 dX8_set_9 ?_
  refine lv_iload_n S.1 S.2.1 dX8_set_12 rfl (lv_at hl 3 rfl) ?_
  refine rd_callS (rest := []) S (r_X8_isDay l D cT d (by omega)) gX8_set_X8_isDay rfl pd_X8_isDay ⟨rfl, rfl, Nat.le_of_ble_eq_true rfl, Nat.le_of_ble_eq_true rfl⟩ (sx_P0 D _) hK hl rfl rfl (Nat.le_of_ble_eq_true rfl) ⟨Nat.zero_le _, Nat.zero_le _⟩ dX8_set_13 ?_
  refine n_bne S (tgt := 29) dX8_set_16 (by decide) (fun _ => ?_) (fun q => absurd q (by decide))
  refine lv_iload_n S.1 S.2.1 dX8_set_29 rfl (lv_at hl 4 rfl) ?_
  refine rd_callS (rest := []) S (r_X8_isEntry_x l D cT x (hx)) gX8_set_X8_isEntry rfl pd_X8_isEntry ⟨rfl, rfl, Nat.le_of_ble_eq_true rfl, Nat.le_of_ble_eq_true rfl⟩ (sx_P0 D _) hK hl rfl rfl (Nat.le_of_ble_eq_true rfl) ⟨Nat.zero_le _, Nat.zero_le _⟩ dX8_set_30 ?_
  refine n_bne S (tgt := 46) dX8_set_33 (by decide) (fun q => absurd q (by decide)) (fun _ => ?_)
  exact t_throw (text := "no such entry") S hflag trE_1 hsz hK hXS (by decide +kernel) ⟨w_X8_set_3, w_X8_set_4⟩ thw_X8_set_54 hl.1 dX8_set_36 dX8_set_39 dX8_set_40 dX8_set_42 dX8_set_45 htab (by decide) hlocks

theorem thw_X8_set_67 : ∀ w ∈ (vx_atS RX8 67 "java/lang/IllegalStateException" vnm).filter goodWord, w ∈ wsX8_set := by decide +kernel
theorem w_X8_set_5 : Cond.classLink RX8 63 "java/lang/IllegalStateException" ∈ wsX8_set := by decide +kernel
theorem w_X8_set_6 : Cond.initialized "java/lang/IllegalStateException" ∈ wsX8_set := by decide +kernel
set_option maxHeartbeats 4000000 in
set_option maxRecDepth 100000 in
theorem t_X8_set_x3 (l : Launch) (D : va_G) (cT : ClassId × ClassId × ClassId) (sz : Nat) (c pa : Nat → Nat) (bd a6 a7 n ro cl fb rn : Nat) (nd sk mo wk fx wi la da we : Nat → Nat) (V V2 PR : Nat → Int64) (i d e : Nat) (hwf : wfC n bd fb rn nd sk mo wk fx wi la da we) (hi : i < n) (hd : d < 7) (he : e < 4) (hf : fe sk mo fx la da fb rn i (wset (wk i) d e) = false) (hflag : l.stackTraces = false) : vx_Met l yX8_set wsX8_set ({ frames := 6, cells := 1, slots := 6, locals := 160 } : Room) (va_Pc [.ref (c 0), .int (nI i), .int (nI d), .int (nI e)] (tr_R D (TY cT) (cX cT c a6 a7 n ro cl fb rn nd V V2 PR pa ++ pool n pa (per sk mo wk fx wi la da we)) sz)) (tr_Q sz) (tr_X "java/lang/IllegalStateException" sz) 1 6 (fun q => sz ≤ q) := by
  refine tr_start (cc := cX8_set) (maxL := 7) (ret := (some .int)) RX8 ⟨by decide +kernel, rfl⟩ rfl (Nat.le_of_ble_eq_true rfl) ?_
  intro p0 e0 s0 m0 a0 b0 t0 c0 S hr hlocks htab hsz hP hK hXS ls hl
  have hl : lv_has ls 7 [(0, .ref (c 0)), (1, .int (nI i)), (2, .int (nI d)), (3, .int (nI e))] := hl
  obtain ⟨hn, hcl, hfb, hrn, hnd, hper⟩ := id hwf
  have hpii := hper i
  refine lv_aload_n S.1 S.2.1 dX8_set_0 rfl (lv_at hl 0 rfl) ?_
  refine lv_iload_n S.1 S.2.1 dX8_set_1 rfl (lv_at hl 1 rfl) ?_
  refine rd_callVr (rest := []) S (r_X8_personAt l D cT c pa bd a6 a7 n ro cl fb rn nd sk mo wk fx wi la da we V V2 PR i (hwf) (by omega)) gX8_set_X8_personAt rfl pd_X8_personAt ⟨rfl, rfl, Nat.le_of_ble_eq_true rfl, Nat.le_of_ble_eq_true rfl⟩ hP hK (va_recv hK.1 hP (ci := 6) (q0 := 0) rfl rfl) hl rfl rfl (Nat.le_of_ble_eq_true rfl) ⟨Nat.zero_le _, Nat.zero_le _⟩ dX8_set_2 ?_
  refine lv_astore (lv' := [(4, .ref (pa i)), (0, .ref (c 0)), (1, .int (nI i)), (2, .int (nI d)), (3, .int (nI e))]) S.1 S.2.1 dX8_set_5 hl (by decide) rfl (fun ls hl => ?_)
  refine lv_aload S.1 S.2.1 dX8_set_7 (lv_at hl 0 rfl) ?_
  refine lv_ifnull S.1 S.2.1 dX8_set_9 ?_
  refine lv_iload_n S.1 S.2.1 dX8_set_12 rfl (lv_at hl 3 rfl) ?_
  refine rd_callS (rest := []) S (r_X8_isDay l D cT d (by omega)) gX8_set_X8_isDay rfl pd_X8_isDay ⟨rfl, rfl, Nat.le_of_ble_eq_true rfl, Nat.le_of_ble_eq_true rfl⟩ (sx_P0 D _) hK hl rfl rfl (Nat.le_of_ble_eq_true rfl) ⟨Nat.zero_le _, Nat.zero_le _⟩ dX8_set_13 ?_
  refine n_bne S (tgt := 29) dX8_set_16 (by decide) (fun _ => ?_) (fun q => absurd q (by decide))
  refine lv_iload_n S.1 S.2.1 dX8_set_29 rfl (lv_at hl 4 rfl) ?_
  refine rd_callS (rest := []) S (r_X8_isEntry l D cT e (by omega)) gX8_set_X8_isEntry rfl pd_X8_isEntry ⟨rfl, rfl, Nat.le_of_ble_eq_true rfl, Nat.le_of_ble_eq_true rfl⟩ (sx_P0 D _) hK hl rfl rfl (Nat.le_of_ble_eq_true rfl) ⟨Nat.zero_le _, Nat.zero_le _⟩ dX8_set_30 ?_
  refine n_bne S (tgt := 46) dX8_set_33 (by decide) (fun _ => ?_) (fun q => absurd q (by decide))
  refine lv_aload S.1 S.2.1 dX8_set_46 (lv_at hl 0 rfl) ?_
  refine g_getN (C := RX4) (T := TX4) (N := 8) (v := .int (nI (wk i))) S _ 3 2 in_X8_set_X4 hK hP (pool_at (by omega)) rfl (by decide) (List.mem_of_getElem? (i := 11) rfl) rfl dX8_set_48 ?_
  refine lv_iload_n S.1 S.2.1 dX8_set_51 rfl (lv_at hl 3 rfl) ?_
  refine lv_iload_n S.1 S.2.1 dX8_set_52 rfl (lv_at hl 4 rfl) ?_
  refine rd_callS (rest := []) S (r_X7_with l D cT (wk i) d e (by omega) (by omega) (by omega)) gX8_set_X7_with rfl pd_X7_with ⟨rfl, rfl, Nat.le_of_ble_eq_true rfl, Nat.le_of_ble_eq_true rfl⟩ (sx_P0 D _) hK hl rfl rfl (Nat.le_of_ble_eq_true rfl) ⟨Nat.zero_le _, Nat.zero_le _⟩ dX8_set_53 ?_
  refine lv_istore (lv' := [(5, .int (nI (wset (wk i) d e))), (4, .ref (pa i)), (0, .ref (c 0)), (1, .int (nI i)), (2, .int (nI d)), (3, .int (nI e))]) S.1 S.2.1 dX8_set_56 hl (by decide) rfl (fun ls hl => ?_)
  refine lv_aload S.1 S.2.1 dX8_set_58 (lv_at hl 1 rfl) ?_
  refine lv_iload S.1 S.2.1 dX8_set_60 (lv_at hl 0 rfl) ?_
  refine lv_aload_n S.1 S.2.1 dX8_set_62 rfl (lv_at hl 2 rfl) ?_
  refine g_get (C := RX8) (T := TX8) (N := 9) (v := .ref (c 4)) S 0 6 2 in_X8_set_X8 hK hP rfl rfl (by decide) w_X8_set_0 rfl dX8_set_63 ?_
  refine rd_callV (rest := []) S (r_X4_canHave l D cT (pa i) (c 4) (sk i) (mo i) (wk i) (fx i) (wi i) (la i) (da i) (we i) fb rn (wset (wk i) d e) (wset_lt (by omega) hd he) (⟨hpii.1, hpii.2.1, hpii.2.2.2.2.2.1, hfb, hrn, by omega⟩) (hpii.2.2.2.1)) gX8_set_X4_canHave rfl pd_X4_canHave ⟨rfl, rfl, Nat.le_of_ble_eq_true rfl, Nat.le_of_ble_eq_true rfl⟩ (sx_P2 (pool_one hP (by omega)) (hP.sub (ws' := [(c 4, .inr (5, [.int (nI fb), .int (nI rn)]))]) [4] rfl)) hK (va_recv hK.1 hP (ci := 3) (q0 := _) rfl (pool_at (by omega))) hl rfl rfl (Nat.le_of_ble_eq_true rfl) ⟨Nat.zero_le _, Nat.zero_le _⟩ dX8_set_66 ?_
  refine n_top (show (nI (feas (sk i) (mo i) (nib (fx i)) (bit fb) (la i) (da i) rn (wset (wk i) d e)).toNat) = (nI false.toNat) from by rw [show feas (sk i) (mo i) (nib (fx i)) (bit fb) (la i) (da i) rn (wset (wk i) d e) = false from hf]) ?_
  refine n_bne S (tgt := 82) dX8_set_69 (by decide) (fun q => absurd q (by decide)) (fun _ => ?_)
  exact t_throw (text := "the week would not be feasible") S hflag trE_2 hsz hK hXS (by decide +kernel) ⟨w_X8_set_5, w_X8_set_6⟩ thw_X8_set_67 hl.1 dX8_set_72 dX8_set_75 dX8_set_76 dX8_set_78 dX8_set_81 htab (by decide) hlocks

theorem thw_X8_swap_82 : ∀ w ∈ (vx_atS RX8 82 "java/lang/IndexOutOfBoundsException" vnm).filter goodWord, w ∈ wsX8_swap := by decide +kernel
theorem w_X8_swap_0 : Cond.classLink RX8 78 "java/lang/IndexOutOfBoundsException" ∈ wsX8_swap := by decide +kernel
theorem w_X8_swap_1 : Cond.initialized "java/lang/IndexOutOfBoundsException" ∈ wsX8_swap := by decide +kernel
set_option maxHeartbeats 4000000 in
set_option maxRecDepth 100000 in
theorem t_X8_swap_x0 (l : Launch) (D : va_G) (cT : ClassId × ClassId × ClassId) (sz : Nat) (c pa : Nat → Nat) (bd a6 a7 n ro cl fb rn : Nat) (nd sk mo wk fx wi la da we : Nat → Nat) (V V2 PR : Nat → Int64) (x : Int32) (j : Nat) (zd : Int32) (hwf : wfC n bd fb rn nd sk mo wk fx wi la da we) (hx : PX x n) (hj : j < n) (hflag : l.stackTraces = false) : vx_Met l yX8_swap wsX8_swap ({ frames := 6, cells := 1, slots := 6, locals := 160 } : Room) (va_Pc [.ref (c 0), .int x, .int (nI j), .int zd] (tr_R D (TY cT) (cX cT c a6 a7 n ro cl fb rn nd V V2 PR pa ++ pool n pa (per sk mo wk fx wi la da we)) sz)) (tr_Q sz) (tr_X "java/lang/IndexOutOfBoundsException" sz) 1 6 (fun q => sz ≤ q) := by
  refine tr_start (cc := cX8_swap) (maxL := 7) (ret := (some .int)) RX8 ⟨by decide +kernel, rfl⟩ rfl (Nat.le_of_ble_eq_true rfl) ?_
  intro p0 e0 s0 m0 a0 b0 t0 c0 S hr hlocks htab hsz hP hK hXS ls hl
  have hl : lv_has ls 7 [(0, .ref (c 0)), (1, .int x), (2, .int (nI j)), (3, .int zd)] := hl
  obtain ⟨hn, hcl, hfb, hrn, hnd, hper⟩ := id hwf
  refine lv_aload_n S.1 S.2.1 dX8_swap_0 rfl (lv_at hl 0 rfl) ?_
  refine lv_iload_n S.1 S.2.1 dX8_swap_1 rfl (lv_at hl 1 rfl) ?_
  refine rd_callVz (rest := []) S (r_X8_personAt_x l D cT c pa bd a6 a7 n ro cl fb rn nd sk mo wk fx wi la da we V V2 PR x (hwf) (hx)) gX8_swap_X8_personAt rfl pd_X8_personAt ⟨rfl, rfl, Nat.le_of_ble_eq_true rfl, Nat.le_of_ble_eq_true rfl⟩ hP hK (va_recv hK.1 hP (ci := 6) (q0 := 0) rfl rfl) hl rfl rfl (Nat.le_of_ble_eq_true rfl) ⟨Nat.zero_le _, Nat.zero_le _⟩ dX8_swap_2 ?_
  refine lv_astoreN (lv' := [(4, .null), (0, .ref (c 0)), (1, .int x), (2, .int (nI j)), (3, .int zd)]) S.1 S.2.1 dX8_swap_5 hl (by decide) rfl (fun ls hl => ?_)
  refine lv_aload_n S.1 S.2.1 dX8_swap_7 rfl (lv_at hl 1 rfl) ?_
  refine lv_iload_n S.1 S.2.1 dX8_swap_8 rfl (lv_at hl 3 rfl) ?_
  refine rd_callVr (rest := []) S (r_X8_personAt l D cT c pa bd a6 a7 n ro cl fb rn nd sk mo wk fx wi la da we V V2 PR j (hwf) (by omega)) gX8_swap_X8_personAt rfl pd_X8_personAt ⟨rfl, rfl, Nat.le_of_ble_eq_true rfl, Nat.le_of_ble_eq_true rfl⟩ hP hK (va_recv hK.1 hP (ci := 6) (q0 := 0) rfl rfl) hl rfl rfl (Nat.le_of_ble_eq_true rfl) ⟨Nat.zero_le _, Nat.zero_le _⟩ dX8_swap_9 ?_
  refine lv_astore (lv' := [(5, .ref (pa j)), (4, .null), (0, .ref (c 0)), (1, .int x), (2, .int (nI j)), (3, .int zd)]) S.1 S.2.1 dX8_swap_12 hl (by decide) rfl (fun ls hl => ?_)
  refine lv_aloadN S.1 S.2.1 dX8_swap_14 (lv_at hl 1 rfl) ?_
  refine lv_ifnullN (tgt := 31) S.1 S.2.1 dX8_swap_16 (by decide) ?_
  exact t_throw (text := "no such person, other or day") S hflag trE_3 hsz hK hXS (by decide +kernel) ⟨w_X8_swap_0, w_X8_swap_1⟩ thw_X8_swap_82 hl.1 dX8_swap_31 dX8_swap_34 dX8_swap_35 dX8_swap_37 dX8_swap_40 htab (by decide) hlocks

set_option maxHeartbeats 4000000 in
set_option maxRecDepth 100000 in
theorem t_X8_swap_x0b (l : Launch) (D : va_G) (cT : ClassId × ClassId × ClassId) (sz : Nat) (c pa : Nat → Nat) (bd a6 a7 n ro cl fb rn : Nat) (nd sk mo wk fx wi la da we : Nat → Nat) (V V2 PR : Nat → Int64) (x zj zd : Int32) (hwf : wfC n bd fb rn nd sk mo wk fx wi la da we) (hx : PX x n) (hj : PX zj n) (hflag : l.stackTraces = false) : vx_Met l yX8_swap wsX8_swap ({ frames := 6, cells := 1, slots := 6, locals := 160 } : Room) (va_Pc [.ref (c 0), .int x, .int zj, .int zd] (tr_R D (TY cT) (cX cT c a6 a7 n ro cl fb rn nd V V2 PR pa ++ pool n pa (per sk mo wk fx wi la da we)) sz)) (tr_Q sz) (tr_X "java/lang/IndexOutOfBoundsException" sz) 1 6 (fun q => sz ≤ q) := by
  refine tr_start (cc := cX8_swap) (maxL := 7) (ret := (some .int)) RX8 ⟨by decide +kernel, rfl⟩ rfl (Nat.le_of_ble_eq_true rfl) ?_
  intro p0 e0 s0 m0 a0 b0 t0 c0 S hr hlocks htab hsz hP hK hXS ls hl
  have hl : lv_has ls 7 [(0, .ref (c 0)), (1, .int x), (2, .int zj), (3, .int zd)] := hl
  obtain ⟨hn, hcl, hfb, hrn, hnd, hper⟩ := id hwf
  refine lv_aload_n S.1 S.2.1 dX8_swap_0 rfl (lv_at hl 0 rfl) ?_
  refine lv_iload_n S.1 S.2.1 dX8_swap_1 rfl (lv_at hl 1 rfl) ?_
  refine rd_callVz (rest := []) S (r_X8_personAt_x l D cT c pa bd a6 a7 n ro cl fb rn nd sk mo wk fx wi la da we V V2 PR x (hwf) (hx)) gX8_swap_X8_personAt rfl pd_X8_personAt ⟨rfl, rfl, Nat.le_of_ble_eq_true rfl, Nat.le_of_ble_eq_true rfl⟩ hP hK (va_recv hK.1 hP (ci := 6) (q0 := 0) rfl rfl) hl rfl rfl (Nat.le_of_ble_eq_true rfl) ⟨Nat.zero_le _, Nat.zero_le _⟩ dX8_swap_2 ?_
  refine lv_astoreN (lv' := [(4, .null), (0, .ref (c 0)), (1, .int x), (2, .int zj), (3, .int zd)]) S.1 S.2.1 dX8_swap_5 hl (by decide) rfl (fun ls hl => ?_)
  refine lv_aload_n S.1 S.2.1 dX8_swap_7 rfl (lv_at hl 1 rfl) ?_
  refine lv_iload_n S.1 S.2.1 dX8_swap_8 rfl (lv_at hl 3 rfl) ?_
  refine rd_callVz (rest := []) S (r_X8_personAt_x l D cT c pa bd a6 a7 n ro cl fb rn nd sk mo wk fx wi la da we V V2 PR zj (hwf) (hj)) gX8_swap_X8_personAt rfl pd_X8_personAt ⟨rfl, rfl, Nat.le_of_ble_eq_true rfl, Nat.le_of_ble_eq_true rfl⟩ hP hK (va_recv hK.1 hP (ci := 6) (q0 := 0) rfl rfl) hl rfl rfl (Nat.le_of_ble_eq_true rfl) ⟨Nat.zero_le _, Nat.zero_le _⟩ dX8_swap_9 ?_
  refine lv_astoreN (lv' := [(5, .null), (4, .null), (0, .ref (c 0)), (1, .int x), (2, .int zj), (3, .int zd)]) S.1 S.2.1 dX8_swap_12 hl (by decide) rfl (fun ls hl => ?_)
  refine lv_aloadN S.1 S.2.1 dX8_swap_14 (lv_at hl 1 rfl) ?_
  refine lv_ifnullN (tgt := 31) S.1 S.2.1 dX8_swap_16 (by decide) ?_
  exact t_throw (text := "no such person, other or day") S hflag trE_3 hsz hK hXS (by decide +kernel) ⟨w_X8_swap_0, w_X8_swap_1⟩ thw_X8_swap_82 hl.1 dX8_swap_31 dX8_swap_34 dX8_swap_35 dX8_swap_37 dX8_swap_40 htab (by decide) hlocks

set_option maxHeartbeats 4000000 in
set_option maxRecDepth 100000 in
theorem t_X8_swap_x1 (l : Launch) (D : va_G) (cT : ClassId × ClassId × ClassId) (sz : Nat) (c pa : Nat → Nat) (bd a6 a7 n ro cl fb rn : Nat) (nd sk mo wk fx wi la da we : Nat → Nat) (V V2 PR : Nat → Int64) (i : Nat) (x zd : Int32) (hwf : wfC n bd fb rn nd sk mo wk fx wi la da we) (hi : i < n) (hx : PX x n) (hflag : l.stackTraces = false) : vx_Met l yX8_swap wsX8_swap ({ frames := 6, cells := 1, slots := 6, locals := 160 } : Room) (va_Pc [.ref (c 0), .int (nI i), .int x, .int zd] (tr_R D (TY cT) (cX cT c a6 a7 n ro cl fb rn nd V V2 PR pa ++ pool n pa (per sk mo wk fx wi la da we)) sz)) (tr_Q sz) (tr_X "java/lang/IndexOutOfBoundsException" sz) 1 6 (fun q => sz ≤ q) := by
  refine tr_start (cc := cX8_swap) (maxL := 7) (ret := (some .int)) RX8 ⟨by decide +kernel, rfl⟩ rfl (Nat.le_of_ble_eq_true rfl) ?_
  intro p0 e0 s0 m0 a0 b0 t0 c0 S hr hlocks htab hsz hP hK hXS ls hl
  have hl : lv_has ls 7 [(0, .ref (c 0)), (1, .int (nI i)), (2, .int x), (3, .int zd)] := hl
  obtain ⟨hn, hcl, hfb, hrn, hnd, hper⟩ := id hwf
  refine lv_aload_n S.1 S.2.1 dX8_swap_0 rfl (lv_at hl 0 rfl) ?_
  refine lv_iload_n S.1 S.2.1 dX8_swap_1 rfl (lv_at hl 1 rfl) ?_
  refine rd_callVr (rest := []) S (r_X8_personAt l D cT c pa bd a6 a7 n ro cl fb rn nd sk mo wk fx wi la da we V V2 PR i (hwf) (by omega)) gX8_swap_X8_personAt rfl pd_X8_personAt ⟨rfl, rfl, Nat.le_of_ble_eq_true rfl, Nat.le_of_ble_eq_true rfl⟩ hP hK (va_recv hK.1 hP (ci := 6) (q0 := 0) rfl rfl) hl rfl rfl (Nat.le_of_ble_eq_true rfl) ⟨Nat.zero_le _, Nat.zero_le _⟩ dX8_swap_2 ?_
  refine lv_astore (lv' := [(4, .ref (pa i)), (0, .ref (c 0)), (1, .int (nI i)), (2, .int x), (3, .int zd)]) S.1 S.2.1 dX8_swap_5 hl (by decide) rfl (fun ls hl => ?_)
  refine lv_aload_n S.1 S.2.1 dX8_swap_7 rfl (lv_at hl 1 rfl) ?_
  refine lv_iload_n S.1 S.2.1 dX8_swap_8 rfl (lv_at hl 3 rfl) ?_
  refine rd_callVz (rest := []) S (r_X8_personAt_x l D cT c pa bd a6 a7 n ro cl fb rn nd sk mo wk fx wi la da we V V2 PR x (hwf) (hx)) gX8_swap_X8_personAt rfl pd_X8_personAt ⟨rfl, rfl, Nat.le_of_ble_eq_true rfl, Nat.le_of_ble_eq_true rfl⟩ hP hK (va_recv hK.1 hP (ci := 6) (q0 := 0) rfl rfl) hl rfl rfl (Nat.le_of_ble_eq_true rfl) ⟨Nat.zero_le _, Nat.zero_le _⟩ dX8_swap_9 ?_
  refine lv_astoreN (lv' := [(5, .null), (4, .ref (pa i)), (0, .ref (c 0)), (1, .int (nI i)), (2, .int x), (3, .int zd)]) S.1 S.2.1 dX8_swap_12 hl (by decide) rfl (fun ls hl => ?_)
  refine lv_aload S.1 S.2.1 dX8_swap_14 (lv_at hl 1 rfl) ?_
  refine lv_ifnull S.1 S.2.1 dX8_swap_16 ?_
  refine lv_aloadN S.1 S.2.1 dX8_swap_19 (lv_at hl 0 rfl) ?_
  refine lv_ifnullN (tgt := 31) S.1 S.2.1 dX8_swap_21 (by decide) ?_
  exact t_throw (text := "no such person, other or day") S hflag trE_3 hsz hK hXS (by decide +kernel) ⟨w_X8_swap_0, w_X8_swap_1⟩ thw_X8_swap_82 hl.1 dX8_swap_31 dX8_swap_34 dX8_swap_35 dX8_swap_37 dX8_swap_40 htab (by decide) hlocks

set_option maxHeartbeats 4000000 in
set_option maxRecDepth 100000 in
theorem t_X8_swap_x2 (l : Launch) (D : va_G) (cT : ClassId × ClassId × ClassId) (sz : Nat) (c pa : Nat → Nat) (bd a6 a7 n ro cl fb rn : Nat) (nd sk mo wk fx wi la da we : Nat → Nat) (V V2 PR : Nat → Int64) (i j : Nat) (x : Int32) (hwf : wfC n bd fb rn nd sk mo wk fx wi la da we) (hi : i < n) (hj : j < n) (hx : PX x 7) (hflag : l.stackTraces = false) : vx_Met l yX8_swap wsX8_swap ({ frames := 6, cells := 1, slots := 6, locals := 160 } : Room) (va_Pc [.ref (c 0), .int (nI i), .int (nI j), .int x] (tr_R D (TY cT) (cX cT c a6 a7 n ro cl fb rn nd V V2 PR pa ++ pool n pa (per sk mo wk fx wi la da we)) sz)) (tr_Q sz) (tr_X "java/lang/IndexOutOfBoundsException" sz) 1 6 (fun q => sz ≤ q) := by
  refine tr_start (cc := cX8_swap) (maxL := 7) (ret := (some .int)) RX8 ⟨by decide +kernel, rfl⟩ rfl (Nat.le_of_ble_eq_true rfl) ?_
  intro p0 e0 s0 m0 a0 b0 t0 c0 S hr hlocks htab hsz hP hK hXS ls hl
  have hl : lv_has ls 7 [(0, .ref (c 0)), (1, .int (nI i)), (2, .int (nI j)), (3, .int x)] := hl
  obtain ⟨hn, hcl, hfb, hrn, hnd, hper⟩ := id hwf
  refine lv_aload_n S.1 S.2.1 dX8_swap_0 rfl (lv_at hl 0 rfl) ?_
  refine lv_iload_n S.1 S.2.1 dX8_swap_1 rfl (lv_at hl 1 rfl) ?_
  refine rd_callVr (rest := []) S (r_X8_personAt l D cT c pa bd a6 a7 n ro cl fb rn nd sk mo wk fx wi la da we V V2 PR i (hwf) (by omega)) gX8_swap_X8_personAt rfl pd_X8_personAt ⟨rfl, rfl, Nat.le_of_ble_eq_true rfl, Nat.le_of_ble_eq_true rfl⟩ hP hK (va_recv hK.1 hP (ci := 6) (q0 := 0) rfl rfl) hl rfl rfl (Nat.le_of_ble_eq_true rfl) ⟨Nat.zero_le _, Nat.zero_le _⟩ dX8_swap_2 ?_
  refine lv_astore (lv' := [(4, .ref (pa i)), (0, .ref (c 0)), (1, .int (nI i)), (2, .int (nI j)), (3, .int x)]) S.1 S.2.1 dX8_swap_5 hl (by decide) rfl (fun ls hl => ?_)
  refine lv_aload_n S.1 S.2.1 dX8_swap_7 rfl (lv_at hl 1 rfl) ?_
  refine lv_iload_n S.1 S.2.1 dX8_swap_8 rfl (lv_at hl 3 rfl) ?_
  refine rd_callVr (rest := []) S (r_X8_personAt l D cT c pa bd a6 a7 n ro cl fb rn nd sk mo wk fx wi la da we V V2 PR j (hwf) (by omega)) gX8_swap_X8_personAt rfl pd_X8_personAt ⟨rfl, rfl, Nat.le_of_ble_eq_true rfl, Nat.le_of_ble_eq_true rfl⟩ hP hK (va_recv hK.1 hP (ci := 6) (q0 := 0) rfl rfl) hl rfl rfl (Nat.le_of_ble_eq_true rfl) ⟨Nat.zero_le _, Nat.zero_le _⟩ dX8_swap_9 ?_
  refine lv_astore (lv' := [(5, .ref (pa j)), (4, .ref (pa i)), (0, .ref (c 0)), (1, .int (nI i)), (2, .int (nI j)), (3, .int x)]) S.1 S.2.1 dX8_swap_12 hl (by decide) rfl (fun ls hl => ?_)
  refine lv_aload S.1 S.2.1 dX8_swap_14 (lv_at hl 1 rfl) ?_
  refine lv_ifnull S.1 S.2.1 dX8_swap_16 ?_
  refine lv_aload S.1 S.2.1 dX8_swap_19 (lv_at hl 0 rfl) ?_
  refine lv_ifnull S.1 S.2.1 dX8_swap_21 ?_
  refine lv_iload_n S.1 S.2.1 dX8_swap_24 rfl (lv_at hl 5 rfl) ?_
  refine rd_callS (rest := []) S (r_X8_isDay_x l D cT x (hx)) gX8_swap_X8_isDay rfl pd_X8_isDay ⟨rfl, rfl, Nat.le_of_ble_eq_true rfl, Nat.le_of_ble_eq_true rfl⟩ (sx_P0 D _) hK hl rfl rfl (Nat.le_of_ble_eq_true rfl) ⟨Nat.zero_le _, Nat.zero_le _⟩ dX8_swap_25 ?_
  refine n_bne S (tgt := 41) dX8_swap_28 (by decide) (fun q => absurd q (by decide)) (fun _ => ?_)
  exact t_throw (text := "no such person, other or day") S hflag trE_3 hsz hK hXS (by decide +kernel) ⟨w_X8_swap_0, w_X8_swap_1⟩ thw_X8_swap_82 hl.1 dX8_swap_31 dX8_swap_34 dX8_swap_35 dX8_swap_37 dX8_swap_40 htab (by decide) hlocks

theorem thw_X8_swap_67 : ∀ w ∈ (vx_atS RX8 67 "java/lang/IllegalStateException" vnm).filter goodWord, w ∈ wsX8_swap := by decide +kernel
theorem w_X8_swap_2 : Cond.classLink RX8 63 "java/lang/IllegalStateException" ∈ wsX8_swap := by decide +kernel
theorem w_X8_swap_3 : Cond.initialized "java/lang/IllegalStateException" ∈ wsX8_swap := by decide +kernel
set_option maxHeartbeats 4000000 in
set_option maxRecDepth 100000 in
theorem t_X8_swap_x3 (l : Launch) (D : va_G) (cT : ClassId × ClassId × ClassId) (sz : Nat) (c pa : Nat → Nat) (bd a6 a7 n ro cl fb rn : Nat) (nd sk mo wk fx wi la da we : Nat → Nat) (V V2 PR : Nat → Int64) (i j d : Nat) (hwf : wfC n bd fb rn nd sk mo wk fx wi la da we) (hi : i < n) (hj : j < n) (hd : d < 7) (hs : (i != j && csw sk mo wk fx la da fb rn i j d) = false) (hflag : l.stackTraces = false) : vx_Met l yX8_swap wsX8_swap ({ frames := 6, cells := 1, slots := 6, locals := 160 } : Room) (va_Pc [.ref (c 0), .int (nI i), .int (nI j), .int (nI d)] (tr_R D (TY cT) (cX cT c a6 a7 n ro cl fb rn nd V V2 PR pa ++ pool n pa (per sk mo wk fx wi la da we)) sz)) (tr_Q sz) (tr_X "java/lang/IllegalStateException" sz) 1 6 (fun q => sz ≤ q) := by
  refine tr_start (cc := cX8_swap) (maxL := 7) (ret := (some .int)) RX8 ⟨by decide +kernel, rfl⟩ rfl (Nat.le_of_ble_eq_true rfl) ?_
  intro p0 e0 s0 m0 a0 b0 t0 c0 S hr hlocks htab hsz hP hK hXS ls hl
  have hl : lv_has ls 7 [(0, .ref (c 0)), (1, .int (nI i)), (2, .int (nI j)), (3, .int (nI d))] := hl
  obtain ⟨hn, hcl, hfb, hrn, hnd, hper⟩ := id hwf
  refine lv_aload_n S.1 S.2.1 dX8_swap_0 rfl (lv_at hl 0 rfl) ?_
  refine lv_iload_n S.1 S.2.1 dX8_swap_1 rfl (lv_at hl 1 rfl) ?_
  refine rd_callVr (rest := []) S (r_X8_personAt l D cT c pa bd a6 a7 n ro cl fb rn nd sk mo wk fx wi la da we V V2 PR i (hwf) (by omega)) gX8_swap_X8_personAt rfl pd_X8_personAt ⟨rfl, rfl, Nat.le_of_ble_eq_true rfl, Nat.le_of_ble_eq_true rfl⟩ hP hK (va_recv hK.1 hP (ci := 6) (q0 := 0) rfl rfl) hl rfl rfl (Nat.le_of_ble_eq_true rfl) ⟨Nat.zero_le _, Nat.zero_le _⟩ dX8_swap_2 ?_
  refine lv_astore (lv' := [(4, .ref (pa i)), (0, .ref (c 0)), (1, .int (nI i)), (2, .int (nI j)), (3, .int (nI d))]) S.1 S.2.1 dX8_swap_5 hl (by decide) rfl (fun ls hl => ?_)
  refine lv_aload_n S.1 S.2.1 dX8_swap_7 rfl (lv_at hl 1 rfl) ?_
  refine lv_iload_n S.1 S.2.1 dX8_swap_8 rfl (lv_at hl 3 rfl) ?_
  refine rd_callVr (rest := []) S (r_X8_personAt l D cT c pa bd a6 a7 n ro cl fb rn nd sk mo wk fx wi la da we V V2 PR j (hwf) (by omega)) gX8_swap_X8_personAt rfl pd_X8_personAt ⟨rfl, rfl, Nat.le_of_ble_eq_true rfl, Nat.le_of_ble_eq_true rfl⟩ hP hK (va_recv hK.1 hP (ci := 6) (q0 := 0) rfl rfl) hl rfl rfl (Nat.le_of_ble_eq_true rfl) ⟨Nat.zero_le _, Nat.zero_le _⟩ dX8_swap_9 ?_
  refine lv_astore (lv' := [(5, .ref (pa j)), (4, .ref (pa i)), (0, .ref (c 0)), (1, .int (nI i)), (2, .int (nI j)), (3, .int (nI d))]) S.1 S.2.1 dX8_swap_12 hl (by decide) rfl (fun ls hl => ?_)
  refine lv_aload S.1 S.2.1 dX8_swap_14 (lv_at hl 1 rfl) ?_
  refine lv_ifnull S.1 S.2.1 dX8_swap_16 ?_
  refine lv_aload S.1 S.2.1 dX8_swap_19 (lv_at hl 0 rfl) ?_
  refine lv_ifnull S.1 S.2.1 dX8_swap_21 ?_
  refine lv_iload_n S.1 S.2.1 dX8_swap_24 rfl (lv_at hl 5 rfl) ?_
  refine rd_callS (rest := []) S (r_X8_isDay l D cT d (by omega)) gX8_swap_X8_isDay rfl pd_X8_isDay ⟨rfl, rfl, Nat.le_of_ble_eq_true rfl, Nat.le_of_ble_eq_true rfl⟩ (sx_P0 D _) hK hl rfl rfl (Nat.le_of_ble_eq_true rfl) ⟨Nat.zero_le _, Nat.zero_le _⟩ dX8_swap_25 ?_
  refine n_bne S (tgt := 41) dX8_swap_28 (by decide) (fun _ => ?_) (fun q => absurd q (by decide))
  refine lv_aload S.1 S.2.1 dX8_swap_41 (lv_at hl 1 rfl) ?_
  refine lv_aload S.1 S.2.1 dX8_swap_43 (lv_at hl 0 rfl) ?_
  refine lv_acmp_eq (rx := some (pa i)) (ry := some (pa j)) (tgt := 60) S.1 S.2.1 dX8_swap_45 (by decide) (fun c45 => ?_) (fun c45 => ?_)
  · exact t_throw (text := "the same person, or a week would not be feasible") S hflag trE_2 hsz hK hXS (by decide +kernel) ⟨w_X8_swap_2, w_X8_swap_3⟩ thw_X8_swap_67 hl.1 dX8_swap_60 dX8_swap_63 dX8_swap_64 dX8_swap_66 dX8_swap_69 htab (by decide) hlocks
  · refine lv_aload_n S.1 S.2.1 dX8_swap_48 rfl (lv_at hl 2 rfl) ?_
    refine lv_aload S.1 S.2.1 dX8_swap_49 (lv_at hl 1 rfl) ?_
    refine lv_aload S.1 S.2.1 dX8_swap_51 (lv_at hl 0 rfl) ?_
    refine lv_iload_n S.1 S.2.1 dX8_swap_53 rfl (lv_at hl 5 rfl) ?_
    refine rd_callV (rest := []) S (r_X8_couldSwap l D cT c pa bd a6 a7 n ro cl fb rn nd sk mo wk fx wi la da we V V2 PR i j d (hwf) (by omega) (by omega) (by omega)) gX8_swap_X8_couldSwap rfl pd_X8_couldSwap ⟨rfl, rfl, Nat.le_of_ble_eq_true rfl, Nat.le_of_ble_eq_true rfl⟩ hP hK (va_recv hK.1 hP (ci := 6) (q0 := 0) rfl rfl) hl rfl rfl (Nat.le_of_ble_eq_true rfl) ⟨Nat.zero_le _, Nat.zero_le _⟩ dX8_swap_54 ?_
    refine n_bne S (tgt := 70) dX8_swap_57 (by decide) (fun c57 => ?_) (fun c57 => ?_)
    · exact absurd (show (i != j && csw sk mo wk fx la da fb rn i j d) = true by rw [c57, bne_iff_ne.mpr (fun q => c45 (by rw [q]))]; rfl) (by rw [hs]; decide)
    exact t_throw (text := "the same person, or a week would not be feasible") S hflag trE_2 hsz hK hXS (by decide +kernel) ⟨w_X8_swap_2, w_X8_swap_3⟩ thw_X8_swap_67 hl.1 dX8_swap_60 dX8_swap_63 dX8_swap_64 dX8_swap_66 dX8_swap_69 htab (by decide) hlocks

theorem thw_X8_entry_82 : ∀ w ∈ (vx_atS RX8 82 "java/lang/IndexOutOfBoundsException" vnm).filter goodWord, w ∈ wsX8_entry := by decide +kernel
theorem w_X8_entry_0 : Cond.classLink RX8 78 "java/lang/IndexOutOfBoundsException" ∈ wsX8_entry := by decide +kernel
theorem w_X8_entry_1 : Cond.initialized "java/lang/IndexOutOfBoundsException" ∈ wsX8_entry := by decide +kernel
set_option maxHeartbeats 4000000 in
set_option maxRecDepth 100000 in
theorem t_X8_entry_x0 (l : Launch) (D : va_G) (cT : ClassId × ClassId × ClassId) (sz : Nat) (c pa : Nat → Nat) (bd a6 a7 n ro cl fb rn : Nat) (nd sk mo wk fx wi la da we : Nat → Nat) (V V2 PR : Nat → Int64) (x : Int32) (zd : Int32) (hwf : wfC n bd fb rn nd sk mo wk fx wi la da we) (hx : PX x n) (hflag : l.stackTraces = false) : vx_Met l yX8_entry wsX8_entry ({ frames := 6, cells := 1, slots := 6, locals := 160 } : Room) (va_Pc [.ref (c 0), .int x, .int zd] (tr_R D (TY cT) (cX cT c a6 a7 n ro cl fb rn nd V V2 PR pa ++ pool n pa (per sk mo wk fx wi la da we)) sz)) (tr_Q sz) (tr_X "java/lang/IndexOutOfBoundsException" sz) 1 6 (fun q => sz ≤ q) := by
  refine tr_start (cc := cX8_entry) (maxL := 4) (ret := (some .int)) RX8 ⟨by decide +kernel, rfl⟩ rfl (Nat.le_of_ble_eq_true rfl) ?_
  intro p0 e0 s0 m0 a0 b0 t0 c0 S hr hlocks htab hsz hP hK hXS ls hl
  have hl : lv_has ls 4 [(0, .ref (c 0)), (1, .int x), (2, .int zd)] := hl
  obtain ⟨hn, hcl, hfb, hrn, hnd, hper⟩ := id hwf
  refine lv_aload_n S.1 S.2.1 dX8_entry_0 rfl (lv_at hl 0 rfl) ?_
  refine lv_iload_n S.1 S.2.1 dX8_entry_1 rfl (lv_at hl 1 rfl) ?_
  refine rd_callVz (rest := []) S (r_X8_personAt_x l D cT c pa bd a6 a7 n ro cl fb rn nd sk mo wk fx wi la da we V V2 PR x (hwf) (hx)) gX8_entry_X8_personAt rfl pd_X8_personAt ⟨rfl, rfl, Nat.le_of_ble_eq_true rfl, Nat.le_of_ble_eq_true rfl⟩ hP hK (va_recv hK.1 hP (ci := 6) (q0 := 0) rfl rfl) hl rfl rfl (Nat.le_of_ble_eq_true rfl) ⟨Nat.zero_le _, Nat.zero_le _⟩ dX8_entry_2 ?_
  refine lv_astore_nN (lv' := [(3, .null), (0, .ref (c 0)), (1, .int x), (2, .int zd)]) S.1 S.2.1 dX8_entry_5 rfl hl (by decide) rfl (fun ls hl => ?_)
  refine lv_aload_nN S.1 S.2.1 dX8_entry_6 rfl (lv_at hl 0 rfl) ?_
  refine lv_ifnullN (tgt := 17) S.1 S.2.1 dX8_entry_7 (by decide) ?_
  exact t_throw (text := "no such person or day") S hflag trE_3 hsz hK hXS (by decide +kernel) ⟨w_X8_entry_0, w_X8_entry_1⟩ thw_X8_entry_82 hl.1 dX8_entry_17 dX8_entry_20 dX8_entry_21 dX8_entry_23 dX8_entry_26 htab (by decide) hlocks

set_option maxHeartbeats 4000000 in
set_option maxRecDepth 100000 in
theorem t_X8_entry_x1 (l : Launch) (D : va_G) (cT : ClassId × ClassId × ClassId) (sz : Nat) (c pa : Nat → Nat) (bd a6 a7 n ro cl fb rn : Nat) (nd sk mo wk fx wi la da we : Nat → Nat) (V V2 PR : Nat → Int64) (i : Nat) (x : Int32) (hwf : wfC n bd fb rn nd sk mo wk fx wi la da we) (hi : i < n) (hx : PX x 7) (hflag : l.stackTraces = false) : vx_Met l yX8_entry wsX8_entry ({ frames := 6, cells := 1, slots := 6, locals := 160 } : Room) (va_Pc [.ref (c 0), .int (nI i), .int x] (tr_R D (TY cT) (cX cT c a6 a7 n ro cl fb rn nd V V2 PR pa ++ pool n pa (per sk mo wk fx wi la da we)) sz)) (tr_Q sz) (tr_X "java/lang/IndexOutOfBoundsException" sz) 1 6 (fun q => sz ≤ q) := by
  refine tr_start (cc := cX8_entry) (maxL := 4) (ret := (some .int)) RX8 ⟨by decide +kernel, rfl⟩ rfl (Nat.le_of_ble_eq_true rfl) ?_
  intro p0 e0 s0 m0 a0 b0 t0 c0 S hr hlocks htab hsz hP hK hXS ls hl
  have hl : lv_has ls 4 [(0, .ref (c 0)), (1, .int (nI i)), (2, .int x)] := hl
  obtain ⟨hn, hcl, hfb, hrn, hnd, hper⟩ := id hwf
  refine lv_aload_n S.1 S.2.1 dX8_entry_0 rfl (lv_at hl 0 rfl) ?_
  refine lv_iload_n S.1 S.2.1 dX8_entry_1 rfl (lv_at hl 1 rfl) ?_
  refine rd_callVr (rest := []) S (r_X8_personAt l D cT c pa bd a6 a7 n ro cl fb rn nd sk mo wk fx wi la da we V V2 PR i (hwf) (by omega)) gX8_entry_X8_personAt rfl pd_X8_personAt ⟨rfl, rfl, Nat.le_of_ble_eq_true rfl, Nat.le_of_ble_eq_true rfl⟩ hP hK (va_recv hK.1 hP (ci := 6) (q0 := 0) rfl rfl) hl rfl rfl (Nat.le_of_ble_eq_true rfl) ⟨Nat.zero_le _, Nat.zero_le _⟩ dX8_entry_2 ?_
  refine lv_astore_n (lv' := [(3, .ref (pa i)), (0, .ref (c 0)), (1, .int (nI i)), (2, .int x)]) S.1 S.2.1 dX8_entry_5 rfl hl (by decide) rfl (fun ls hl => ?_)
  refine lv_aload_n S.1 S.2.1 dX8_entry_6 rfl (lv_at hl 0 rfl) ?_
  refine lv_ifnull S.1 S.2.1 dX8_entry_7 ?_
  refine lv_iload_n S.1 S.2.1 dX8_entry_10 rfl (lv_at hl 3 rfl) ?_
  refine rd_callS (rest := []) S (r_X8_isDay_x l D cT x (hx)) gX8_entry_X8_isDay rfl pd_X8_isDay ⟨rfl, rfl, Nat.le_of_ble_eq_true rfl, Nat.le_of_ble_eq_true rfl⟩ (sx_P0 D _) hK hl rfl rfl (Nat.le_of_ble_eq_true rfl) ⟨Nat.zero_le _, Nat.zero_le _⟩ dX8_entry_11 ?_
  refine n_bne S (tgt := 27) dX8_entry_14 (by decide) (fun q => absurd q (by decide)) (fun _ => ?_)
  exact t_throw (text := "no such person or day") S hflag trE_3 hsz hK hXS (by decide +kernel) ⟨w_X8_entry_0, w_X8_entry_1⟩ thw_X8_entry_82 hl.1 dX8_entry_17 dX8_entry_20 dX8_entry_21 dX8_entry_23 dX8_entry_26 htab (by decide) hlocks

theorem thw_X8_gap_82 : ∀ w ∈ (vx_atS RX8 82 "java/lang/IndexOutOfBoundsException" vnm).filter goodWord, w ∈ wsX8_gap := by decide +kernel
theorem w_X8_gap_0 : Cond.classLink RX8 78 "java/lang/IndexOutOfBoundsException" ∈ wsX8_gap := by decide +kernel
theorem w_X8_gap_1 : Cond.initialized "java/lang/IndexOutOfBoundsException" ∈ wsX8_gap := by decide +kernel
set_option maxHeartbeats 4000000 in
set_option maxRecDepth 100000 in
theorem t_X8_gap_x0 (l : Launch) (D : va_G) (cT : ClassId × ClassId × ClassId) (sz : Nat) (c pa : Nat → Nat) (bd a6 a7 n ro cl fb rn : Nat) (nd sk mo wk fx wi la da we : Nat → Nat) (V V2 PR : Nat → Int64) (x : Int32) (ze : Int32) (hwf : wfC n bd fb rn nd sk mo wk fx wi la da we) (hx : PX x 7) (hflag : l.stackTraces = false) : vx_Met l yX8_gap wsX8_gap ({ frames := 6, cells := 1, slots := 6, locals := 160 } : Room) (va_Pc [.ref (c 0), .int x, .int ze] (tr_R D (TY cT) (cX cT c a6 a7 n ro cl fb rn nd V V2 PR pa ++ pool n pa (per sk mo wk fx wi la da we)) sz)) (tr_Q sz) (tr_X "java/lang/IndexOutOfBoundsException" sz) 1 6 (fun q => sz ≤ q) := by
  refine tr_start (cc := cX8_gap) (maxL := 3) (ret := (some .int)) RX8 ⟨by decide +kernel, rfl⟩ rfl (Nat.le_of_ble_eq_true rfl) ?_
  intro p0 e0 s0 m0 a0 b0 t0 c0 S hr hlocks htab hsz hP hK hXS ls hl
  have hl : lv_has ls 3 [(0, .ref (c 0)), (1, .int x), (2, .int ze)] := hl
  obtain ⟨hn, hcl, hfb, hrn, hnd, hper⟩ := id hwf
  refine lv_iload_n S.1 S.2.1 dX8_gap_0 rfl (lv_at hl 1 rfl) ?_
  refine rd_callS (rest := []) S (r_X8_isDay_x l D cT x (hx)) gX8_gap_X8_isDay rfl pd_X8_isDay ⟨rfl, rfl, Nat.le_of_ble_eq_true rfl, Nat.le_of_ble_eq_true rfl⟩ (sx_P0 D _) hK hl rfl rfl (Nat.le_of_ble_eq_true rfl) ⟨Nat.zero_le _, Nat.zero_le _⟩ dX8_gap_1 ?_
  refine n_beq S (tgt := 14) dX8_gap_4 (by decide) (fun _ => ?_) (fun q => absurd q (by decide))
  exact t_throw (text := "no such day or kind") S hflag trE_3 hsz hK hXS (by decide +kernel) ⟨w_X8_gap_0, w_X8_gap_1⟩ thw_X8_gap_82 hl.1 dX8_gap_14 dX8_gap_17 dX8_gap_18 dX8_gap_20 dX8_gap_23 htab (by decide) hlocks

set_option maxHeartbeats 4000000 in
set_option maxRecDepth 100000 in
theorem t_X8_gap_x1 (l : Launch) (D : va_G) (cT : ClassId × ClassId × ClassId) (sz : Nat) (c pa : Nat → Nat) (bd a6 a7 n ro cl fb rn : Nat) (nd sk mo wk fx wi la da we : Nat → Nat) (V V2 PR : Nat → Int64) (d : Nat) (x : Int32) (hwf : wfC n bd fb rn nd sk mo wk fx wi la da we) (hd : d < 7) (hx : x < nI 1 ∨ nI 3 < x) (hflag : l.stackTraces = false) : vx_Met l yX8_gap wsX8_gap ({ frames := 6, cells := 1, slots := 6, locals := 160 } : Room) (va_Pc [.ref (c 0), .int (nI d), .int x] (tr_R D (TY cT) (cX cT c a6 a7 n ro cl fb rn nd V V2 PR pa ++ pool n pa (per sk mo wk fx wi la da we)) sz)) (tr_Q sz) (tr_X "java/lang/IndexOutOfBoundsException" sz) 1 6 (fun q => sz ≤ q) := by
  refine tr_start (cc := cX8_gap) (maxL := 3) (ret := (some .int)) RX8 ⟨by decide +kernel, rfl⟩ rfl (Nat.le_of_ble_eq_true rfl) ?_
  intro p0 e0 s0 m0 a0 b0 t0 c0 S hr hlocks htab hsz hP hK hXS ls hl
  have hl : lv_has ls 3 [(0, .ref (c 0)), (1, .int (nI d)), (2, .int x)] := hl
  obtain ⟨hn, hcl, hfb, hrn, hnd, hper⟩ := id hwf
  refine lv_iload_n S.1 S.2.1 dX8_gap_0 rfl (lv_at hl 1 rfl) ?_
  refine rd_callS (rest := []) S (r_X8_isDay l D cT d (by omega)) gX8_gap_X8_isDay rfl pd_X8_isDay ⟨rfl, rfl, Nat.le_of_ble_eq_true rfl, Nat.le_of_ble_eq_true rfl⟩ (sx_P0 D _) hK hl rfl rfl (Nat.le_of_ble_eq_true rfl) ⟨Nat.zero_le _, Nat.zero_le _⟩ dX8_gap_1 ?_
  refine n_beq S (tgt := 14) dX8_gap_4 (by decide) (fun q => absurd q (by decide)) (fun _ => ?_)
  refine lv_iload_n S.1 S.2.1 dX8_gap_7 rfl (lv_at hl 2 rfl) ?_
  refine rd_callS (rest := []) S (r_X8_isKind_x l D cT x (hx)) gX8_gap_X8_isKind rfl pd_X8_isKind ⟨rfl, rfl, Nat.le_of_ble_eq_true rfl, Nat.le_of_ble_eq_true rfl⟩ (sx_P0 D _) hK hl rfl rfl (Nat.le_of_ble_eq_true rfl) ⟨Nat.zero_le _, Nat.zero_le _⟩ dX8_gap_8 ?_
  refine n_bne S (tgt := 24) dX8_gap_11 (by decide) (fun q => absurd q (by decide)) (fun _ => ?_)
  exact t_throw (text := "no such day or kind") S hflag trE_3 hsz hK hXS (by decide +kernel) ⟨w_X8_gap_0, w_X8_gap_1⟩ thw_X8_gap_82 hl.1 dX8_gap_14 dX8_gap_17 dX8_gap_18 dX8_gap_20 dX8_gap_23 htab (by decide) hlocks

theorem thw_X8_shifts_82 : ∀ w ∈ (vx_atS RX8 82 "java/lang/IndexOutOfBoundsException" vnm).filter goodWord, w ∈ wsX8_shifts := by decide +kernel
theorem w_X8_shifts_0 : Cond.classLink RX8 78 "java/lang/IndexOutOfBoundsException" ∈ wsX8_shifts := by decide +kernel
theorem w_X8_shifts_1 : Cond.initialized "java/lang/IndexOutOfBoundsException" ∈ wsX8_shifts := by decide +kernel
set_option maxHeartbeats 4000000 in
set_option maxRecDepth 100000 in
theorem t_X8_shifts_x0 (l : Launch) (D : va_G) (cT : ClassId × ClassId × ClassId) (sz : Nat) (c pa : Nat → Nat) (bd a6 a7 n ro cl fb rn : Nat) (nd sk mo wk fx wi la da we : Nat → Nat) (V V2 PR : Nat → Int64) (x : Int32) (hwf : wfC n bd fb rn nd sk mo wk fx wi la da we) (hx : PX x n) (hflag : l.stackTraces = false) : vx_Met l yX8_shifts wsX8_shifts ({ frames := 6, cells := 1, slots := 6, locals := 160 } : Room) (va_Pc [.ref (c 0), .int x] (tr_R D (TY cT) (cX cT c a6 a7 n ro cl fb rn nd V V2 PR pa ++ pool n pa (per sk mo wk fx wi la da we)) sz)) (tr_Q sz) (tr_X "java/lang/IndexOutOfBoundsException" sz) 1 6 (fun q => sz ≤ q) := by
  refine tr_start (cc := cX8_shifts) (maxL := 3) (ret := (some .int)) RX8 ⟨by decide +kernel, rfl⟩ rfl (Nat.le_of_ble_eq_true rfl) ?_
  intro p0 e0 s0 m0 a0 b0 t0 c0 S hr hlocks htab hsz hP hK hXS ls hl
  have hl : lv_has ls 3 [(0, .ref (c 0)), (1, .int x)] := hl
  obtain ⟨hn, hcl, hfb, hrn, hnd, hper⟩ := id hwf
  refine lv_aload_n S.1 S.2.1 dX8_shifts_0 rfl (lv_at hl 0 rfl) ?_
  refine lv_iload_n S.1 S.2.1 dX8_shifts_1 rfl (lv_at hl 1 rfl) ?_
  refine rd_callVz (rest := []) S (r_X8_personAt_x l D cT c pa bd a6 a7 n ro cl fb rn nd sk mo wk fx wi la da we V V2 PR x (hwf) (hx)) gX8_shifts_X8_personAt rfl pd_X8_personAt ⟨rfl, rfl, Nat.le_of_ble_eq_true rfl, Nat.le_of_ble_eq_true rfl⟩ hP hK (va_recv hK.1 hP (ci := 6) (q0 := 0) rfl rfl) hl rfl rfl (Nat.le_of_ble_eq_true rfl) ⟨Nat.zero_le _, Nat.zero_le _⟩ dX8_shifts_2 ?_
  refine lv_astore_nN (lv' := [(2, .null), (0, .ref (c 0)), (1, .int x)]) S.1 S.2.1 dX8_shifts_5 rfl hl (by decide) rfl (fun ls hl => ?_)
  refine lv_aload_nN S.1 S.2.1 dX8_shifts_6 rfl (lv_at hl 0 rfl) ?_
  refine lv_ifnonnullN S.1 S.2.1 dX8_shifts_7 ?_
  exact t_throw (text := "no such person") S hflag trE_3 hsz hK hXS (by decide +kernel) ⟨w_X8_shifts_0, w_X8_shifts_1⟩ thw_X8_shifts_82 hl.1 dX8_shifts_10 dX8_shifts_13 dX8_shifts_14 dX8_shifts_16 dX8_shifts_19 htab (by decide) hlocks

theorem thw_X8_weekends_82 : ∀ w ∈ (vx_atS RX8 82 "java/lang/IndexOutOfBoundsException" vnm).filter goodWord, w ∈ wsX8_weekends := by decide +kernel
theorem w_X8_weekends_0 : Cond.classLink RX8 78 "java/lang/IndexOutOfBoundsException" ∈ wsX8_weekends := by decide +kernel
theorem w_X8_weekends_1 : Cond.initialized "java/lang/IndexOutOfBoundsException" ∈ wsX8_weekends := by decide +kernel
set_option maxHeartbeats 4000000 in
set_option maxRecDepth 100000 in
theorem t_X8_weekends_x0 (l : Launch) (D : va_G) (cT : ClassId × ClassId × ClassId) (sz : Nat) (c pa : Nat → Nat) (bd a6 a7 n ro cl fb rn : Nat) (nd sk mo wk fx wi la da we : Nat → Nat) (V V2 PR : Nat → Int64) (x : Int32) (hwf : wfC n bd fb rn nd sk mo wk fx wi la da we) (hx : PX x n) (hflag : l.stackTraces = false) : vx_Met l yX8_weekends wsX8_weekends ({ frames := 6, cells := 1, slots := 6, locals := 160 } : Room) (va_Pc [.ref (c 0), .int x] (tr_R D (TY cT) (cX cT c a6 a7 n ro cl fb rn nd V V2 PR pa ++ pool n pa (per sk mo wk fx wi la da we)) sz)) (tr_Q sz) (tr_X "java/lang/IndexOutOfBoundsException" sz) 1 6 (fun q => sz ≤ q) := by
  refine tr_start (cc := cX8_weekends) (maxL := 3) (ret := (some .int)) RX8 ⟨by decide +kernel, rfl⟩ rfl (Nat.le_of_ble_eq_true rfl) ?_
  intro p0 e0 s0 m0 a0 b0 t0 c0 S hr hlocks htab hsz hP hK hXS ls hl
  have hl : lv_has ls 3 [(0, .ref (c 0)), (1, .int x)] := hl
  obtain ⟨hn, hcl, hfb, hrn, hnd, hper⟩ := id hwf
  refine lv_aload_n S.1 S.2.1 dX8_weekends_0 rfl (lv_at hl 0 rfl) ?_
  refine lv_iload_n S.1 S.2.1 dX8_weekends_1 rfl (lv_at hl 1 rfl) ?_
  refine rd_callVz (rest := []) S (r_X8_personAt_x l D cT c pa bd a6 a7 n ro cl fb rn nd sk mo wk fx wi la da we V V2 PR x (hwf) (hx)) gX8_weekends_X8_personAt rfl pd_X8_personAt ⟨rfl, rfl, Nat.le_of_ble_eq_true rfl, Nat.le_of_ble_eq_true rfl⟩ hP hK (va_recv hK.1 hP (ci := 6) (q0 := 0) rfl rfl) hl rfl rfl (Nat.le_of_ble_eq_true rfl) ⟨Nat.zero_le _, Nat.zero_le _⟩ dX8_weekends_2 ?_
  refine lv_astore_nN (lv' := [(2, .null), (0, .ref (c 0)), (1, .int x)]) S.1 S.2.1 dX8_weekends_5 rfl hl (by decide) rfl (fun ls hl => ?_)
  refine lv_aload_nN S.1 S.2.1 dX8_weekends_6 rfl (lv_at hl 0 rfl) ?_
  refine lv_ifnonnullN S.1 S.2.1 dX8_weekends_7 ?_
  exact t_throw (text := "no such person") S hflag trE_3 hsz hK hXS (by decide +kernel) ⟨w_X8_weekends_0, w_X8_weekends_1⟩ thw_X8_weekends_82 hl.1 dX8_weekends_10 dX8_weekends_13 dX8_weekends_14 dX8_weekends_16 dX8_weekends_19 htab (by decide) hlocks

theorem thw_X8_broken_82 : ∀ w ∈ (vx_atS RX8 82 "java/lang/IndexOutOfBoundsException" vnm).filter goodWord, w ∈ wsX8_broken := by decide +kernel
theorem w_X8_broken_0 : Cond.classLink RX8 78 "java/lang/IndexOutOfBoundsException" ∈ wsX8_broken := by decide +kernel
theorem w_X8_broken_1 : Cond.initialized "java/lang/IndexOutOfBoundsException" ∈ wsX8_broken := by decide +kernel
set_option maxHeartbeats 4000000 in
set_option maxRecDepth 100000 in
theorem t_X8_broken_x0 (l : Launch) (D : va_G) (cT : ClassId × ClassId × ClassId) (sz : Nat) (c pa : Nat → Nat) (bd a6 a7 n ro cl fb rn : Nat) (nd sk mo wk fx wi la da we : Nat → Nat) (V V2 PR : Nat → Int64) (x : Int32) (hwf : wfC n bd fb rn nd sk mo wk fx wi la da we) (hx : PX x n) (hflag : l.stackTraces = false) : vx_Met l yX8_broken wsX8_broken ({ frames := 6, cells := 1, slots := 6, locals := 160 } : Room) (va_Pc [.ref (c 0), .int x] (tr_R D (TY cT) (cX cT c a6 a7 n ro cl fb rn nd V V2 PR pa ++ pool n pa (per sk mo wk fx wi la da we)) sz)) (tr_Q sz) (tr_X "java/lang/IndexOutOfBoundsException" sz) 1 6 (fun q => sz ≤ q) := by
  refine tr_start (cc := cX8_broken) (maxL := 3) (ret := (some .int)) RX8 ⟨by decide +kernel, rfl⟩ rfl (Nat.le_of_ble_eq_true rfl) ?_
  intro p0 e0 s0 m0 a0 b0 t0 c0 S hr hlocks htab hsz hP hK hXS ls hl
  have hl : lv_has ls 3 [(0, .ref (c 0)), (1, .int x)] := hl
  obtain ⟨hn, hcl, hfb, hrn, hnd, hper⟩ := id hwf
  refine lv_aload_n S.1 S.2.1 dX8_broken_0 rfl (lv_at hl 0 rfl) ?_
  refine lv_iload_n S.1 S.2.1 dX8_broken_1 rfl (lv_at hl 1 rfl) ?_
  refine rd_callVz (rest := []) S (r_X8_personAt_x l D cT c pa bd a6 a7 n ro cl fb rn nd sk mo wk fx wi la da we V V2 PR x (hwf) (hx)) gX8_broken_X8_personAt rfl pd_X8_personAt ⟨rfl, rfl, Nat.le_of_ble_eq_true rfl, Nat.le_of_ble_eq_true rfl⟩ hP hK (va_recv hK.1 hP (ci := 6) (q0 := 0) rfl rfl) hl rfl rfl (Nat.le_of_ble_eq_true rfl) ⟨Nat.zero_le _, Nat.zero_le _⟩ dX8_broken_2 ?_
  refine lv_astore_nN (lv' := [(2, .null), (0, .ref (c 0)), (1, .int x)]) S.1 S.2.1 dX8_broken_5 rfl hl (by decide) rfl (fun ls hl => ?_)
  refine lv_aload_nN S.1 S.2.1 dX8_broken_6 rfl (lv_at hl 0 rfl) ?_
  refine lv_ifnonnullN S.1 S.2.1 dX8_broken_7 ?_
  exact t_throw (text := "no such person") S hflag trE_3 hsz hK hXS (by decide +kernel) ⟨w_X8_broken_0, w_X8_broken_1⟩ thw_X8_broken_82 hl.1 dX8_broken_10 dX8_broken_13 dX8_broken_14 dX8_broken_16 dX8_broken_19 htab (by decide) hlocks

theorem thw_X8_runBefore_82 : ∀ w ∈ (vx_atS RX8 82 "java/lang/IndexOutOfBoundsException" vnm).filter goodWord, w ∈ wsX8_runBefore := by decide +kernel
theorem w_X8_runBefore_0 : Cond.classLink RX8 78 "java/lang/IndexOutOfBoundsException" ∈ wsX8_runBefore := by decide +kernel
theorem w_X8_runBefore_1 : Cond.initialized "java/lang/IndexOutOfBoundsException" ∈ wsX8_runBefore := by decide +kernel
set_option maxHeartbeats 4000000 in
set_option maxRecDepth 100000 in
theorem t_X8_runBefore_x0 (l : Launch) (D : va_G) (cT : ClassId × ClassId × ClassId) (sz : Nat) (c pa : Nat → Nat) (bd a6 a7 n ro cl fb rn : Nat) (nd sk mo wk fx wi la da we : Nat → Nat) (V V2 PR : Nat → Int64) (x : Int32) (hwf : wfC n bd fb rn nd sk mo wk fx wi la da we) (hx : PX x n) (hflag : l.stackTraces = false) : vx_Met l yX8_runBefore wsX8_runBefore ({ frames := 6, cells := 1, slots := 6, locals := 160 } : Room) (va_Pc [.ref (c 0), .int x] (tr_R D (TY cT) (cX cT c a6 a7 n ro cl fb rn nd V V2 PR pa ++ pool n pa (per sk mo wk fx wi la da we)) sz)) (tr_Q sz) (tr_X "java/lang/IndexOutOfBoundsException" sz) 1 6 (fun q => sz ≤ q) := by
  refine tr_start (cc := cX8_runBefore) (maxL := 3) (ret := (some .int)) RX8 ⟨by decide +kernel, rfl⟩ rfl (Nat.le_of_ble_eq_true rfl) ?_
  intro p0 e0 s0 m0 a0 b0 t0 c0 S hr hlocks htab hsz hP hK hXS ls hl
  have hl : lv_has ls 3 [(0, .ref (c 0)), (1, .int x)] := hl
  obtain ⟨hn, hcl, hfb, hrn, hnd, hper⟩ := id hwf
  refine lv_aload_n S.1 S.2.1 dX8_runBefore_0 rfl (lv_at hl 0 rfl) ?_
  refine lv_iload_n S.1 S.2.1 dX8_runBefore_1 rfl (lv_at hl 1 rfl) ?_
  refine rd_callVz (rest := []) S (r_X8_personAt_x l D cT c pa bd a6 a7 n ro cl fb rn nd sk mo wk fx wi la da we V V2 PR x (hwf) (hx)) gX8_runBefore_X8_personAt rfl pd_X8_personAt ⟨rfl, rfl, Nat.le_of_ble_eq_true rfl, Nat.le_of_ble_eq_true rfl⟩ hP hK (va_recv hK.1 hP (ci := 6) (q0 := 0) rfl rfl) hl rfl rfl (Nat.le_of_ble_eq_true rfl) ⟨Nat.zero_le _, Nat.zero_le _⟩ dX8_runBefore_2 ?_
  refine lv_astore_nN (lv' := [(2, .null), (0, .ref (c 0)), (1, .int x)]) S.1 S.2.1 dX8_runBefore_5 rfl hl (by decide) rfl (fun ls hl => ?_)
  refine lv_aload_nN S.1 S.2.1 dX8_runBefore_6 rfl (lv_at hl 0 rfl) ?_
  refine lv_ifnonnullN S.1 S.2.1 dX8_runBefore_7 ?_
  exact t_throw (text := "no such person") S hflag trE_3 hsz hK hXS (by decide +kernel) ⟨w_X8_runBefore_0, w_X8_runBefore_1⟩ thw_X8_runBefore_82 hl.1 dX8_runBefore_10 dX8_runBefore_13 dX8_runBefore_14 dX8_runBefore_16 dX8_runBefore_19 htab (by decide) hlocks

theorem thw_X8_isFeasible_82 : ∀ w ∈ (vx_atS RX8 82 "java/lang/IndexOutOfBoundsException" vnm).filter goodWord, w ∈ wsX8_isFeasible := by decide +kernel
theorem w_X8_isFeasible_1 : Cond.classLink RX8 78 "java/lang/IndexOutOfBoundsException" ∈ wsX8_isFeasible := by decide +kernel
theorem w_X8_isFeasible_2 : Cond.initialized "java/lang/IndexOutOfBoundsException" ∈ wsX8_isFeasible := by decide +kernel
set_option maxHeartbeats 4000000 in
set_option maxRecDepth 100000 in
theorem t_X8_isFeasible_x0 (l : Launch) (D : va_G) (cT : ClassId × ClassId × ClassId) (sz : Nat) (c pa : Nat → Nat) (bd a6 a7 n ro cl fb rn : Nat) (nd sk mo wk fx wi la da we : Nat → Nat) (V V2 PR : Nat → Int64) (x : Int32) (hwf : wfC n bd fb rn nd sk mo wk fx wi la da we) (hx : PX x n) (hflag : l.stackTraces = false) : vx_Met l yX8_isFeasible wsX8_isFeasible ({ frames := 6, cells := 1, slots := 6, locals := 160 } : Room) (va_Pc [.ref (c 0), .int x] (tr_R D (TY cT) (cX cT c a6 a7 n ro cl fb rn nd V V2 PR pa ++ pool n pa (per sk mo wk fx wi la da we)) sz)) (tr_Q sz) (tr_X "java/lang/IndexOutOfBoundsException" sz) 1 6 (fun q => sz ≤ q) := by
  refine tr_start (cc := cX8_isFeasible) (maxL := 3) (ret := (some .boolean)) RX8 ⟨by decide +kernel, rfl⟩ rfl (Nat.le_of_ble_eq_true rfl) ?_
  intro p0 e0 s0 m0 a0 b0 t0 c0 S hr hlocks htab hsz hP hK hXS ls hl
  have hl : lv_has ls 3 [(0, .ref (c 0)), (1, .int x)] := hl
  obtain ⟨hn, hcl, hfb, hrn, hnd, hper⟩ := id hwf
  refine lv_aload_n S.1 S.2.1 dX8_isFeasible_0 rfl (lv_at hl 0 rfl) ?_
  refine lv_iload_n S.1 S.2.1 dX8_isFeasible_1 rfl (lv_at hl 1 rfl) ?_
  refine rd_callVz (rest := []) S (r_X8_personAt_x l D cT c pa bd a6 a7 n ro cl fb rn nd sk mo wk fx wi la da we V V2 PR x (hwf) (hx)) gX8_isFeasible_X8_personAt rfl pd_X8_personAt ⟨rfl, rfl, Nat.le_of_ble_eq_true rfl, Nat.le_of_ble_eq_true rfl⟩ hP hK (va_recv hK.1 hP (ci := 6) (q0 := 0) rfl rfl) hl rfl rfl (Nat.le_of_ble_eq_true rfl) ⟨Nat.zero_le _, Nat.zero_le _⟩ dX8_isFeasible_2 ?_
  refine lv_astore_nN (lv' := [(2, .null), (0, .ref (c 0)), (1, .int x)]) S.1 S.2.1 dX8_isFeasible_5 rfl hl (by decide) rfl (fun ls hl => ?_)
  refine lv_aload_nN S.1 S.2.1 dX8_isFeasible_6 rfl (lv_at hl 0 rfl) ?_
  refine lv_ifnonnullN S.1 S.2.1 dX8_isFeasible_7 ?_
  exact t_throw (text := "no such person") S hflag trE_3 hsz hK hXS (by decide +kernel) ⟨w_X8_isFeasible_1, w_X8_isFeasible_2⟩ thw_X8_isFeasible_82 hl.1 dX8_isFeasible_10 dX8_isFeasible_13 dX8_isFeasible_14 dX8_isFeasible_16 dX8_isFeasible_19 htab (by decide) hlocks

theorem thw_X8_weeks_82 : ∀ w ∈ (vx_atS RX8 82 "java/lang/IndexOutOfBoundsException" vnm).filter goodWord, w ∈ wsX8_weeks := by decide +kernel
theorem w_X8_weeks_1 : Cond.classLink RX8 78 "java/lang/IndexOutOfBoundsException" ∈ wsX8_weeks := by decide +kernel
theorem w_X8_weeks_2 : Cond.initialized "java/lang/IndexOutOfBoundsException" ∈ wsX8_weeks := by decide +kernel
set_option maxHeartbeats 4000000 in
set_option maxRecDepth 100000 in
theorem t_X8_weeks_x0 (l : Launch) (D : va_G) (cT : ClassId × ClassId × ClassId) (sz : Nat) (c pa : Nat → Nat) (bd a6 a7 n ro cl fb rn : Nat) (nd sk mo wk fx wi la da we : Nat → Nat) (V V2 PR : Nat → Int64) (x : Int32) (hwf : wfC n bd fb rn nd sk mo wk fx wi la da we) (hx : PX x n) (hflag : l.stackTraces = false) : vx_Met l yX8_weeks wsX8_weeks ({ frames := 6, cells := 1, slots := 6, locals := 160 } : Room) (va_Pc [.ref (c 0), .int x] (tr_R D (TY cT) (cX cT c a6 a7 n ro cl fb rn nd V V2 PR pa ++ pool n pa (per sk mo wk fx wi la da we)) sz)) (tr_Q sz) (tr_X "java/lang/IndexOutOfBoundsException" sz) 1 6 (fun q => sz ≤ q) := by
  refine tr_start (cc := cX8_weeks) (maxL := 5) (ret := (some .int)) RX8 ⟨by decide +kernel, rfl⟩ rfl (Nat.le_of_ble_eq_true rfl) ?_
  intro p0 e0 s0 m0 a0 b0 t0 c0 S hr hlocks htab hsz hP hK hXS ls hl
  have hl : lv_has ls 5 [(0, .ref (c 0)), (1, .int x)] := hl
  obtain ⟨hn, hcl, hfb, hrn, hnd, hper⟩ := id hwf
  refine lv_aload_n S.1 S.2.1 dX8_weeks_0 rfl (lv_at hl 0 rfl) ?_
  refine lv_iload_n S.1 S.2.1 dX8_weeks_1 rfl (lv_at hl 1 rfl) ?_
  refine rd_callVz (rest := []) S (r_X8_personAt_x l D cT c pa bd a6 a7 n ro cl fb rn nd sk mo wk fx wi la da we V V2 PR x (hwf) (hx)) gX8_weeks_X8_personAt rfl pd_X8_personAt ⟨rfl, rfl, Nat.le_of_ble_eq_true rfl, Nat.le_of_ble_eq_true rfl⟩ hP hK (va_recv hK.1 hP (ci := 6) (q0 := 0) rfl rfl) hl rfl rfl (Nat.le_of_ble_eq_true rfl) ⟨Nat.zero_le _, Nat.zero_le _⟩ dX8_weeks_2 ?_
  refine lv_astore_nN (lv' := [(2, .null), (0, .ref (c 0)), (1, .int x)]) S.1 S.2.1 dX8_weeks_5 rfl hl (by decide) rfl (fun ls hl => ?_)
  refine lv_aload_nN S.1 S.2.1 dX8_weeks_6 rfl (lv_at hl 0 rfl) ?_
  refine lv_ifnonnullN S.1 S.2.1 dX8_weeks_7 ?_
  exact t_throw (text := "no such person") S hflag trE_3 hsz hK hXS (by decide +kernel) ⟨w_X8_weeks_1, w_X8_weeks_2⟩ thw_X8_weeks_82 hl.1 dX8_weeks_10 dX8_weeks_13 dX8_weeks_14 dX8_weeks_16 dX8_weeks_19 htab (by decide) hlocks

theorem thw_X8_weeksByDays_82 : ∀ w ∈ (vx_atS RX8 82 "java/lang/IndexOutOfBoundsException" vnm).filter goodWord, w ∈ wsX8_weeksByDays := by decide +kernel
theorem w_X8_weeksByDays_3 : Cond.classLink RX8 78 "java/lang/IndexOutOfBoundsException" ∈ wsX8_weeksByDays := by decide +kernel
theorem w_X8_weeksByDays_4 : Cond.initialized "java/lang/IndexOutOfBoundsException" ∈ wsX8_weeksByDays := by decide +kernel
set_option maxHeartbeats 4000000 in
set_option maxRecDepth 100000 in
theorem t_X8_weeksByDays_x0 (l : Launch) (D : va_G) (cT : ClassId × ClassId × ClassId) (sz : Nat) (c pa : Nat → Nat) (bd a6 a7 n ro cl fb rn : Nat) (nd sk mo wk fx wi la da we : Nat → Nat) (V V2 PR : Nat → Int64) (x : Int32) (hwf : wfC n bd fb rn nd sk mo wk fx wi la da we) (hx : PX x n) (hflag : l.stackTraces = false) : vx_Met l yX8_weeksByDays wsX8_weeksByDays ({ frames := 6, cells := 1, slots := 6, locals := 160 } : Room) (va_Pc [.ref (c 0), .int x] (tr_R D (TY cT) (cX cT c a6 a7 n ro cl fb rn nd V V2 PR pa ++ pool n pa (per sk mo wk fx wi la da we)) sz)) (tr_Q sz) (tr_X "java/lang/IndexOutOfBoundsException" sz) 1 6 (fun q => sz ≤ q) := by
  refine tr_start (cc := cX8_weeksByDays) (maxL := 3) (ret := (some .int)) RX8 ⟨by decide +kernel, rfl⟩ rfl (Nat.le_of_ble_eq_true rfl) ?_
  intro p0 e0 s0 m0 a0 b0 t0 c0 S hr hlocks htab hsz hP hK hXS ls hl
  have hl : lv_has ls 3 [(0, .ref (c 0)), (1, .int x)] := hl
  obtain ⟨hn, hcl, hfb, hrn, hnd, hper⟩ := id hwf
  refine lv_aload_n S.1 S.2.1 dX8_weeksByDays_0 rfl (lv_at hl 0 rfl) ?_
  refine lv_iload_n S.1 S.2.1 dX8_weeksByDays_1 rfl (lv_at hl 1 rfl) ?_
  refine rd_callVz (rest := []) S (r_X8_personAt_x l D cT c pa bd a6 a7 n ro cl fb rn nd sk mo wk fx wi la da we V V2 PR x (hwf) (hx)) gX8_weeksByDays_X8_personAt rfl pd_X8_personAt ⟨rfl, rfl, Nat.le_of_ble_eq_true rfl, Nat.le_of_ble_eq_true rfl⟩ hP hK (va_recv hK.1 hP (ci := 6) (q0 := 0) rfl rfl) hl rfl rfl (Nat.le_of_ble_eq_true rfl) ⟨Nat.zero_le _, Nat.zero_le _⟩ dX8_weeksByDays_2 ?_
  refine lv_astore_nN (lv' := [(2, .null), (0, .ref (c 0)), (1, .int x)]) S.1 S.2.1 dX8_weeksByDays_5 rfl hl (by decide) rfl (fun ls hl => ?_)
  refine lv_aload_nN S.1 S.2.1 dX8_weeksByDays_6 rfl (lv_at hl 0 rfl) ?_
  refine lv_ifnonnullN S.1 S.2.1 dX8_weeksByDays_7 ?_
  exact t_throw (text := "no such person") S hflag trE_3 hsz hK hXS (by decide +kernel) ⟨w_X8_weeksByDays_3, w_X8_weeksByDays_4⟩ thw_X8_weeksByDays_82 hl.1 dX8_weeksByDays_10 dX8_weeksByDays_13 dX8_weeksByDays_14 dX8_weeksByDays_16 dX8_weeksByDays_19 htab (by decide) hlocks

theorem thw_X8_couldTake_82 : ∀ w ∈ (vx_atS RX8 82 "java/lang/IndexOutOfBoundsException" vnm).filter goodWord, w ∈ wsX8_couldTake := by decide +kernel
theorem w_X8_couldTake_2 : Cond.classLink RX8 78 "java/lang/IndexOutOfBoundsException" ∈ wsX8_couldTake := by decide +kernel
theorem w_X8_couldTake_3 : Cond.initialized "java/lang/IndexOutOfBoundsException" ∈ wsX8_couldTake := by decide +kernel
set_option maxHeartbeats 4000000 in
set_option maxRecDepth 100000 in
theorem t_X8_couldTake_x0 (l : Launch) (D : va_G) (cT : ClassId × ClassId × ClassId) (sz : Nat) (c pa : Nat → Nat) (bd a6 a7 n ro cl fb rn : Nat) (nd sk mo wk fx wi la da we : Nat → Nat) (V V2 PR : Nat → Int64) (x : Int32) (ze : Int32) (hwf : wfC n bd fb rn nd sk mo wk fx wi la da we) (hx : PX x 7) (hflag : l.stackTraces = false) : vx_Met l yX8_couldTake wsX8_couldTake ({ frames := 6, cells := 1, slots := 6, locals := 160 } : Room) (va_Pc [.ref (c 0), .int x, .int ze] (tr_R D (TY cT) (cX cT c a6 a7 n ro cl fb rn nd V V2 PR pa ++ pool n pa (per sk mo wk fx wi la da we)) sz)) (tr_Q sz) (tr_X "java/lang/IndexOutOfBoundsException" sz) 1 6 (fun q => sz ≤ q) := by
  refine tr_start (cc := cX8_couldTake) (maxL := 6) (ret := (some .int)) RX8 ⟨by decide +kernel, rfl⟩ rfl (Nat.le_of_ble_eq_true rfl) ?_
  intro p0 e0 s0 m0 a0 b0 t0 c0 S hr hlocks htab hsz hP hK hXS ls hl
  have hl : lv_has ls 6 [(0, .ref (c 0)), (1, .int x), (2, .int ze)] := hl
  obtain ⟨hn, hcl, hfb, hrn, hnd, hper⟩ := id hwf
  refine lv_iload_n S.1 S.2.1 dX8_couldTake_0 rfl (lv_at hl 1 rfl) ?_
  refine rd_callS (rest := []) S (r_X8_isDay_x l D cT x (hx)) gX8_couldTake_X8_isDay rfl pd_X8_isDay ⟨rfl, rfl, Nat.le_of_ble_eq_true rfl, Nat.le_of_ble_eq_true rfl⟩ (sx_P0 D _) hK hl rfl rfl (Nat.le_of_ble_eq_true rfl) ⟨Nat.zero_le _, Nat.zero_le _⟩ dX8_couldTake_1 ?_
  refine n_beq S (tgt := 14) dX8_couldTake_4 (by decide) (fun _ => ?_) (fun q => absurd q (by decide))
  exact t_throw (text := "no such day or kind") S hflag trE_3 hsz hK hXS (by decide +kernel) ⟨w_X8_couldTake_2, w_X8_couldTake_3⟩ thw_X8_couldTake_82 hl.1 dX8_couldTake_14 dX8_couldTake_17 dX8_couldTake_18 dX8_couldTake_20 dX8_couldTake_23 htab (by decide) hlocks

set_option maxHeartbeats 4000000 in
set_option maxRecDepth 100000 in
theorem t_X8_couldTake_x1 (l : Launch) (D : va_G) (cT : ClassId × ClassId × ClassId) (sz : Nat) (c pa : Nat → Nat) (bd a6 a7 n ro cl fb rn : Nat) (nd sk mo wk fx wi la da we : Nat → Nat) (V V2 PR : Nat → Int64) (d : Nat) (x : Int32) (hwf : wfC n bd fb rn nd sk mo wk fx wi la da we) (hd : d < 7) (hx : x < nI 1 ∨ nI 3 < x) (hflag : l.stackTraces = false) : vx_Met l yX8_couldTake wsX8_couldTake ({ frames := 6, cells := 1, slots := 6, locals := 160 } : Room) (va_Pc [.ref (c 0), .int (nI d), .int x] (tr_R D (TY cT) (cX cT c a6 a7 n ro cl fb rn nd V V2 PR pa ++ pool n pa (per sk mo wk fx wi la da we)) sz)) (tr_Q sz) (tr_X "java/lang/IndexOutOfBoundsException" sz) 1 6 (fun q => sz ≤ q) := by
  refine tr_start (cc := cX8_couldTake) (maxL := 6) (ret := (some .int)) RX8 ⟨by decide +kernel, rfl⟩ rfl (Nat.le_of_ble_eq_true rfl) ?_
  intro p0 e0 s0 m0 a0 b0 t0 c0 S hr hlocks htab hsz hP hK hXS ls hl
  have hl : lv_has ls 6 [(0, .ref (c 0)), (1, .int (nI d)), (2, .int x)] := hl
  obtain ⟨hn, hcl, hfb, hrn, hnd, hper⟩ := id hwf
  refine lv_iload_n S.1 S.2.1 dX8_couldTake_0 rfl (lv_at hl 1 rfl) ?_
  refine rd_callS (rest := []) S (r_X8_isDay l D cT d (by omega)) gX8_couldTake_X8_isDay rfl pd_X8_isDay ⟨rfl, rfl, Nat.le_of_ble_eq_true rfl, Nat.le_of_ble_eq_true rfl⟩ (sx_P0 D _) hK hl rfl rfl (Nat.le_of_ble_eq_true rfl) ⟨Nat.zero_le _, Nat.zero_le _⟩ dX8_couldTake_1 ?_
  refine n_beq S (tgt := 14) dX8_couldTake_4 (by decide) (fun q => absurd q (by decide)) (fun _ => ?_)
  refine lv_iload_n S.1 S.2.1 dX8_couldTake_7 rfl (lv_at hl 2 rfl) ?_
  refine rd_callS (rest := []) S (r_X8_isKind_x l D cT x (hx)) gX8_couldTake_X8_isKind rfl pd_X8_isKind ⟨rfl, rfl, Nat.le_of_ble_eq_true rfl, Nat.le_of_ble_eq_true rfl⟩ (sx_P0 D _) hK hl rfl rfl (Nat.le_of_ble_eq_true rfl) ⟨Nat.zero_le _, Nat.zero_le _⟩ dX8_couldTake_8 ?_
  refine n_bne S (tgt := 24) dX8_couldTake_11 (by decide) (fun q => absurd q (by decide)) (fun _ => ?_)
  exact t_throw (text := "no such day or kind") S hflag trE_3 hsz hK hXS (by decide +kernel) ⟨w_X8_couldTake_2, w_X8_couldTake_3⟩ thw_X8_couldTake_82 hl.1 dX8_couldTake_14 dX8_couldTake_17 dX8_couldTake_18 dX8_couldTake_20 dX8_couldTake_23 htab (by decide) hlocks

theorem thw_X8_swapFor_82 : ∀ w ∈ (vx_atS RX8 82 "java/lang/IndexOutOfBoundsException" vnm).filter goodWord, w ∈ wsX8_swapFor := by decide +kernel
theorem w_X8_swapFor_1 : Cond.classLink RX8 78 "java/lang/IndexOutOfBoundsException" ∈ wsX8_swapFor := by decide +kernel
theorem w_X8_swapFor_2 : Cond.initialized "java/lang/IndexOutOfBoundsException" ∈ wsX8_swapFor := by decide +kernel
set_option maxHeartbeats 4000000 in
set_option maxRecDepth 100000 in
theorem t_X8_swapFor_x0 (l : Launch) (D : va_G) (cT : ClassId × ClassId × ClassId) (sz : Nat) (c pa : Nat → Nat) (bd a6 a7 n ro cl fb rn : Nat) (nd sk mo wk fx wi la da we : Nat → Nat) (V V2 PR : Nat → Int64) (x : Int32) (zd : Int32) (hwf : wfC n bd fb rn nd sk mo wk fx wi la da we) (hx : PX x n) (hflag : l.stackTraces = false) : vx_Met l yX8_swapFor wsX8_swapFor ({ frames := 6, cells := 1, slots := 6, locals := 160 } : Room) (va_Pc [.ref (c 0), .int x, .int zd] (tr_R D (TY cT) (cX cT c a6 a7 n ro cl fb rn nd V V2 PR pa ++ pool n pa (per sk mo wk fx wi la da we)) sz)) (tr_Q sz) (tr_X "java/lang/IndexOutOfBoundsException" sz) 1 6 (fun q => sz ≤ q) := by
  refine tr_start (cc := cX8_swapFor) (maxL := 9) (ret := (some .int)) RX8 ⟨by decide +kernel, rfl⟩ rfl (Nat.le_of_ble_eq_true rfl) ?_
  intro p0 e0 s0 m0 a0 b0 t0 c0 S hr hlocks htab hsz hP hK hXS ls hl
  have hl : lv_has ls 9 [(0, .ref (c 0)), (1, .int x), (2, .int zd)] := hl
  obtain ⟨hn, hcl, hfb, hrn, hnd, hper⟩ := id hwf
  refine lv_aload_n S.1 S.2.1 dX8_swapFor_0 rfl (lv_at hl 0 rfl) ?_
  refine lv_iload_n S.1 S.2.1 dX8_swapFor_1 rfl (lv_at hl 1 rfl) ?_
  refine rd_callVz (rest := []) S (r_X8_personAt_x l D cT c pa bd a6 a7 n ro cl fb rn nd sk mo wk fx wi la da we V V2 PR x (hwf) (hx)) gX8_swapFor_X8_personAt rfl pd_X8_personAt ⟨rfl, rfl, Nat.le_of_ble_eq_true rfl, Nat.le_of_ble_eq_true rfl⟩ hP hK (va_recv hK.1 hP (ci := 6) (q0 := 0) rfl rfl) hl rfl rfl (Nat.le_of_ble_eq_true rfl) ⟨Nat.zero_le _, Nat.zero_le _⟩ dX8_swapFor_2 ?_
  refine lv_astore_nN (lv' := [(3, .null), (0, .ref (c 0)), (1, .int x), (2, .int zd)]) S.1 S.2.1 dX8_swapFor_5 rfl hl (by decide) rfl (fun ls hl => ?_)
  refine lv_aload_nN S.1 S.2.1 dX8_swapFor_6 rfl (lv_at hl 0 rfl) ?_
  refine lv_ifnullN (tgt := 17) S.1 S.2.1 dX8_swapFor_7 (by decide) ?_
  exact t_throw (text := "no such person or day") S hflag trE_3 hsz hK hXS (by decide +kernel) ⟨w_X8_swapFor_1, w_X8_swapFor_2⟩ thw_X8_swapFor_82 hl.1 dX8_swapFor_17 dX8_swapFor_20 dX8_swapFor_21 dX8_swapFor_23 dX8_swapFor_26 htab (by decide) hlocks

set_option maxHeartbeats 4000000 in
set_option maxRecDepth 100000 in
theorem t_X8_swapFor_x1 (l : Launch) (D : va_G) (cT : ClassId × ClassId × ClassId) (sz : Nat) (c pa : Nat → Nat) (bd a6 a7 n ro cl fb rn : Nat) (nd sk mo wk fx wi la da we : Nat → Nat) (V V2 PR : Nat → Int64) (i : Nat) (x : Int32) (hwf : wfC n bd fb rn nd sk mo wk fx wi la da we) (hi : i < n) (hx : PX x 7) (hflag : l.stackTraces = false) : vx_Met l yX8_swapFor wsX8_swapFor ({ frames := 6, cells := 1, slots := 6, locals := 160 } : Room) (va_Pc [.ref (c 0), .int (nI i), .int x] (tr_R D (TY cT) (cX cT c a6 a7 n ro cl fb rn nd V V2 PR pa ++ pool n pa (per sk mo wk fx wi la da we)) sz)) (tr_Q sz) (tr_X "java/lang/IndexOutOfBoundsException" sz) 1 6 (fun q => sz ≤ q) := by
  refine tr_start (cc := cX8_swapFor) (maxL := 9) (ret := (some .int)) RX8 ⟨by decide +kernel, rfl⟩ rfl (Nat.le_of_ble_eq_true rfl) ?_
  intro p0 e0 s0 m0 a0 b0 t0 c0 S hr hlocks htab hsz hP hK hXS ls hl
  have hl : lv_has ls 9 [(0, .ref (c 0)), (1, .int (nI i)), (2, .int x)] := hl
  obtain ⟨hn, hcl, hfb, hrn, hnd, hper⟩ := id hwf
  refine lv_aload_n S.1 S.2.1 dX8_swapFor_0 rfl (lv_at hl 0 rfl) ?_
  refine lv_iload_n S.1 S.2.1 dX8_swapFor_1 rfl (lv_at hl 1 rfl) ?_
  refine rd_callVr (rest := []) S (r_X8_personAt l D cT c pa bd a6 a7 n ro cl fb rn nd sk mo wk fx wi la da we V V2 PR i (hwf) (by omega)) gX8_swapFor_X8_personAt rfl pd_X8_personAt ⟨rfl, rfl, Nat.le_of_ble_eq_true rfl, Nat.le_of_ble_eq_true rfl⟩ hP hK (va_recv hK.1 hP (ci := 6) (q0 := 0) rfl rfl) hl rfl rfl (Nat.le_of_ble_eq_true rfl) ⟨Nat.zero_le _, Nat.zero_le _⟩ dX8_swapFor_2 ?_
  refine lv_astore_n (lv' := [(3, .ref (pa i)), (0, .ref (c 0)), (1, .int (nI i)), (2, .int x)]) S.1 S.2.1 dX8_swapFor_5 rfl hl (by decide) rfl (fun ls hl => ?_)
  refine lv_aload_n S.1 S.2.1 dX8_swapFor_6 rfl (lv_at hl 0 rfl) ?_
  refine lv_ifnull S.1 S.2.1 dX8_swapFor_7 ?_
  refine lv_iload_n S.1 S.2.1 dX8_swapFor_10 rfl (lv_at hl 3 rfl) ?_
  refine rd_callS (rest := []) S (r_X8_isDay_x l D cT x (hx)) gX8_swapFor_X8_isDay rfl pd_X8_isDay ⟨rfl, rfl, Nat.le_of_ble_eq_true rfl, Nat.le_of_ble_eq_true rfl⟩ (sx_P0 D _) hK hl rfl rfl (Nat.le_of_ble_eq_true rfl) ⟨Nat.zero_le _, Nat.zero_le _⟩ dX8_swapFor_11 ?_
  refine n_bne S (tgt := 27) dX8_swapFor_14 (by decide) (fun q => absurd q (by decide)) (fun _ => ?_)
  exact t_throw (text := "no such person or day") S hflag trE_3 hsz hK hXS (by decide +kernel) ⟨w_X8_swapFor_1, w_X8_swapFor_2⟩ thw_X8_swapFor_82 hl.1 dX8_swapFor_17 dX8_swapFor_20 dX8_swapFor_21 dX8_swapFor_23 dX8_swapFor_26 htab (by decide) hlocks

theorem thw_X8_addPerson_54 : ∀ w ∈ (vx_atS RX8 54 "java/lang/IllegalArgumentException" vnm).filter goodWord, w ∈ wsX8_addPerson := by decide +kernel
theorem w_X8_addPerson_2 : Cond.classLink RX8 50 "java/lang/IllegalArgumentException" ∈ wsX8_addPerson := by decide +kernel
theorem w_X8_addPerson_3 : Cond.initialized "java/lang/IllegalArgumentException" ∈ wsX8_addPerson := by decide +kernel
set_option maxHeartbeats 4000000 in
set_option maxRecDepth 100000 in
theorem t_X8_addPerson_x0 (l : Launch) (D : va_G) (cT : ClassId × ClassId × ClassId) (sz : Nat) (c pa : Nat → Nat) (bd a6 a7 n ro cl fb rn : Nat) (nd sk mo wk fx wi la da we : Nat → Nat) (V V2 PR : Nat → Int64) (x zm : Int32) (hwf : wfC n bd fb rn nd sk mo wk fx wi la da we) (hx : x < nI 2 ∨ nI 14 < x) (hflag : l.stackTraces = false) : vx_Met l yX8_addPerson wsX8_addPerson ({ frames := 6, cells := 1, slots := 6, locals := 160 } : Room) (va_Pc [.ref (c 0), .int x, .int zm] (tr_R D (TY cT) (cX cT c a6 a7 n ro cl fb rn nd V V2 PR pa ++ pool n pa (per sk mo wk fx wi la da we)) sz)) (tr_Q sz) (tr_X "java/lang/IllegalArgumentException" sz) 1 6 (fun q => sz ≤ q) := by
  refine tr_start (cc := cX8_addPerson) (maxL := 3) (ret := (some .int)) RX8 ⟨by decide +kernel, rfl⟩ rfl (Nat.le_of_ble_eq_true rfl) ?_
  intro p0 e0 s0 m0 a0 b0 t0 c0 S hr hlocks htab hsz hP hK hXS ls hl
  have hl : lv_has ls 3 [(0, .ref (c 0)), (1, .int x), (2, .int zm)] := hl
  obtain ⟨hn, hcl, hfb, hrn, hnd, hper⟩ := id hwf
  refine lv_iload_n S.1 S.2.1 dX8_addPerson_0 rfl (lv_at hl 1 rfl) ?_
  refine lv_if_le (tgt := 11) S.1 S.2.1 dX8_addPerson_1 (by decide) (fun c1 => ?_) (fun c1 => ?_)
  · exact t_throw (text := "skills is no set of kinds") S hflag trE_1 hsz hK hXS (by decide +kernel) ⟨w_X8_addPerson_2, w_X8_addPerson_3⟩ thw_X8_addPerson_54 hl.1 dX8_addPerson_11 dX8_addPerson_14 dX8_addPerson_15 dX8_addPerson_17 dX8_addPerson_20 htab (by decide) hlocks
  · refine lv_iload_n S.1 S.2.1 dX8_addPerson_4 rfl (lv_at hl 1 rfl) ?_
    refine lv_bipush (v := (-15)) S.1 S.2.1 dX8_addPerson_5 (by decide) ?_
    refine lv_iand S.1 S.2.1 dX8_addPerson_7 ?_
    refine lv_if_eq (tgt := 21) S.1 S.2.1 dX8_addPerson_8 (by decide) (fun c8 => ?_) (fun c8 => ?_)
    · exact absurd c8 (sk_bad c1 hx)
    exact t_throw (text := "skills is no set of kinds") S hflag trE_1 hsz hK hXS (by decide +kernel) ⟨w_X8_addPerson_2, w_X8_addPerson_3⟩ thw_X8_addPerson_54 hl.1 dX8_addPerson_11 dX8_addPerson_14 dX8_addPerson_15 dX8_addPerson_17 dX8_addPerson_20 htab (by decide) hlocks

set_option maxHeartbeats 4000000 in
set_option maxRecDepth 100000 in
theorem t_X8_addPerson_x1 (l : Launch) (D : va_G) (cT : ClassId × ClassId × ClassId) (sz : Nat) (c pa : Nat → Nat) (bd a6 a7 n ro cl fb rn : Nat) (nd sk mo wk fx wi la da we : Nat → Nat) (V V2 PR : Nat → Int64) (v : Nat) (zm : Int32) (hwf : wfC n bd fb rn nd sk mo wk fx wi la da we) (hv : 2 ≤ v ∧ v ≤ 14 ∧ v % 2 = 1) (hflag : l.stackTraces = false) : vx_Met l yX8_addPerson wsX8_addPerson ({ frames := 6, cells := 1, slots := 6, locals := 160 } : Room) (va_Pc [.ref (c 0), .int (nI v), .int zm] (tr_R D (TY cT) (cX cT c a6 a7 n ro cl fb rn nd V V2 PR pa ++ pool n pa (per sk mo wk fx wi la da we)) sz)) (tr_Q sz) (tr_X "java/lang/IllegalArgumentException" sz) 1 6 (fun q => sz ≤ q) := by
  refine tr_start (cc := cX8_addPerson) (maxL := 3) (ret := (some .int)) RX8 ⟨by decide +kernel, rfl⟩ rfl (Nat.le_of_ble_eq_true rfl) ?_
  intro p0 e0 s0 m0 a0 b0 t0 c0 S hr hlocks htab hsz hP hK hXS ls hl
  have hl : lv_has ls 3 [(0, .ref (c 0)), (1, .int (nI v)), (2, .int zm)] := hl
  obtain ⟨hn, hcl, hfb, hrn, hnd, hper⟩ := id hwf
  refine lv_iload_n S.1 S.2.1 dX8_addPerson_0 rfl (lv_at hl 1 rfl) ?_
  refine n_zle S (tgt := 11) (by omega) dX8_addPerson_1 (by decide) (fun c1 => ?_) (fun c1 => ?_)
  · exact absurd c1 (by omega)
  refine lv_iload_n S.1 S.2.1 dX8_addPerson_4 rfl (lv_at hl 1 rfl) ?_
  refine lv_bipush (v := (-15)) S.1 S.2.1 dX8_addPerson_5 (by decide) ?_
  refine lv_iand S.1 S.2.1 dX8_addPerson_7 ?_
  refine lv_if_eq (tgt := 21) S.1 S.2.1 dX8_addPerson_8 (by decide) (fun c8 => ?_) (fun c8 => ?_)
  · exact absurd c8 (sk_odd v (by omega) hv.2.2)
  exact t_throw (text := "skills is no set of kinds") S hflag trE_1 hsz hK hXS (by decide +kernel) ⟨w_X8_addPerson_2, w_X8_addPerson_3⟩ thw_X8_addPerson_54 hl.1 dX8_addPerson_11 dX8_addPerson_14 dX8_addPerson_15 dX8_addPerson_17 dX8_addPerson_20 htab (by decide) hlocks

set_option maxHeartbeats 4000000 in
set_option maxRecDepth 100000 in
theorem t_X8_addPerson_x2 (l : Launch) (D : va_G) (cT : ClassId × ClassId × ClassId) (sz : Nat) (c pa : Nat → Nat) (bd a6 a7 n ro cl fb rn : Nat) (nd sk mo wk fx wi la da we : Nat → Nat) (V V2 PR : Nat → Int64) (v : Nat) (x : Int32) (hwf : wfC n bd fb rn nd sk mo wk fx wi la da we) (hv : 2 ≤ v ∧ v ≤ 14 ∧ v % 2 = 0) (hx : x < nI 0 ∨ nI 7 < x) (hflag : l.stackTraces = false) : vx_Met l yX8_addPerson wsX8_addPerson ({ frames := 6, cells := 1, slots := 6, locals := 160 } : Room) (va_Pc [.ref (c 0), .int (nI v), .int x] (tr_R D (TY cT) (cX cT c a6 a7 n ro cl fb rn nd V V2 PR pa ++ pool n pa (per sk mo wk fx wi la da we)) sz)) (tr_Q sz) (tr_X "java/lang/IllegalArgumentException" sz) 1 6 (fun q => sz ≤ q) := by
  refine tr_start (cc := cX8_addPerson) (maxL := 3) (ret := (some .int)) RX8 ⟨by decide +kernel, rfl⟩ rfl (Nat.le_of_ble_eq_true rfl) ?_
  intro p0 e0 s0 m0 a0 b0 t0 c0 S hr hlocks htab hsz hP hK hXS ls hl
  have hl : lv_has ls 3 [(0, .ref (c 0)), (1, .int (nI v)), (2, .int x)] := hl
  obtain ⟨hn, hcl, hfb, hrn, hnd, hper⟩ := id hwf
  refine lv_iload_n S.1 S.2.1 dX8_addPerson_0 rfl (lv_at hl 1 rfl) ?_
  refine n_zle S (tgt := 11) (by omega) dX8_addPerson_1 (by decide) (fun c1 => ?_) (fun c1 => ?_)
  · exact absurd c1 (by omega)
  refine lv_iload_n S.1 S.2.1 dX8_addPerson_4 rfl (lv_at hl 1 rfl) ?_
  refine lv_bipush (v := (-15)) S.1 S.2.1 dX8_addPerson_5 (by decide) ?_
  refine lv_iand S.1 S.2.1 dX8_addPerson_7 ?_
  refine n_top (show ((nI v) &&& (-15)) = (nI 0) from sk_and v (by omega) hv.2.2) ?_
  refine n_zeq S (tgt := 21) (by decide) dX8_addPerson_8 (by decide) (fun _ => ?_) (fun q => absurd q (by decide))
  refine lv_iload_n S.1 S.2.1 dX8_addPerson_21 rfl (lv_at hl 2 rfl) ?_
  refine lv_if_lt (tgt := 31) S.1 S.2.1 dX8_addPerson_22 (by decide) (fun c22 => ?_) (fun c22 => ?_)
  · exact t_throw (text := "most is out of range") S hflag trE_1 hsz hK hXS (by decide +kernel) ⟨w_X8_addPerson_2, w_X8_addPerson_3⟩ thw_X8_addPerson_54 hl.1 dX8_addPerson_31 dX8_addPerson_34 dX8_addPerson_35 dX8_addPerson_37 dX8_addPerson_40 htab (by decide) hlocks
  · refine lv_iload_n S.1 S.2.1 dX8_addPerson_25 rfl (lv_at hl 2 rfl) ?_
    refine lv_bipush (v := (nI 7)) S.1 S.2.1 dX8_addPerson_26 (by decide) ?_
    refine lv_icmp_le (tgt := 41) S.1 S.2.1 dX8_addPerson_28 (by decide) (fun c28 => ?_) (fun c28 => ?_)
    · exact (hx.elim (fun q => c22 q) (fun q => Int32.not_le.mpr q c28)).elim
    exact t_throw (text := "most is out of range") S hflag trE_1 hsz hK hXS (by decide +kernel) ⟨w_X8_addPerson_2, w_X8_addPerson_3⟩ thw_X8_addPerson_54 hl.1 dX8_addPerson_31 dX8_addPerson_34 dX8_addPerson_35 dX8_addPerson_37 dX8_addPerson_40 htab (by decide) hlocks

theorem thw_X8_addPerson_67 : ∀ w ∈ (vx_atS RX8 67 "java/lang/IllegalStateException" vnm).filter goodWord, w ∈ wsX8_addPerson := by decide +kernel
theorem w_X8_addPerson_4 : Cond.classLink RX8 63 "java/lang/IllegalStateException" ∈ wsX8_addPerson := by decide +kernel
theorem w_X8_addPerson_5 : Cond.initialized "java/lang/IllegalStateException" ∈ wsX8_addPerson := by decide +kernel
set_option maxHeartbeats 4000000 in
set_option maxRecDepth 100000 in
theorem t_X8_addPerson_x3 (l : Launch) (D : va_G) (cT : ClassId × ClassId × ClassId) (sz : Nat) (c pa : Nat → Nat) (bd a6 a7 n ro cl fb rn : Nat) (nd sk mo wk fx wi la da we : Nat → Nat) (V V2 PR : Nat → Int64) (v m : Nat) (hwf : wfC n bd fb rn nd sk mo wk fx wi la da we) (hv : 2 ≤ v ∧ v ≤ 14 ∧ v % 2 = 0) (hm : m ≤ 7) (hn8 : n = 8) (hflag : l.stackTraces = false) : vx_Met l yX8_addPerson wsX8_addPerson ({ frames := 6, cells := 1, slots := 6, locals := 160 } : Room) (va_Pc [.ref (c 0), .int (nI v), .int (nI m)] (tr_R D (TY cT) (cX cT c a6 a7 n ro cl fb rn nd V V2 PR pa ++ pool n pa (per sk mo wk fx wi la da we)) sz)) (tr_Q sz) (tr_X "java/lang/IllegalStateException" sz) 1 6 (fun q => sz ≤ q) := by
  refine tr_start (cc := cX8_addPerson) (maxL := 3) (ret := (some .int)) RX8 ⟨by decide +kernel, rfl⟩ rfl (Nat.le_of_ble_eq_true rfl) ?_
  intro p0 e0 s0 m0 a0 b0 t0 c0 S hr hlocks htab hsz hP hK hXS ls hl
  have hl : lv_has ls 3 [(0, .ref (c 0)), (1, .int (nI v)), (2, .int (nI m))] := hl
  obtain ⟨hn, hcl, hfb, hrn, hnd, hper⟩ := id hwf
  refine lv_iload_n S.1 S.2.1 dX8_addPerson_0 rfl (lv_at hl 1 rfl) ?_
  refine n_zle S (tgt := 11) (by omega) dX8_addPerson_1 (by decide) (fun c1 => ?_) (fun c1 => ?_)
  · exact absurd c1 (by omega)
  refine lv_iload_n S.1 S.2.1 dX8_addPerson_4 rfl (lv_at hl 1 rfl) ?_
  refine lv_bipush (v := (-15)) S.1 S.2.1 dX8_addPerson_5 (by decide) ?_
  refine lv_iand S.1 S.2.1 dX8_addPerson_7 ?_
  refine n_top (show ((nI v) &&& (-15)) = (nI 0) from sk_and v (by omega) hv.2.2) ?_
  refine n_zeq S (tgt := 21) (by decide) dX8_addPerson_8 (by decide) (fun _ => ?_) (fun q => absurd q (by decide))
  refine lv_iload_n S.1 S.2.1 dX8_addPerson_21 rfl (lv_at hl 2 rfl) ?_
  refine n_zlt S (tgt := 31) (by omega) dX8_addPerson_22 (by decide) ?_
  refine lv_iload_n S.1 S.2.1 dX8_addPerson_25 rfl (lv_at hl 2 rfl) ?_
  refine lv_bipush (v := (nI 7)) S.1 S.2.1 dX8_addPerson_26 (by decide) ?_
  refine n_cle S (tgt := 41) (by omega) dX8_addPerson_28 (by decide) (fun c28 => ?_) (fun c28 => ?_)
  rotate_left
  · exact absurd c28 (by omega)
  refine lv_aload_n S.1 S.2.1 dX8_addPerson_41 rfl (lv_at hl 0 rfl) ?_
  refine g_get (C := RX8) (T := TX8) (N := 9) (v := .int (nI n)) S 0 6 6 in_X8_addPerson_X8 hK hP rfl rfl (by decide) w_X8_addPerson_0 rfl dX8_addPerson_42 ?_
  refine n_zlt S (tgt := 60) (by omega) dX8_addPerson_45 (by decide) ?_
  refine lv_aload_n S.1 S.2.1 dX8_addPerson_48 rfl (lv_at hl 0 rfl) ?_
  refine g_get (C := RX8) (T := TX8) (N := 9) (v := .int (nI n)) S 0 6 6 in_X8_addPerson_X8 hK hP rfl rfl (by decide) w_X8_addPerson_0 rfl dX8_addPerson_49 ?_
  refine lv_aload_n S.1 S.2.1 dX8_addPerson_52 rfl (lv_at hl 0 rfl) ?_
  refine g_get (C := RX8) (T := TX8) (N := 9) (v := .ref (c 1)) S 0 6 0 in_X8_addPerson_X8 hK hP rfl rfl (by decide) w_X8_addPerson_1 rfl dX8_addPerson_53 ?_
  refine g_alen S 1 2 hK hP rfl rfl dX8_addPerson_56 ?_
  refine n_clt S (tgt := 70) (by omega) dX8_addPerson_57 (by decide) (fun c57 => ?_) (fun c57 => ?_)
  · exact absurd c57 (by omega)
  exact t_throw (text := "the desk is full") S hflag trE_2 hsz hK hXS (by decide +kernel) ⟨w_X8_addPerson_4, w_X8_addPerson_5⟩ thw_X8_addPerson_67 hl.1 dX8_addPerson_60 dX8_addPerson_63 dX8_addPerson_64 dX8_addPerson_66 dX8_addPerson_69 htab (by decide) hlocks

