/-! the law's wrappers: a call of the desk, its throws caught by kind -/
theorem rd_wr {l : Launch} {y : MethodName} {ws : List Cond} {rm : Room} {av : List Value} {D : va_G} {tys : List (ClassId × FieldType)} {w : va_W} {v : Int32} (h : Met l y ws rm (va_Pc av (sx_R D tys w)) (vp_Si (fun r => r = v)) 0 0 (fun _ => False)) (sz : Nat) : Met l y ws rm (va_Pc av (wr_R D tys w sz)) (wQi (fun r (_ : Unit) => r = v) D (fun _ => w) (va_A w sz)) 0 0 (va_A w sz) := by
  intro p e ha hc hk s m args below hf happ hP hT
  obtain ⟨n, o, h1, h2, h3, ⟨r, ho, hr, hh⟩, L, hL, hfree⟩ := h p e ha hc hk s m args below hf happ ⟨hP.1, hP.2.2.1, hP.2.2.2.1⟩ hT
  exact ⟨n, o, h1, h2, h3, ⟨⟨r, (), ho, hr, by rw [hh]; exact hP.2.2.1, hP.2.2.2.2.self⟩, by rw [hh]; exact Nat.le_refl _, fun q _ _ => by rw [hh]⟩, L, hL, fun q hq => (hfree q hq).elim⟩
set_option maxHeartbeats 4000000 in
set_option maxRecDepth 100000 in
theorem wo_addPerson (l : Launch) (D : va_G) (cT : ClassId × ClassId × ClassId) (sz : Nat) {St : Type} {post : Int32 → St → Prop} {w1 : St → va_W} {wc : va_W} {rm : Room} {mc ms : Nat} {fs : List Value} (o c9 : Nat) (g : Nat → Int64) (p0 p1 : Int32) (hM : ∀ sz, Met l yX8_addPerson wsX8_addPerson rm (va_Pc [.ref c9, .int p0, .int p1] (wr_R D (TY cT) wc sz)) (wQi post D w1 (va_A wc sz)) mc ms (va_A wc sz)) (hrm : rm.cells = mc ∧ rm.slots = ms ∧ rm.frames + 1 ≤ 8 ∧ 8 + (3 + 11) + rm.locals ≤ 200) (hc : mc ≤ 1 ∧ ms ≤ 8) (hrv : wc[0]? = some (c9, .inr (6, fs))) : Met l yL_addPerson wsL_addPerson ({ frames := 8, cells := 1, slots := 8, locals := 200 } : Room) (va_Pc [.ref c9, .int p0, .int p1, .ref o] (wx_R D (TY cT) (wc ++ [(o, .inl (cT.2.1, 1, .inr (.inl g)))]) sz)) (wQi (fun (r_ : Int32) (u_ : Int32 × St) => r_ = nI 0 ∧ post u_.1 u_.2) D (fun (u_ : Int32 × St) => w1 u_.2 ++ [(o, .inl (cT.2.1, 1, .inr (.inl (vp_updL g 0 (u_.1.toInt64)))))]) (va_A (wc ++ [(o, .inl (cT.2.1, 1, .inr (.inl g)))]) sz)) 1 8 (va_A (wc ++ [(o, .inl (cT.2.1, 1, .inr (.inl g)))]) sz) := by
  refine wx_start (cc := cL_addPerson) (maxL := 5) (ret := (some .int)) (hh := [(0, 10, 13, 13), (0, 10, 17, 15)]) RL ⟨by decide +kernel, rfl⟩ rfl (Nat.le_of_ble_eq_true rfl) ?_
  intro p0_ e0 s0 m0 a0 b0 t0 c0 S hr hlocks htab hsz hP hK hA hD hS hX ls hl
  subst hsz
  generalize va_A (wc ++ [(o, .inl (cT.2.1, 1, .inr (.inl g)))]) s0.heap.size = A at hA hD hS ⊢
  have hl : lv_has ls 5 [(0, .ref c9), (1, .int p0), (2, .int p1), (3, .ref o)] := hl
  refine lv_aload_n S.1 S.2.1 dL_addPerson_0 rfl (lv_at hl 3 rfl) ?_
  refine lv_iconst (v := (nI 0)) S.1 S.2.1 dL_addPerson_1 (by decide) ?_
  refine lv_aload_n S.1 S.2.1 dL_addPerson_2 rfl (lv_at hl 0 rfl) ?_
  refine lv_iload_n S.1 S.2.1 dL_addPerson_3 rfl (lv_at hl 1 rfl) ?_
  refine lv_iload_n S.1 S.2.1 dL_addPerson_4 rfl (lv_at hl 2 rfl) ?_
  refine fr_callVi (As := [.int p0, .int p1]) (rest := [.int (nI 0), .ref o]) (wc := wc) (wr := [(o, .inl (cT.2.1, 1, .inr (.inl g)))]) S (hM _) gL_addPerson_X8_addPerson rfl pd_X8_addPerson hrm hP hK hD hS hA (va_recv hK.1 (fr_l hP) (ci := 6) (q0 := 0) rfl hrv) hl rfl rfl (Nat.le_of_ble_eq_true rfl) ⟨by rw [Nat.zero_add]; exact hc.1, by rw [Nat.zero_add]; exact hc.2⟩ dL_addPerson_5 (fun r u H locs hp hP hD hS => ?_)
  refine W.widen (k := 1) (n := 8) (by rw [Nat.zero_add]; exact hc.1) (by rw [Nat.zero_add]; exact hc.2) ?_
  refine lv_i2l S.1 S.2.1 dL_addPerson_8 rfl ?_
  refine w_last (g := g) (i := 0) (n := 1) (v := r.toInt64) S ((w1 u).length + 0) hK hP hD hS (ap_at.trans rfl) (by decide) dL_addPerson_9 (fun H locs hP hD hS => ?_)
  rw [ap_set] at hP hD
  have hP : va_P D vwCl (w1 u ++ [(o, .inl (cT.2.1, 1, .inr (.inl (vp_updL g 0 (r.toInt64)))))]) H := hP
  have hD : va_D A (w1 u ++ [(o, .inl (cT.2.1, 1, .inr (.inl (vp_updL g 0 (r.toInt64)))))]) := hD
  refine lv_goto (tgt := 21) S.1 S.2.1 dL_addPerson_10 (by decide) ?_
  refine lv_iconst (v := (nI 0)) S.1 S.2.1 dL_addPerson_21 (by decide) ?_
  exact wr_iret S (r, u) hr rfl hlocks ⟨rfl, hp⟩ hP hD hS dL_addPerson_22
theorem wl_addPerson_0_0 : Cond.classLink RL 13 "java/lang/IllegalArgumentException" ∈ wsL_addPerson := by decide +kernel
set_option maxHeartbeats 4000000 in
set_option maxRecDepth 100000 in
theorem wt_addPerson_A (l : Launch) (D : va_G) (cT : ClassId × ClassId × ClassId) (sz : Nat) {wc : va_W} {fs : List Value} (o c9 : Nat) (g : Nat → Int64) (p0 p1 : Int32) (hM : ∀ sz, vx_Met l yX8_addPerson wsX8_addPerson ({ frames := 6, cells := 1, slots := 6, locals := 160 } : Room) (va_Pc [.ref c9, .int p0, .int p1] (tr_R D (TY cT) wc sz)) (tr_Q sz) (tr_X "java/lang/IllegalArgumentException" sz) 1 6 (fun q => sz ≤ q)) (hrv : wc[0]? = some (c9, .inr (6, fs))) : Met l yL_addPerson wsL_addPerson ({ frames := 8, cells := 1, slots := 8, locals := 200 } : Room) (va_Pc [.ref c9, .int p0, .int p1, .ref o] (wx_R D (TY cT) (wc ++ [(o, .inl (cT.2.1, 1, .inr (.inl g)))]) sz)) (wQi (fun (r_ : Int32) (_ : Unit) => r_ = nI 1) D (fun (_ : Unit) => wc ++ [(o, .inl (cT.2.1, 1, .inr (.inl g)))]) (va_A (wc ++ [(o, .inl (cT.2.1, 1, .inr (.inl g)))]) sz)) 1 8 (va_A (wc ++ [(o, .inl (cT.2.1, 1, .inr (.inl g)))]) sz) := by
  refine wx_start (cc := cL_addPerson) (maxL := 5) (ret := (some .int)) (hh := [(0, 10, 13, 13), (0, 10, 17, 15)]) RL ⟨by decide +kernel, rfl⟩ rfl (Nat.le_of_ble_eq_true rfl) ?_
  intro p0_ e0 s0 m0 a0 b0 t0 c0 S hr hlocks htab hsz hP hK hA hD hS hX ls hl
  subst hsz
  generalize va_A (wc ++ [(o, .inl (cT.2.1, 1, .inr (.inl g)))]) s0.heap.size = A at hA hD hS ⊢
  have hl : lv_has ls 5 [(0, .ref c9), (1, .int p0), (2, .int p1), (3, .ref o)] := hl
  refine lv_aload_n S.1 S.2.1 dL_addPerson_0 rfl (lv_at hl 3 rfl) ?_
  refine lv_iconst (v := (nI 0)) S.1 S.2.1 dL_addPerson_1 (by decide) ?_
  refine lv_aload_n S.1 S.2.1 dL_addPerson_2 rfl (lv_at hl 0 rfl) ?_
  refine lv_iload_n S.1 S.2.1 dL_addPerson_3 rfl (lv_at hl 1 rfl) ?_
  refine lv_iload_n S.1 S.2.1 dL_addPerson_4 rfl (lv_at hl 2 rfl) ?_
  refine fr_callVx (As := [.int p0, .int p1]) (rest := [.int (nI 0), .ref o]) (wc := wc) (wr := [(o, .inl (cT.2.1, 1, .inr (.inl g)))]) S (hM _) gL_addPerson_X8_addPerson rfl pd_X8_addPerson ⟨rfl, rfl, by decide, by decide⟩ hP hK hX hS hA (va_recv hK.1 (fr_l hP) (ci := 6) (q0 := 0) rfl hrv) hl rfl rfl (Nat.le_of_ble_eq_true rfl) (by decide) dL_addPerson_5 (fun q9 ce H locs hP hS hce hcv hcl => ?_)
  refine vx_catch (own := RL) (name := "java/lang/IllegalArgumentException") S.2.2.2.1 ([] : List ExceptionTableEntry) (⟨0, 10, 13, 13⟩ : ExceptionTableEntry) ([⟨0, 10, 17, 15⟩] : List ExceptionTableEntry) (htab.trans rfl) (fun z hz => absurd hz List.not_mem_nil) (by decide) (by decide) (S.2.2.2.2 _ wl_addPerson_0_0) (va_Nw.use rfl (hK.2 (.castable "java/lang/IllegalArgumentException" "java/lang/IllegalArgumentException") (by decide +kernel))) hce hcv hcl ?_
  refine lv_astore (lv' := [(4, .ref q9), (0, .ref c9), (1, .int p0), (2, .int p1), (3, .ref o)]) S.1 S.2.1 dL_addPerson_13 hl (by decide) rfl (fun ls hl => ?_)
  refine lv_iconst (v := (nI 1)) S.1 S.2.1 dL_addPerson_15 (by decide) ?_
  refine W.widen (k := 1) (n := 8) (by decide) (by decide) ?_
  exact wr_iret S () hr rfl hlocks rfl hP hD hS dL_addPerson_16
theorem wl_addPerson_1_0 : Cond.classLink RL 15 "java/lang/IllegalStateException" ∈ wsL_addPerson := by decide +kernel
theorem wl_addPerson_1_1 : Cond.classLink RL 13 "java/lang/IllegalArgumentException" ∈ wsL_addPerson := by decide +kernel
set_option maxHeartbeats 4000000 in
set_option maxRecDepth 100000 in
theorem wt_addPerson_S (l : Launch) (D : va_G) (cT : ClassId × ClassId × ClassId) (sz : Nat) {wc : va_W} {fs : List Value} (o c9 : Nat) (g : Nat → Int64) (p0 p1 : Int32) (hM : ∀ sz, vx_Met l yX8_addPerson wsX8_addPerson ({ frames := 6, cells := 1, slots := 6, locals := 160 } : Room) (va_Pc [.ref c9, .int p0, .int p1] (tr_R D (TY cT) wc sz)) (tr_Q sz) (tr_X "java/lang/IllegalStateException" sz) 1 6 (fun q => sz ≤ q)) (hrv : wc[0]? = some (c9, .inr (6, fs))) : Met l yL_addPerson wsL_addPerson ({ frames := 8, cells := 1, slots := 8, locals := 200 } : Room) (va_Pc [.ref c9, .int p0, .int p1, .ref o] (wx_R D (TY cT) (wc ++ [(o, .inl (cT.2.1, 1, .inr (.inl g)))]) sz)) (wQi (fun (r_ : Int32) (_ : Unit) => r_ = nI 2) D (fun (_ : Unit) => wc ++ [(o, .inl (cT.2.1, 1, .inr (.inl g)))]) (va_A (wc ++ [(o, .inl (cT.2.1, 1, .inr (.inl g)))]) sz)) 1 8 (va_A (wc ++ [(o, .inl (cT.2.1, 1, .inr (.inl g)))]) sz) := by
  refine wx_start (cc := cL_addPerson) (maxL := 5) (ret := (some .int)) (hh := [(0, 10, 13, 13), (0, 10, 17, 15)]) RL ⟨by decide +kernel, rfl⟩ rfl (Nat.le_of_ble_eq_true rfl) ?_
  intro p0_ e0 s0 m0 a0 b0 t0 c0 S hr hlocks htab hsz hP hK hA hD hS hX ls hl
  subst hsz
  generalize va_A (wc ++ [(o, .inl (cT.2.1, 1, .inr (.inl g)))]) s0.heap.size = A at hA hD hS ⊢
  have hl : lv_has ls 5 [(0, .ref c9), (1, .int p0), (2, .int p1), (3, .ref o)] := hl
  refine lv_aload_n S.1 S.2.1 dL_addPerson_0 rfl (lv_at hl 3 rfl) ?_
  refine lv_iconst (v := (nI 0)) S.1 S.2.1 dL_addPerson_1 (by decide) ?_
  refine lv_aload_n S.1 S.2.1 dL_addPerson_2 rfl (lv_at hl 0 rfl) ?_
  refine lv_iload_n S.1 S.2.1 dL_addPerson_3 rfl (lv_at hl 1 rfl) ?_
  refine lv_iload_n S.1 S.2.1 dL_addPerson_4 rfl (lv_at hl 2 rfl) ?_
  refine fr_callVx (As := [.int p0, .int p1]) (rest := [.int (nI 0), .ref o]) (wc := wc) (wr := [(o, .inl (cT.2.1, 1, .inr (.inl g)))]) S (hM _) gL_addPerson_X8_addPerson rfl pd_X8_addPerson ⟨rfl, rfl, by decide, by decide⟩ hP hK hX hS hA (va_recv hK.1 (fr_l hP) (ci := 6) (q0 := 0) rfl hrv) hl rfl rfl (Nat.le_of_ble_eq_true rfl) (by decide) dL_addPerson_5 (fun q9 ce H locs hP hS hce hcv hcl => ?_)
  refine vx_catch (own := RL) (name := "java/lang/IllegalStateException") S.2.2.2.1 ([⟨0, 10, 13, 13⟩] : List ExceptionTableEntry) (⟨0, 10, 17, 15⟩ : ExceptionTableEntry) ([] : List ExceptionTableEntry) (htab.trans rfl) (fun z hz => by rcases List.mem_singleton.mp hz with rfl; exact Or.inr ⟨by decide, "java/lang/IllegalArgumentException", S.2.2.2.2 _ wl_addPerson_1_1, hX.2.1 _ (show ("java/lang/IllegalStateException", "java/lang/IllegalArgumentException") ∈ ncs by decide +kernel)⟩) (by decide) (by decide) (S.2.2.2.2 _ wl_addPerson_1_0) (va_Nw.use rfl (hK.2 (.castable "java/lang/IllegalStateException" "java/lang/IllegalStateException") (by decide +kernel))) hce hcv hcl ?_
  refine lv_astore (lv' := [(4, .ref q9), (0, .ref c9), (1, .int p0), (2, .int p1), (3, .ref o)]) S.1 S.2.1 dL_addPerson_17 hl (by decide) rfl (fun ls hl => ?_)
  refine lv_iconst (v := (nI 2)) S.1 S.2.1 dL_addPerson_19 (by decide) ?_
  refine W.widen (k := 1) (n := 8) (by decide) (by decide) ?_
  exact wr_iret S () hr rfl hlocks rfl hP hD hS dL_addPerson_20
set_option maxHeartbeats 4000000 in
set_option maxRecDepth 100000 in
theorem wo_setNeed (l : Launch) (D : va_G) (cT : ClassId × ClassId × ClassId) (sz : Nat) {St : Type} {post : Int32 → St → Prop} {w1 : St → va_W} {wc : va_W} {rm : Room} {mc ms : Nat} {fs : List Value} (o c9 : Nat) (g : Nat → Int64) (p0 p1 p2 : Int32) (hM : ∀ sz, Met l yX8_setNeed wsX8_setNeed rm (va_Pc [.ref c9, .int p0, .int p1, .int p2] (wr_R D (TY cT) wc sz)) (wQi post D w1 (va_A wc sz)) mc ms (va_A wc sz)) (hrm : rm.cells = mc ∧ rm.slots = ms ∧ rm.frames + 1 ≤ 8 ∧ 8 + (5 + 11) + rm.locals ≤ 200) (hc : mc ≤ 1 ∧ ms ≤ 8) (hrv : wc[0]? = some (c9, .inr (6, fs))) : Met l yL_setNeed wsL_setNeed ({ frames := 8, cells := 1, slots := 8, locals := 200 } : Room) (va_Pc [.ref c9, .int p0, .int p1, .int p2, .ref o] (wx_R D (TY cT) (wc ++ [(o, .inl (cT.2.1, 1, .inr (.inl g)))]) sz)) (wQi (fun (r_ : Int32) (u_ : Int32 × St) => r_ = nI 0 ∧ post u_.1 u_.2) D (fun (u_ : Int32 × St) => w1 u_.2 ++ [(o, .inl (cT.2.1, 1, .inr (.inl (vp_updL g 0 (u_.1.toInt64)))))]) (va_A (wc ++ [(o, .inl (cT.2.1, 1, .inr (.inl g)))]) sz)) 1 8 (va_A (wc ++ [(o, .inl (cT.2.1, 1, .inr (.inl g)))]) sz) := by
  refine wx_start (cc := cL_setNeed) (maxL := 6) (ret := (some .int)) (hh := [(0, 12, 15, 21), (0, 12, 19, 13)]) RL ⟨by decide +kernel, rfl⟩ rfl (Nat.le_of_ble_eq_true rfl) ?_
  intro p0_ e0 s0 m0 a0 b0 t0 c0 S hr hlocks htab hsz hP hK hA hD hS hX ls hl
  subst hsz
  generalize va_A (wc ++ [(o, .inl (cT.2.1, 1, .inr (.inl g)))]) s0.heap.size = A at hA hD hS ⊢
  have hl : lv_has ls 6 [(0, .ref c9), (1, .int p0), (2, .int p1), (3, .int p2), (4, .ref o)] := hl
  refine lv_aload S.1 S.2.1 dL_setNeed_0 (lv_at hl 4 rfl) ?_
  refine lv_iconst (v := (nI 0)) S.1 S.2.1 dL_setNeed_2 (by decide) ?_
  refine lv_aload_n S.1 S.2.1 dL_setNeed_3 rfl (lv_at hl 0 rfl) ?_
  refine lv_iload_n S.1 S.2.1 dL_setNeed_4 rfl (lv_at hl 1 rfl) ?_
  refine lv_iload_n S.1 S.2.1 dL_setNeed_5 rfl (lv_at hl 2 rfl) ?_
  refine lv_iload_n S.1 S.2.1 dL_setNeed_6 rfl (lv_at hl 3 rfl) ?_
  refine fr_callVi (As := [.int p0, .int p1, .int p2]) (rest := [.int (nI 0), .ref o]) (wc := wc) (wr := [(o, .inl (cT.2.1, 1, .inr (.inl g)))]) S (hM _) gL_setNeed_X8_setNeed rfl pd_X8_setNeed hrm hP hK hD hS hA (va_recv hK.1 (fr_l hP) (ci := 6) (q0 := 0) rfl hrv) hl rfl rfl (Nat.le_of_ble_eq_true rfl) ⟨by rw [Nat.zero_add]; exact hc.1, by rw [Nat.zero_add]; exact hc.2⟩ dL_setNeed_7 (fun r u H locs hp hP hD hS => ?_)
  refine W.widen (k := 1) (n := 8) (by rw [Nat.zero_add]; exact hc.1) (by rw [Nat.zero_add]; exact hc.2) ?_
  refine lv_i2l S.1 S.2.1 dL_setNeed_10 rfl ?_
  refine w_last (g := g) (i := 0) (n := 1) (v := r.toInt64) S ((w1 u).length + 0) hK hP hD hS (ap_at.trans rfl) (by decide) dL_setNeed_11 (fun H locs hP hD hS => ?_)
  rw [ap_set] at hP hD
  have hP : va_P D vwCl (w1 u ++ [(o, .inl (cT.2.1, 1, .inr (.inl (vp_updL g 0 (r.toInt64)))))]) H := hP
  have hD : va_D A (w1 u ++ [(o, .inl (cT.2.1, 1, .inr (.inl (vp_updL g 0 (r.toInt64)))))]) := hD
  refine lv_goto (tgt := 23) S.1 S.2.1 dL_setNeed_12 (by decide) ?_
  refine lv_iconst (v := (nI 0)) S.1 S.2.1 dL_setNeed_23 (by decide) ?_
  exact wr_iret S (r, u) hr rfl hlocks ⟨rfl, hp⟩ hP hD hS dL_setNeed_24
theorem wl_setNeed_0_0 : Cond.classLink RL 21 "java/lang/IndexOutOfBoundsException" ∈ wsL_setNeed := by decide +kernel
set_option maxHeartbeats 4000000 in
set_option maxRecDepth 100000 in
theorem wt_setNeed_I (l : Launch) (D : va_G) (cT : ClassId × ClassId × ClassId) (sz : Nat) {wc : va_W} {fs : List Value} (o c9 : Nat) (g : Nat → Int64) (p0 p1 p2 : Int32) (hM : ∀ sz, vx_Met l yX8_setNeed wsX8_setNeed ({ frames := 6, cells := 1, slots := 6, locals := 160 } : Room) (va_Pc [.ref c9, .int p0, .int p1, .int p2] (tr_R D (TY cT) wc sz)) (tr_Q sz) (tr_X "java/lang/IndexOutOfBoundsException" sz) 1 6 (fun q => sz ≤ q)) (hrv : wc[0]? = some (c9, .inr (6, fs))) : Met l yL_setNeed wsL_setNeed ({ frames := 8, cells := 1, slots := 8, locals := 200 } : Room) (va_Pc [.ref c9, .int p0, .int p1, .int p2, .ref o] (wx_R D (TY cT) (wc ++ [(o, .inl (cT.2.1, 1, .inr (.inl g)))]) sz)) (wQi (fun (r_ : Int32) (_ : Unit) => r_ = nI 1) D (fun (_ : Unit) => wc ++ [(o, .inl (cT.2.1, 1, .inr (.inl g)))]) (va_A (wc ++ [(o, .inl (cT.2.1, 1, .inr (.inl g)))]) sz)) 1 8 (va_A (wc ++ [(o, .inl (cT.2.1, 1, .inr (.inl g)))]) sz) := by
  refine wx_start (cc := cL_setNeed) (maxL := 6) (ret := (some .int)) (hh := [(0, 12, 15, 21), (0, 12, 19, 13)]) RL ⟨by decide +kernel, rfl⟩ rfl (Nat.le_of_ble_eq_true rfl) ?_
  intro p0_ e0 s0 m0 a0 b0 t0 c0 S hr hlocks htab hsz hP hK hA hD hS hX ls hl
  subst hsz
  generalize va_A (wc ++ [(o, .inl (cT.2.1, 1, .inr (.inl g)))]) s0.heap.size = A at hA hD hS ⊢
  have hl : lv_has ls 6 [(0, .ref c9), (1, .int p0), (2, .int p1), (3, .int p2), (4, .ref o)] := hl
  refine lv_aload S.1 S.2.1 dL_setNeed_0 (lv_at hl 4 rfl) ?_
  refine lv_iconst (v := (nI 0)) S.1 S.2.1 dL_setNeed_2 (by decide) ?_
  refine lv_aload_n S.1 S.2.1 dL_setNeed_3 rfl (lv_at hl 0 rfl) ?_
  refine lv_iload_n S.1 S.2.1 dL_setNeed_4 rfl (lv_at hl 1 rfl) ?_
  refine lv_iload_n S.1 S.2.1 dL_setNeed_5 rfl (lv_at hl 2 rfl) ?_
  refine lv_iload_n S.1 S.2.1 dL_setNeed_6 rfl (lv_at hl 3 rfl) ?_
  refine fr_callVx (As := [.int p0, .int p1, .int p2]) (rest := [.int (nI 0), .ref o]) (wc := wc) (wr := [(o, .inl (cT.2.1, 1, .inr (.inl g)))]) S (hM _) gL_setNeed_X8_setNeed rfl pd_X8_setNeed ⟨rfl, rfl, by decide, by decide⟩ hP hK hX hS hA (va_recv hK.1 (fr_l hP) (ci := 6) (q0 := 0) rfl hrv) hl rfl rfl (Nat.le_of_ble_eq_true rfl) (by decide) dL_setNeed_7 (fun q9 ce H locs hP hS hce hcv hcl => ?_)
  refine vx_catch (own := RL) (name := "java/lang/IndexOutOfBoundsException") S.2.2.2.1 ([] : List ExceptionTableEntry) (⟨0, 12, 15, 21⟩ : ExceptionTableEntry) ([⟨0, 12, 19, 13⟩] : List ExceptionTableEntry) (htab.trans rfl) (fun z hz => absurd hz List.not_mem_nil) (by decide) (by decide) (S.2.2.2.2 _ wl_setNeed_0_0) (va_Nw.use rfl (hK.2 (.castable "java/lang/IndexOutOfBoundsException" "java/lang/IndexOutOfBoundsException") (by decide +kernel))) hce hcv hcl ?_
  refine lv_astore (lv' := [(5, .ref q9), (0, .ref c9), (1, .int p0), (2, .int p1), (3, .int p2), (4, .ref o)]) S.1 S.2.1 dL_setNeed_15 hl (by decide) rfl (fun ls hl => ?_)
  refine lv_iconst (v := (nI 1)) S.1 S.2.1 dL_setNeed_17 (by decide) ?_
  refine W.widen (k := 1) (n := 8) (by decide) (by decide) ?_
  exact wr_iret S () hr rfl hlocks rfl hP hD hS dL_setNeed_18
theorem wl_setNeed_1_0 : Cond.classLink RL 13 "java/lang/IllegalArgumentException" ∈ wsL_setNeed := by decide +kernel
theorem wl_setNeed_1_1 : Cond.classLink RL 21 "java/lang/IndexOutOfBoundsException" ∈ wsL_setNeed := by decide +kernel
set_option maxHeartbeats 4000000 in
set_option maxRecDepth 100000 in
theorem wt_setNeed_A (l : Launch) (D : va_G) (cT : ClassId × ClassId × ClassId) (sz : Nat) {wc : va_W} {fs : List Value} (o c9 : Nat) (g : Nat → Int64) (p0 p1 p2 : Int32) (hM : ∀ sz, vx_Met l yX8_setNeed wsX8_setNeed ({ frames := 6, cells := 1, slots := 6, locals := 160 } : Room) (va_Pc [.ref c9, .int p0, .int p1, .int p2] (tr_R D (TY cT) wc sz)) (tr_Q sz) (tr_X "java/lang/IllegalArgumentException" sz) 1 6 (fun q => sz ≤ q)) (hrv : wc[0]? = some (c9, .inr (6, fs))) : Met l yL_setNeed wsL_setNeed ({ frames := 8, cells := 1, slots := 8, locals := 200 } : Room) (va_Pc [.ref c9, .int p0, .int p1, .int p2, .ref o] (wx_R D (TY cT) (wc ++ [(o, .inl (cT.2.1, 1, .inr (.inl g)))]) sz)) (wQi (fun (r_ : Int32) (_ : Unit) => r_ = nI 2) D (fun (_ : Unit) => wc ++ [(o, .inl (cT.2.1, 1, .inr (.inl g)))]) (va_A (wc ++ [(o, .inl (cT.2.1, 1, .inr (.inl g)))]) sz)) 1 8 (va_A (wc ++ [(o, .inl (cT.2.1, 1, .inr (.inl g)))]) sz) := by
  refine wx_start (cc := cL_setNeed) (maxL := 6) (ret := (some .int)) (hh := [(0, 12, 15, 21), (0, 12, 19, 13)]) RL ⟨by decide +kernel, rfl⟩ rfl (Nat.le_of_ble_eq_true rfl) ?_
  intro p0_ e0 s0 m0 a0 b0 t0 c0 S hr hlocks htab hsz hP hK hA hD hS hX ls hl
  subst hsz
  generalize va_A (wc ++ [(o, .inl (cT.2.1, 1, .inr (.inl g)))]) s0.heap.size = A at hA hD hS ⊢
  have hl : lv_has ls 6 [(0, .ref c9), (1, .int p0), (2, .int p1), (3, .int p2), (4, .ref o)] := hl
  refine lv_aload S.1 S.2.1 dL_setNeed_0 (lv_at hl 4 rfl) ?_
  refine lv_iconst (v := (nI 0)) S.1 S.2.1 dL_setNeed_2 (by decide) ?_
  refine lv_aload_n S.1 S.2.1 dL_setNeed_3 rfl (lv_at hl 0 rfl) ?_
  refine lv_iload_n S.1 S.2.1 dL_setNeed_4 rfl (lv_at hl 1 rfl) ?_
  refine lv_iload_n S.1 S.2.1 dL_setNeed_5 rfl (lv_at hl 2 rfl) ?_
  refine lv_iload_n S.1 S.2.1 dL_setNeed_6 rfl (lv_at hl 3 rfl) ?_
  refine fr_callVx (As := [.int p0, .int p1, .int p2]) (rest := [.int (nI 0), .ref o]) (wc := wc) (wr := [(o, .inl (cT.2.1, 1, .inr (.inl g)))]) S (hM _) gL_setNeed_X8_setNeed rfl pd_X8_setNeed ⟨rfl, rfl, by decide, by decide⟩ hP hK hX hS hA (va_recv hK.1 (fr_l hP) (ci := 6) (q0 := 0) rfl hrv) hl rfl rfl (Nat.le_of_ble_eq_true rfl) (by decide) dL_setNeed_7 (fun q9 ce H locs hP hS hce hcv hcl => ?_)
  refine vx_catch (own := RL) (name := "java/lang/IllegalArgumentException") S.2.2.2.1 ([⟨0, 12, 15, 21⟩] : List ExceptionTableEntry) (⟨0, 12, 19, 13⟩ : ExceptionTableEntry) ([] : List ExceptionTableEntry) (htab.trans rfl) (fun z hz => by rcases List.mem_singleton.mp hz with rfl; exact Or.inr ⟨by decide, "java/lang/IndexOutOfBoundsException", S.2.2.2.2 _ wl_setNeed_1_1, hX.2.1 _ (show ("java/lang/IllegalArgumentException", "java/lang/IndexOutOfBoundsException") ∈ ncs by decide +kernel)⟩) (by decide) (by decide) (S.2.2.2.2 _ wl_setNeed_1_0) (va_Nw.use rfl (hK.2 (.castable "java/lang/IllegalArgumentException" "java/lang/IllegalArgumentException") (by decide +kernel))) hce hcv hcl ?_
  refine lv_astore (lv' := [(5, .ref q9), (0, .ref c9), (1, .int p0), (2, .int p1), (3, .int p2), (4, .ref o)]) S.1 S.2.1 dL_setNeed_19 hl (by decide) rfl (fun ls hl => ?_)
  refine lv_iconst (v := (nI 2)) S.1 S.2.1 dL_setNeed_21 (by decide) ?_
  refine W.widen (k := 1) (n := 8) (by decide) (by decide) ?_
  exact wr_iret S () hr rfl hlocks rfl hP hD hS dL_setNeed_22
set_option maxHeartbeats 4000000 in
set_option maxRecDepth 100000 in
theorem wo_forbid (l : Launch) (D : va_G) (cT : ClassId × ClassId × ClassId) (sz : Nat) {St : Type} {post : Int32 → St → Prop} {w1 : St → va_W} {wc : va_W} {rm : Room} {mc ms : Nat} {fs : List Value} (o c9 : Nat) (g : Nat → Int64) (p0 p1 p2 : Int32) (hM : ∀ sz, Met l yX8_forbid wsX8_forbid rm (va_Pc [.ref c9, .int p0, .int p1, .int p2] (wr_R D (TY cT) wc sz)) (wQi post D w1 (va_A wc sz)) mc ms (va_A wc sz)) (hrm : rm.cells = mc ∧ rm.slots = ms ∧ rm.frames + 1 ≤ 8 ∧ 8 + (4 + 11) + rm.locals ≤ 200) (hc : mc ≤ 1 ∧ ms ≤ 8) (hrv : wc[0]? = some (c9, .inr (6, fs))) : Met l yL_forbid wsL_forbid ({ frames := 8, cells := 1, slots := 8, locals := 200 } : Room) (va_Pc [.ref c9, .int p0, .int p1, .int p2, .ref o] (wx_R D (TY cT) (wc ++ [(o, .inl (cT.2.1, 1, .inr (.inl g)))]) sz)) (wQi (fun (r_ : Int32) (u_ : Int32 × St) => r_ = nI 0 ∧ post u_.1 u_.2) D (fun (u_ : Int32 × St) => w1 u_.2 ++ [(o, .inl (cT.2.1, 1, .inr (.inl (vp_updL g 0 (bl u_.1)))))]) (va_A (wc ++ [(o, .inl (cT.2.1, 1, .inr (.inl g)))]) sz)) 1 8 (va_A (wc ++ [(o, .inl (cT.2.1, 1, .inr (.inl g)))]) sz) := by
  refine wx_start (cc := cL_forbid) (maxL := 6) (ret := (some .int)) (hh := [(0, 19, 22, 21)]) RL ⟨by decide +kernel, rfl⟩ rfl (Nat.le_of_ble_eq_true rfl) ?_
  intro p0_ e0 s0 m0 a0 b0 t0 c0 S hr hlocks htab hsz hP hK hA hD hS hX ls hl
  subst hsz
  generalize va_A (wc ++ [(o, .inl (cT.2.1, 1, .inr (.inl g)))]) s0.heap.size = A at hA hD hS ⊢
  have hl : lv_has ls 6 [(0, .ref c9), (1, .int p0), (2, .int p1), (3, .int p2), (4, .ref o)] := hl
  refine lv_aload S.1 S.2.1 dL_forbid_0 (lv_at hl 4 rfl) ?_
  refine lv_iconst (v := (nI 0)) S.1 S.2.1 dL_forbid_2 (by decide) ?_
  refine lv_aload_n S.1 S.2.1 dL_forbid_3 rfl (lv_at hl 0 rfl) ?_
  refine lv_iload_n S.1 S.2.1 dL_forbid_4 rfl (lv_at hl 1 rfl) ?_
  refine lv_iload_n S.1 S.2.1 dL_forbid_5 rfl (lv_at hl 2 rfl) ?_
  refine lv_iload_n S.1 S.2.1 dL_forbid_6 rfl (lv_at hl 3 rfl) ?_
  refine fr_callVi (As := [.int p0, .int p1, .int p2]) (rest := [.int (nI 0), .ref o]) (wc := wc) (wr := [(o, .inl (cT.2.1, 1, .inr (.inl g)))]) S (hM _) gL_forbid_X8_forbid rfl pd_X8_forbid hrm hP hK hD hS hA (va_recv hK.1 (fr_l hP) (ci := 6) (q0 := 0) rfl hrv) hl rfl rfl (Nat.le_of_ble_eq_true rfl) ⟨by rw [Nat.zero_add]; exact hc.1, by rw [Nat.zero_add]; exact hc.2⟩ dL_forbid_7 (fun r u H locs hp hP hD hS => ?_)
  refine W.widen (k := 1) (n := 8) (by rw [Nat.zero_add]; exact hc.1) (by rw [Nat.zero_add]; exact hc.2) ?_
  refine lv_if_eq (tgt := 17) S.1 S.2.1 dL_forbid_10 (by decide) (fun cz => ?_) (fun cz => ?_)
  · refine lv_lconst (v := 0) S.1 S.2.1 dL_forbid_17 (by decide) ?_
    refine n_topl (show (0 : Int64) = bl r from (if_pos cz).symm) ?_
    refine w_last (g := g) (i := 0) (n := 1) (v := bl r) S ((w1 u).length + 0) hK hP hD hS (ap_at.trans rfl) (by decide) dL_forbid_18 (fun H locs hP hD hS => ?_)
    rw [ap_set] at hP hD
    have hP : va_P D vwCl (w1 u ++ [(o, .inl (cT.2.1, 1, .inr (.inl (vp_updL g 0 (bl r)))))]) H := hP
    have hD : va_D A (w1 u ++ [(o, .inl (cT.2.1, 1, .inr (.inl (vp_updL g 0 (bl r)))))]) := hD
    refine lv_goto (tgt := 26) S.1 S.2.1 dL_forbid_19 (by decide) ?_
    refine lv_iconst (v := (nI 0)) S.1 S.2.1 dL_forbid_26 (by decide) ?_
    exact wr_iret S (r, u) hr rfl hlocks ⟨rfl, hp⟩ hP hD hS dL_forbid_27
  · refine lv_lconst (v := 1) S.1 S.2.1 dL_forbid_13 (by decide) ?_
    refine lv_goto (tgt := 18) S.1 S.2.1 dL_forbid_14 (by decide) ?_
    refine n_topl (show (1 : Int64) = bl r from (if_neg cz).symm) ?_
    refine w_last (g := g) (i := 0) (n := 1) (v := bl r) S ((w1 u).length + 0) hK hP hD hS (ap_at.trans rfl) (by decide) dL_forbid_18 (fun H locs hP hD hS => ?_)
    rw [ap_set] at hP hD
    have hP : va_P D vwCl (w1 u ++ [(o, .inl (cT.2.1, 1, .inr (.inl (vp_updL g 0 (bl r)))))]) H := hP
    have hD : va_D A (w1 u ++ [(o, .inl (cT.2.1, 1, .inr (.inl (vp_updL g 0 (bl r)))))]) := hD
    refine lv_goto (tgt := 26) S.1 S.2.1 dL_forbid_19 (by decide) ?_
    refine lv_iconst (v := (nI 0)) S.1 S.2.1 dL_forbid_26 (by decide) ?_
    exact wr_iret S (r, u) hr rfl hlocks ⟨rfl, hp⟩ hP hD hS dL_forbid_27
theorem wl_forbid_0_0 : Cond.classLink RL 21 "java/lang/IndexOutOfBoundsException" ∈ wsL_forbid := by decide +kernel
set_option maxHeartbeats 4000000 in
set_option maxRecDepth 100000 in
theorem wt_forbid_I (l : Launch) (D : va_G) (cT : ClassId × ClassId × ClassId) (sz : Nat) {wc : va_W} {fs : List Value} (o c9 : Nat) (g : Nat → Int64) (p0 p1 p2 : Int32) (hM : ∀ sz, vx_Met l yX8_forbid wsX8_forbid ({ frames := 6, cells := 1, slots := 6, locals := 160 } : Room) (va_Pc [.ref c9, .int p0, .int p1, .int p2] (tr_R D (TY cT) wc sz)) (tr_Q sz) (tr_X "java/lang/IndexOutOfBoundsException" sz) 1 6 (fun q => sz ≤ q)) (hrv : wc[0]? = some (c9, .inr (6, fs))) : Met l yL_forbid wsL_forbid ({ frames := 8, cells := 1, slots := 8, locals := 200 } : Room) (va_Pc [.ref c9, .int p0, .int p1, .int p2, .ref o] (wx_R D (TY cT) (wc ++ [(o, .inl (cT.2.1, 1, .inr (.inl g)))]) sz)) (wQi (fun (r_ : Int32) (_ : Unit) => r_ = nI 1) D (fun (_ : Unit) => wc ++ [(o, .inl (cT.2.1, 1, .inr (.inl g)))]) (va_A (wc ++ [(o, .inl (cT.2.1, 1, .inr (.inl g)))]) sz)) 1 8 (va_A (wc ++ [(o, .inl (cT.2.1, 1, .inr (.inl g)))]) sz) := by
  refine wx_start (cc := cL_forbid) (maxL := 6) (ret := (some .int)) (hh := [(0, 19, 22, 21)]) RL ⟨by decide +kernel, rfl⟩ rfl (Nat.le_of_ble_eq_true rfl) ?_
  intro p0_ e0 s0 m0 a0 b0 t0 c0 S hr hlocks htab hsz hP hK hA hD hS hX ls hl
  subst hsz
  generalize va_A (wc ++ [(o, .inl (cT.2.1, 1, .inr (.inl g)))]) s0.heap.size = A at hA hD hS ⊢
  have hl : lv_has ls 6 [(0, .ref c9), (1, .int p0), (2, .int p1), (3, .int p2), (4, .ref o)] := hl
  refine lv_aload S.1 S.2.1 dL_forbid_0 (lv_at hl 4 rfl) ?_
  refine lv_iconst (v := (nI 0)) S.1 S.2.1 dL_forbid_2 (by decide) ?_
  refine lv_aload_n S.1 S.2.1 dL_forbid_3 rfl (lv_at hl 0 rfl) ?_
  refine lv_iload_n S.1 S.2.1 dL_forbid_4 rfl (lv_at hl 1 rfl) ?_
  refine lv_iload_n S.1 S.2.1 dL_forbid_5 rfl (lv_at hl 2 rfl) ?_
  refine lv_iload_n S.1 S.2.1 dL_forbid_6 rfl (lv_at hl 3 rfl) ?_
  refine fr_callVx (As := [.int p0, .int p1, .int p2]) (rest := [.int (nI 0), .ref o]) (wc := wc) (wr := [(o, .inl (cT.2.1, 1, .inr (.inl g)))]) S (hM _) gL_forbid_X8_forbid rfl pd_X8_forbid ⟨rfl, rfl, by decide, by decide⟩ hP hK hX hS hA (va_recv hK.1 (fr_l hP) (ci := 6) (q0 := 0) rfl hrv) hl rfl rfl (Nat.le_of_ble_eq_true rfl) (by decide) dL_forbid_7 (fun q9 ce H locs hP hS hce hcv hcl => ?_)
  refine vx_catch (own := RL) (name := "java/lang/IndexOutOfBoundsException") S.2.2.2.1 ([] : List ExceptionTableEntry) (⟨0, 19, 22, 21⟩ : ExceptionTableEntry) ([] : List ExceptionTableEntry) (htab.trans rfl) (fun z hz => absurd hz List.not_mem_nil) (by decide) (by decide) (S.2.2.2.2 _ wl_forbid_0_0) (va_Nw.use rfl (hK.2 (.castable "java/lang/IndexOutOfBoundsException" "java/lang/IndexOutOfBoundsException") (by decide +kernel))) hce hcv hcl ?_
  refine lv_astore (lv' := [(5, .ref q9), (0, .ref c9), (1, .int p0), (2, .int p1), (3, .int p2), (4, .ref o)]) S.1 S.2.1 dL_forbid_22 hl (by decide) rfl (fun ls hl => ?_)
  refine lv_iconst (v := (nI 1)) S.1 S.2.1 dL_forbid_24 (by decide) ?_
  refine W.widen (k := 1) (n := 8) (by decide) (by decide) ?_
  exact wr_iret S () hr rfl hlocks rfl hP hD hS dL_forbid_25
set_option maxHeartbeats 4000000 in
set_option maxRecDepth 100000 in
theorem wo_setRun (l : Launch) (D : va_G) (cT : ClassId × ClassId × ClassId) (sz : Nat) {St : Type} {post : Int32 → St → Prop} {w1 : St → va_W} {wc : va_W} {rm : Room} {mc ms : Nat} {fs : List Value} (o c9 : Nat) (g : Nat → Int64) (p0 : Int32) (hM : ∀ sz, Met l yX8_setRun wsX8_setRun rm (va_Pc [.ref c9, .int p0] (wr_R D (TY cT) wc sz)) (wQi post D w1 (va_A wc sz)) mc ms (va_A wc sz)) (hrm : rm.cells = mc ∧ rm.slots = ms ∧ rm.frames + 1 ≤ 8 ∧ 8 + (3 + 11) + rm.locals ≤ 200) (hc : mc ≤ 1 ∧ ms ≤ 8) (hrv : wc[0]? = some (c9, .inr (6, fs))) : Met l yL_setRun wsL_setRun ({ frames := 8, cells := 1, slots := 8, locals := 200 } : Room) (va_Pc [.ref c9, .int p0, .ref o] (wx_R D (TY cT) (wc ++ [(o, .inl (cT.2.1, 1, .inr (.inl g)))]) sz)) (wQi (fun (r_ : Int32) (u_ : Int32 × St) => r_ = nI 0 ∧ post u_.1 u_.2) D (fun (u_ : Int32 × St) => w1 u_.2 ++ [(o, .inl (cT.2.1, 1, .inr (.inl (vp_updL g 0 (u_.1.toInt64)))))]) (va_A (wc ++ [(o, .inl (cT.2.1, 1, .inr (.inl g)))]) sz)) 1 8 (va_A (wc ++ [(o, .inl (cT.2.1, 1, .inr (.inl g)))]) sz) := by
  refine wx_start (cc := cL_setRun) (maxL := 4) (ret := (some .int)) (hh := [(0, 9, 12, 13)]) RL ⟨by decide +kernel, rfl⟩ rfl (Nat.le_of_ble_eq_true rfl) ?_
  intro p0_ e0 s0 m0 a0 b0 t0 c0 S hr hlocks htab hsz hP hK hA hD hS hX ls hl
  subst hsz
  generalize va_A (wc ++ [(o, .inl (cT.2.1, 1, .inr (.inl g)))]) s0.heap.size = A at hA hD hS ⊢
  have hl : lv_has ls 4 [(0, .ref c9), (1, .int p0), (2, .ref o)] := hl
  refine lv_aload_n S.1 S.2.1 dL_setRun_0 rfl (lv_at hl 2 rfl) ?_
  refine lv_iconst (v := (nI 0)) S.1 S.2.1 dL_setRun_1 (by decide) ?_
  refine lv_aload_n S.1 S.2.1 dL_setRun_2 rfl (lv_at hl 0 rfl) ?_
  refine lv_iload_n S.1 S.2.1 dL_setRun_3 rfl (lv_at hl 1 rfl) ?_
  refine fr_callVi (As := [.int p0]) (rest := [.int (nI 0), .ref o]) (wc := wc) (wr := [(o, .inl (cT.2.1, 1, .inr (.inl g)))]) S (hM _) gL_setRun_X8_setRun rfl pd_X8_setRun hrm hP hK hD hS hA (va_recv hK.1 (fr_l hP) (ci := 6) (q0 := 0) rfl hrv) hl rfl rfl (Nat.le_of_ble_eq_true rfl) ⟨by rw [Nat.zero_add]; exact hc.1, by rw [Nat.zero_add]; exact hc.2⟩ dL_setRun_4 (fun r u H locs hp hP hD hS => ?_)
  refine W.widen (k := 1) (n := 8) (by rw [Nat.zero_add]; exact hc.1) (by rw [Nat.zero_add]; exact hc.2) ?_
  refine lv_i2l S.1 S.2.1 dL_setRun_7 rfl ?_
  refine w_last (g := g) (i := 0) (n := 1) (v := r.toInt64) S ((w1 u).length + 0) hK hP hD hS (ap_at.trans rfl) (by decide) dL_setRun_8 (fun H locs hP hD hS => ?_)
  rw [ap_set] at hP hD
  have hP : va_P D vwCl (w1 u ++ [(o, .inl (cT.2.1, 1, .inr (.inl (vp_updL g 0 (r.toInt64)))))]) H := hP
  have hD : va_D A (w1 u ++ [(o, .inl (cT.2.1, 1, .inr (.inl (vp_updL g 0 (r.toInt64)))))]) := hD
  refine lv_goto (tgt := 15) S.1 S.2.1 dL_setRun_9 (by decide) ?_
  refine lv_iconst (v := (nI 0)) S.1 S.2.1 dL_setRun_15 (by decide) ?_
  exact wr_iret S (r, u) hr rfl hlocks ⟨rfl, hp⟩ hP hD hS dL_setRun_16
theorem wl_setRun_0_0 : Cond.classLink RL 13 "java/lang/IllegalArgumentException" ∈ wsL_setRun := by decide +kernel
set_option maxHeartbeats 4000000 in
set_option maxRecDepth 100000 in
theorem wt_setRun_A (l : Launch) (D : va_G) (cT : ClassId × ClassId × ClassId) (sz : Nat) {wc : va_W} {fs : List Value} (o c9 : Nat) (g : Nat → Int64) (p0 : Int32) (hM : ∀ sz, vx_Met l yX8_setRun wsX8_setRun ({ frames := 6, cells := 1, slots := 6, locals := 160 } : Room) (va_Pc [.ref c9, .int p0] (tr_R D (TY cT) wc sz)) (tr_Q sz) (tr_X "java/lang/IllegalArgumentException" sz) 1 6 (fun q => sz ≤ q)) (hrv : wc[0]? = some (c9, .inr (6, fs))) : Met l yL_setRun wsL_setRun ({ frames := 8, cells := 1, slots := 8, locals := 200 } : Room) (va_Pc [.ref c9, .int p0, .ref o] (wx_R D (TY cT) (wc ++ [(o, .inl (cT.2.1, 1, .inr (.inl g)))]) sz)) (wQi (fun (r_ : Int32) (_ : Unit) => r_ = nI 1) D (fun (_ : Unit) => wc ++ [(o, .inl (cT.2.1, 1, .inr (.inl g)))]) (va_A (wc ++ [(o, .inl (cT.2.1, 1, .inr (.inl g)))]) sz)) 1 8 (va_A (wc ++ [(o, .inl (cT.2.1, 1, .inr (.inl g)))]) sz) := by
  refine wx_start (cc := cL_setRun) (maxL := 4) (ret := (some .int)) (hh := [(0, 9, 12, 13)]) RL ⟨by decide +kernel, rfl⟩ rfl (Nat.le_of_ble_eq_true rfl) ?_
  intro p0_ e0 s0 m0 a0 b0 t0 c0 S hr hlocks htab hsz hP hK hA hD hS hX ls hl
  subst hsz
  generalize va_A (wc ++ [(o, .inl (cT.2.1, 1, .inr (.inl g)))]) s0.heap.size = A at hA hD hS ⊢
  have hl : lv_has ls 4 [(0, .ref c9), (1, .int p0), (2, .ref o)] := hl
  refine lv_aload_n S.1 S.2.1 dL_setRun_0 rfl (lv_at hl 2 rfl) ?_
  refine lv_iconst (v := (nI 0)) S.1 S.2.1 dL_setRun_1 (by decide) ?_
  refine lv_aload_n S.1 S.2.1 dL_setRun_2 rfl (lv_at hl 0 rfl) ?_
  refine lv_iload_n S.1 S.2.1 dL_setRun_3 rfl (lv_at hl 1 rfl) ?_
  refine fr_callVx (As := [.int p0]) (rest := [.int (nI 0), .ref o]) (wc := wc) (wr := [(o, .inl (cT.2.1, 1, .inr (.inl g)))]) S (hM _) gL_setRun_X8_setRun rfl pd_X8_setRun ⟨rfl, rfl, by decide, by decide⟩ hP hK hX hS hA (va_recv hK.1 (fr_l hP) (ci := 6) (q0 := 0) rfl hrv) hl rfl rfl (Nat.le_of_ble_eq_true rfl) (by decide) dL_setRun_4 (fun q9 ce H locs hP hS hce hcv hcl => ?_)
  refine vx_catch (own := RL) (name := "java/lang/IllegalArgumentException") S.2.2.2.1 ([] : List ExceptionTableEntry) (⟨0, 9, 12, 13⟩ : ExceptionTableEntry) ([] : List ExceptionTableEntry) (htab.trans rfl) (fun z hz => absurd hz List.not_mem_nil) (by decide) (by decide) (S.2.2.2.2 _ wl_setRun_0_0) (va_Nw.use rfl (hK.2 (.castable "java/lang/IllegalArgumentException" "java/lang/IllegalArgumentException") (by decide +kernel))) hce hcv hcl ?_
  refine lv_astore_n (lv' := [(3, .ref q9), (0, .ref c9), (1, .int p0), (2, .ref o)]) S.1 S.2.1 dL_setRun_12 rfl hl (by decide) rfl (fun ls hl => ?_)
  refine lv_iconst (v := (nI 1)) S.1 S.2.1 dL_setRun_13 (by decide) ?_
  refine W.widen (k := 1) (n := 8) (by decide) (by decide) ?_
  exact wr_iret S () hr rfl hlocks rfl hP hD hS dL_setRun_14
set_option maxHeartbeats 4000000 in
set_option maxRecDepth 100000 in
theorem wo_wish (l : Launch) (D : va_G) (cT : ClassId × ClassId × ClassId) (sz : Nat) {St : Type} {post : Int32 → St → Prop} {w1 : St → va_W} {wc : va_W} {rm : Room} {mc ms : Nat} {fs : List Value} (o c9 : Nat) (g : Nat → Int64) (p0 p1 p2 : Int32) (hM : ∀ sz, Met l yX8_wish wsX8_wish rm (va_Pc [.ref c9, .int p0, .int p1, .int p2] (wr_R D (TY cT) wc sz)) (wQi post D w1 (va_A wc sz)) mc ms (va_A wc sz)) (hrm : rm.cells = mc ∧ rm.slots = ms ∧ rm.frames + 1 ≤ 8 ∧ 8 + (5 + 11) + rm.locals ≤ 200) (hc : mc ≤ 1 ∧ ms ≤ 8) (hrv : wc[0]? = some (c9, .inr (6, fs))) : Met l yL_wish wsL_wish ({ frames := 8, cells := 1, slots := 8, locals := 200 } : Room) (va_Pc [.ref c9, .int p0, .int p1, .int p2, .ref o] (wx_R D (TY cT) (wc ++ [(o, .inl (cT.2.1, 1, .inr (.inl g)))]) sz)) (wQi (fun (r_ : Int32) (u_ : Int32 × St) => r_ = nI 0 ∧ post u_.1 u_.2) D (fun (u_ : Int32 × St) => w1 u_.2 ++ [(o, .inl (cT.2.1, 1, .inr (.inl (vp_updL g 0 (bl u_.1)))))]) (va_A (wc ++ [(o, .inl (cT.2.1, 1, .inr (.inl g)))]) sz)) 1 8 (va_A (wc ++ [(o, .inl (cT.2.1, 1, .inr (.inl g)))]) sz) := by
  refine wx_start (cc := cL_wish) (maxL := 6) (ret := (some .int)) (hh := [(0, 19, 22, 21)]) RL ⟨by decide +kernel, rfl⟩ rfl (Nat.le_of_ble_eq_true rfl) ?_
  intro p0_ e0 s0 m0 a0 b0 t0 c0 S hr hlocks htab hsz hP hK hA hD hS hX ls hl
  subst hsz
  generalize va_A (wc ++ [(o, .inl (cT.2.1, 1, .inr (.inl g)))]) s0.heap.size = A at hA hD hS ⊢
  have hl : lv_has ls 6 [(0, .ref c9), (1, .int p0), (2, .int p1), (3, .int p2), (4, .ref o)] := hl
  refine lv_aload S.1 S.2.1 dL_wish_0 (lv_at hl 4 rfl) ?_
  refine lv_iconst (v := (nI 0)) S.1 S.2.1 dL_wish_2 (by decide) ?_
  refine lv_aload_n S.1 S.2.1 dL_wish_3 rfl (lv_at hl 0 rfl) ?_
  refine lv_iload_n S.1 S.2.1 dL_wish_4 rfl (lv_at hl 1 rfl) ?_
  refine lv_iload_n S.1 S.2.1 dL_wish_5 rfl (lv_at hl 2 rfl) ?_
  refine lv_iload_n S.1 S.2.1 dL_wish_6 rfl (lv_at hl 3 rfl) ?_
  refine fr_callVi (As := [.int p0, .int p1, .int p2]) (rest := [.int (nI 0), .ref o]) (wc := wc) (wr := [(o, .inl (cT.2.1, 1, .inr (.inl g)))]) S (hM _) gL_wish_X8_wish rfl pd_X8_wish hrm hP hK hD hS hA (va_recv hK.1 (fr_l hP) (ci := 6) (q0 := 0) rfl hrv) hl rfl rfl (Nat.le_of_ble_eq_true rfl) ⟨by rw [Nat.zero_add]; exact hc.1, by rw [Nat.zero_add]; exact hc.2⟩ dL_wish_7 (fun r u H locs hp hP hD hS => ?_)
  refine W.widen (k := 1) (n := 8) (by rw [Nat.zero_add]; exact hc.1) (by rw [Nat.zero_add]; exact hc.2) ?_
  refine lv_if_eq (tgt := 17) S.1 S.2.1 dL_wish_10 (by decide) (fun cz => ?_) (fun cz => ?_)
  · refine lv_lconst (v := 0) S.1 S.2.1 dL_wish_17 (by decide) ?_
    refine n_topl (show (0 : Int64) = bl r from (if_pos cz).symm) ?_
    refine w_last (g := g) (i := 0) (n := 1) (v := bl r) S ((w1 u).length + 0) hK hP hD hS (ap_at.trans rfl) (by decide) dL_wish_18 (fun H locs hP hD hS => ?_)
    rw [ap_set] at hP hD
    have hP : va_P D vwCl (w1 u ++ [(o, .inl (cT.2.1, 1, .inr (.inl (vp_updL g 0 (bl r)))))]) H := hP
    have hD : va_D A (w1 u ++ [(o, .inl (cT.2.1, 1, .inr (.inl (vp_updL g 0 (bl r)))))]) := hD
    refine lv_goto (tgt := 26) S.1 S.2.1 dL_wish_19 (by decide) ?_
    refine lv_iconst (v := (nI 0)) S.1 S.2.1 dL_wish_26 (by decide) ?_
    exact wr_iret S (r, u) hr rfl hlocks ⟨rfl, hp⟩ hP hD hS dL_wish_27
  · refine lv_lconst (v := 1) S.1 S.2.1 dL_wish_13 (by decide) ?_
    refine lv_goto (tgt := 18) S.1 S.2.1 dL_wish_14 (by decide) ?_
    refine n_topl (show (1 : Int64) = bl r from (if_neg cz).symm) ?_
    refine w_last (g := g) (i := 0) (n := 1) (v := bl r) S ((w1 u).length + 0) hK hP hD hS (ap_at.trans rfl) (by decide) dL_wish_18 (fun H locs hP hD hS => ?_)
    rw [ap_set] at hP hD
    have hP : va_P D vwCl (w1 u ++ [(o, .inl (cT.2.1, 1, .inr (.inl (vp_updL g 0 (bl r)))))]) H := hP
    have hD : va_D A (w1 u ++ [(o, .inl (cT.2.1, 1, .inr (.inl (vp_updL g 0 (bl r)))))]) := hD
    refine lv_goto (tgt := 26) S.1 S.2.1 dL_wish_19 (by decide) ?_
    refine lv_iconst (v := (nI 0)) S.1 S.2.1 dL_wish_26 (by decide) ?_
    exact wr_iret S (r, u) hr rfl hlocks ⟨rfl, hp⟩ hP hD hS dL_wish_27
theorem wl_wish_0_0 : Cond.classLink RL 21 "java/lang/IndexOutOfBoundsException" ∈ wsL_wish := by decide +kernel
set_option maxHeartbeats 4000000 in
set_option maxRecDepth 100000 in
theorem wt_wish_I (l : Launch) (D : va_G) (cT : ClassId × ClassId × ClassId) (sz : Nat) {wc : va_W} {fs : List Value} (o c9 : Nat) (g : Nat → Int64) (p0 p1 p2 : Int32) (hM : ∀ sz, vx_Met l yX8_wish wsX8_wish ({ frames := 6, cells := 1, slots := 6, locals := 160 } : Room) (va_Pc [.ref c9, .int p0, .int p1, .int p2] (tr_R D (TY cT) wc sz)) (tr_Q sz) (tr_X "java/lang/IndexOutOfBoundsException" sz) 1 6 (fun q => sz ≤ q)) (hrv : wc[0]? = some (c9, .inr (6, fs))) : Met l yL_wish wsL_wish ({ frames := 8, cells := 1, slots := 8, locals := 200 } : Room) (va_Pc [.ref c9, .int p0, .int p1, .int p2, .ref o] (wx_R D (TY cT) (wc ++ [(o, .inl (cT.2.1, 1, .inr (.inl g)))]) sz)) (wQi (fun (r_ : Int32) (_ : Unit) => r_ = nI 1) D (fun (_ : Unit) => wc ++ [(o, .inl (cT.2.1, 1, .inr (.inl g)))]) (va_A (wc ++ [(o, .inl (cT.2.1, 1, .inr (.inl g)))]) sz)) 1 8 (va_A (wc ++ [(o, .inl (cT.2.1, 1, .inr (.inl g)))]) sz) := by
  refine wx_start (cc := cL_wish) (maxL := 6) (ret := (some .int)) (hh := [(0, 19, 22, 21)]) RL ⟨by decide +kernel, rfl⟩ rfl (Nat.le_of_ble_eq_true rfl) ?_
  intro p0_ e0 s0 m0 a0 b0 t0 c0 S hr hlocks htab hsz hP hK hA hD hS hX ls hl
  subst hsz
  generalize va_A (wc ++ [(o, .inl (cT.2.1, 1, .inr (.inl g)))]) s0.heap.size = A at hA hD hS ⊢
  have hl : lv_has ls 6 [(0, .ref c9), (1, .int p0), (2, .int p1), (3, .int p2), (4, .ref o)] := hl
  refine lv_aload S.1 S.2.1 dL_wish_0 (lv_at hl 4 rfl) ?_
  refine lv_iconst (v := (nI 0)) S.1 S.2.1 dL_wish_2 (by decide) ?_
  refine lv_aload_n S.1 S.2.1 dL_wish_3 rfl (lv_at hl 0 rfl) ?_
  refine lv_iload_n S.1 S.2.1 dL_wish_4 rfl (lv_at hl 1 rfl) ?_
  refine lv_iload_n S.1 S.2.1 dL_wish_5 rfl (lv_at hl 2 rfl) ?_
  refine lv_iload_n S.1 S.2.1 dL_wish_6 rfl (lv_at hl 3 rfl) ?_
  refine fr_callVx (As := [.int p0, .int p1, .int p2]) (rest := [.int (nI 0), .ref o]) (wc := wc) (wr := [(o, .inl (cT.2.1, 1, .inr (.inl g)))]) S (hM _) gL_wish_X8_wish rfl pd_X8_wish ⟨rfl, rfl, by decide, by decide⟩ hP hK hX hS hA (va_recv hK.1 (fr_l hP) (ci := 6) (q0 := 0) rfl hrv) hl rfl rfl (Nat.le_of_ble_eq_true rfl) (by decide) dL_wish_7 (fun q9 ce H locs hP hS hce hcv hcl => ?_)
  refine vx_catch (own := RL) (name := "java/lang/IndexOutOfBoundsException") S.2.2.2.1 ([] : List ExceptionTableEntry) (⟨0, 19, 22, 21⟩ : ExceptionTableEntry) ([] : List ExceptionTableEntry) (htab.trans rfl) (fun z hz => absurd hz List.not_mem_nil) (by decide) (by decide) (S.2.2.2.2 _ wl_wish_0_0) (va_Nw.use rfl (hK.2 (.castable "java/lang/IndexOutOfBoundsException" "java/lang/IndexOutOfBoundsException") (by decide +kernel))) hce hcv hcl ?_
  refine lv_astore (lv' := [(5, .ref q9), (0, .ref c9), (1, .int p0), (2, .int p1), (3, .int p2), (4, .ref o)]) S.1 S.2.1 dL_wish_22 hl (by decide) rfl (fun ls hl => ?_)
  refine lv_iconst (v := (nI 1)) S.1 S.2.1 dL_wish_24 (by decide) ?_
  refine W.widen (k := 1) (n := 8) (by decide) (by decide) ?_
  exact wr_iret S () hr rfl hlocks rfl hP hD hS dL_wish_25
set_option maxHeartbeats 4000000 in
set_option maxRecDepth 100000 in
theorem wo_fix (l : Launch) (D : va_G) (cT : ClassId × ClassId × ClassId) (sz : Nat) {St : Type} {post : Int32 → St → Prop} {w1 : St → va_W} {wc : va_W} {rm : Room} {mc ms : Nat} {fs : List Value} (o c9 : Nat) (g : Nat → Int64) (p0 p1 p2 : Int32) (hM : ∀ sz, Met l yX8_fix wsX8_fix rm (va_Pc [.ref c9, .int p0, .int p1, .int p2] (wr_R D (TY cT) wc sz)) (wQi post D w1 (va_A wc sz)) mc ms (va_A wc sz)) (hrm : rm.cells = mc ∧ rm.slots = ms ∧ rm.frames + 1 ≤ 8 ∧ 8 + (6 + 11) + rm.locals ≤ 200) (hc : mc ≤ 1 ∧ ms ≤ 8) (hrv : wc[0]? = some (c9, .inr (6, fs))) : Met l yL_fix wsL_fix ({ frames := 8, cells := 1, slots := 8, locals := 200 } : Room) (va_Pc [.ref c9, .int p0, .int p1, .int p2, .ref o] (wx_R D (TY cT) (wc ++ [(o, .inl (cT.2.1, 1, .inr (.inl g)))]) sz)) (wQi (fun (r_ : Int32) (u_ : Int32 × St) => r_ = nI 0 ∧ post u_.1 u_.2) D (fun (u_ : Int32 × St) => w1 u_.2 ++ [(o, .inl (cT.2.1, 1, .inr (.inl (vp_updL g 0 (u_.1.toInt64)))))]) (va_A (wc ++ [(o, .inl (cT.2.1, 1, .inr (.inl g)))]) sz)) 1 8 (va_A (wc ++ [(o, .inl (cT.2.1, 1, .inr (.inl g)))]) sz) := by
  refine wx_start (cc := cL_fix) (maxL := 6) (ret := (some .int)) (hh := [(0, 12, 15, 21), (0, 12, 19, 13)]) RL ⟨by decide +kernel, rfl⟩ rfl (Nat.le_of_ble_eq_true rfl) ?_
  intro p0_ e0 s0 m0 a0 b0 t0 c0 S hr hlocks htab hsz hP hK hA hD hS hX ls hl
  subst hsz
  generalize va_A (wc ++ [(o, .inl (cT.2.1, 1, .inr (.inl g)))]) s0.heap.size = A at hA hD hS ⊢
  have hl : lv_has ls 6 [(0, .ref c9), (1, .int p0), (2, .int p1), (3, .int p2), (4, .ref o)] := hl
  refine lv_aload S.1 S.2.1 dL_fix_0 (lv_at hl 4 rfl) ?_
  refine lv_iconst (v := (nI 0)) S.1 S.2.1 dL_fix_2 (by decide) ?_
  refine lv_aload_n S.1 S.2.1 dL_fix_3 rfl (lv_at hl 0 rfl) ?_
  refine lv_iload_n S.1 S.2.1 dL_fix_4 rfl (lv_at hl 1 rfl) ?_
  refine lv_iload_n S.1 S.2.1 dL_fix_5 rfl (lv_at hl 2 rfl) ?_
  refine lv_iload_n S.1 S.2.1 dL_fix_6 rfl (lv_at hl 3 rfl) ?_
  refine fr_callVi (As := [.int p0, .int p1, .int p2]) (rest := [.int (nI 0), .ref o]) (wc := wc) (wr := [(o, .inl (cT.2.1, 1, .inr (.inl g)))]) S (hM _) gL_fix_X8_fix rfl pd_X8_fix hrm hP hK hD hS hA (va_recv hK.1 (fr_l hP) (ci := 6) (q0 := 0) rfl hrv) hl rfl rfl (Nat.le_of_ble_eq_true rfl) ⟨by rw [Nat.zero_add]; exact hc.1, by rw [Nat.zero_add]; exact hc.2⟩ dL_fix_7 (fun r u H locs hp hP hD hS => ?_)
  refine W.widen (k := 1) (n := 8) (by rw [Nat.zero_add]; exact hc.1) (by rw [Nat.zero_add]; exact hc.2) ?_
  refine lv_i2l S.1 S.2.1 dL_fix_10 rfl ?_
  refine w_last (g := g) (i := 0) (n := 1) (v := r.toInt64) S ((w1 u).length + 0) hK hP hD hS (ap_at.trans rfl) (by decide) dL_fix_11 (fun H locs hP hD hS => ?_)
  rw [ap_set] at hP hD
  have hP : va_P D vwCl (w1 u ++ [(o, .inl (cT.2.1, 1, .inr (.inl (vp_updL g 0 (r.toInt64)))))]) H := hP
  have hD : va_D A (w1 u ++ [(o, .inl (cT.2.1, 1, .inr (.inl (vp_updL g 0 (r.toInt64)))))]) := hD
  refine lv_goto (tgt := 23) S.1 S.2.1 dL_fix_12 (by decide) ?_
  refine lv_iconst (v := (nI 0)) S.1 S.2.1 dL_fix_23 (by decide) ?_
  exact wr_iret S (r, u) hr rfl hlocks ⟨rfl, hp⟩ hP hD hS dL_fix_24
theorem wl_fix_0_0 : Cond.classLink RL 21 "java/lang/IndexOutOfBoundsException" ∈ wsL_fix := by decide +kernel
set_option maxHeartbeats 4000000 in
set_option maxRecDepth 100000 in
theorem wt_fix_I (l : Launch) (D : va_G) (cT : ClassId × ClassId × ClassId) (sz : Nat) {wc : va_W} {fs : List Value} (o c9 : Nat) (g : Nat → Int64) (p0 p1 p2 : Int32) (hM : ∀ sz, vx_Met l yX8_fix wsX8_fix ({ frames := 6, cells := 1, slots := 6, locals := 160 } : Room) (va_Pc [.ref c9, .int p0, .int p1, .int p2] (tr_R D (TY cT) wc sz)) (tr_Q sz) (tr_X "java/lang/IndexOutOfBoundsException" sz) 1 6 (fun q => sz ≤ q)) (hrv : wc[0]? = some (c9, .inr (6, fs))) : Met l yL_fix wsL_fix ({ frames := 8, cells := 1, slots := 8, locals := 200 } : Room) (va_Pc [.ref c9, .int p0, .int p1, .int p2, .ref o] (wx_R D (TY cT) (wc ++ [(o, .inl (cT.2.1, 1, .inr (.inl g)))]) sz)) (wQi (fun (r_ : Int32) (_ : Unit) => r_ = nI 1) D (fun (_ : Unit) => wc ++ [(o, .inl (cT.2.1, 1, .inr (.inl g)))]) (va_A (wc ++ [(o, .inl (cT.2.1, 1, .inr (.inl g)))]) sz)) 1 8 (va_A (wc ++ [(o, .inl (cT.2.1, 1, .inr (.inl g)))]) sz) := by
  refine wx_start (cc := cL_fix) (maxL := 6) (ret := (some .int)) (hh := [(0, 12, 15, 21), (0, 12, 19, 13)]) RL ⟨by decide +kernel, rfl⟩ rfl (Nat.le_of_ble_eq_true rfl) ?_
  intro p0_ e0 s0 m0 a0 b0 t0 c0 S hr hlocks htab hsz hP hK hA hD hS hX ls hl
  subst hsz
  generalize va_A (wc ++ [(o, .inl (cT.2.1, 1, .inr (.inl g)))]) s0.heap.size = A at hA hD hS ⊢
  have hl : lv_has ls 6 [(0, .ref c9), (1, .int p0), (2, .int p1), (3, .int p2), (4, .ref o)] := hl
  refine lv_aload S.1 S.2.1 dL_fix_0 (lv_at hl 4 rfl) ?_
  refine lv_iconst (v := (nI 0)) S.1 S.2.1 dL_fix_2 (by decide) ?_
  refine lv_aload_n S.1 S.2.1 dL_fix_3 rfl (lv_at hl 0 rfl) ?_
  refine lv_iload_n S.1 S.2.1 dL_fix_4 rfl (lv_at hl 1 rfl) ?_
  refine lv_iload_n S.1 S.2.1 dL_fix_5 rfl (lv_at hl 2 rfl) ?_
  refine lv_iload_n S.1 S.2.1 dL_fix_6 rfl (lv_at hl 3 rfl) ?_
  refine fr_callVx (As := [.int p0, .int p1, .int p2]) (rest := [.int (nI 0), .ref o]) (wc := wc) (wr := [(o, .inl (cT.2.1, 1, .inr (.inl g)))]) S (hM _) gL_fix_X8_fix rfl pd_X8_fix ⟨rfl, rfl, by decide, by decide⟩ hP hK hX hS hA (va_recv hK.1 (fr_l hP) (ci := 6) (q0 := 0) rfl hrv) hl rfl rfl (Nat.le_of_ble_eq_true rfl) (by decide) dL_fix_7 (fun q9 ce H locs hP hS hce hcv hcl => ?_)
  refine vx_catch (own := RL) (name := "java/lang/IndexOutOfBoundsException") S.2.2.2.1 ([] : List ExceptionTableEntry) (⟨0, 12, 15, 21⟩ : ExceptionTableEntry) ([⟨0, 12, 19, 13⟩] : List ExceptionTableEntry) (htab.trans rfl) (fun z hz => absurd hz List.not_mem_nil) (by decide) (by decide) (S.2.2.2.2 _ wl_fix_0_0) (va_Nw.use rfl (hK.2 (.castable "java/lang/IndexOutOfBoundsException" "java/lang/IndexOutOfBoundsException") (by decide +kernel))) hce hcv hcl ?_
  refine lv_astore (lv' := [(5, .ref q9), (0, .ref c9), (1, .int p0), (2, .int p1), (3, .int p2), (4, .ref o)]) S.1 S.2.1 dL_fix_15 hl (by decide) rfl (fun ls hl => ?_)
  refine lv_iconst (v := (nI 1)) S.1 S.2.1 dL_fix_17 (by decide) ?_
  refine W.widen (k := 1) (n := 8) (by decide) (by decide) ?_
  exact wr_iret S () hr rfl hlocks rfl hP hD hS dL_fix_18
theorem wl_fix_1_0 : Cond.classLink RL 13 "java/lang/IllegalArgumentException" ∈ wsL_fix := by decide +kernel
theorem wl_fix_1_1 : Cond.classLink RL 21 "java/lang/IndexOutOfBoundsException" ∈ wsL_fix := by decide +kernel
set_option maxHeartbeats 4000000 in
set_option maxRecDepth 100000 in
theorem wt_fix_A (l : Launch) (D : va_G) (cT : ClassId × ClassId × ClassId) (sz : Nat) {wc : va_W} {fs : List Value} (o c9 : Nat) (g : Nat → Int64) (p0 p1 p2 : Int32) (hM : ∀ sz, vx_Met l yX8_fix wsX8_fix ({ frames := 6, cells := 1, slots := 6, locals := 160 } : Room) (va_Pc [.ref c9, .int p0, .int p1, .int p2] (tr_R D (TY cT) wc sz)) (tr_Q sz) (tr_X "java/lang/IllegalArgumentException" sz) 1 6 (fun q => sz ≤ q)) (hrv : wc[0]? = some (c9, .inr (6, fs))) : Met l yL_fix wsL_fix ({ frames := 8, cells := 1, slots := 8, locals := 200 } : Room) (va_Pc [.ref c9, .int p0, .int p1, .int p2, .ref o] (wx_R D (TY cT) (wc ++ [(o, .inl (cT.2.1, 1, .inr (.inl g)))]) sz)) (wQi (fun (r_ : Int32) (_ : Unit) => r_ = nI 2) D (fun (_ : Unit) => wc ++ [(o, .inl (cT.2.1, 1, .inr (.inl g)))]) (va_A (wc ++ [(o, .inl (cT.2.1, 1, .inr (.inl g)))]) sz)) 1 8 (va_A (wc ++ [(o, .inl (cT.2.1, 1, .inr (.inl g)))]) sz) := by
  refine wx_start (cc := cL_fix) (maxL := 6) (ret := (some .int)) (hh := [(0, 12, 15, 21), (0, 12, 19, 13)]) RL ⟨by decide +kernel, rfl⟩ rfl (Nat.le_of_ble_eq_true rfl) ?_
  intro p0_ e0 s0 m0 a0 b0 t0 c0 S hr hlocks htab hsz hP hK hA hD hS hX ls hl
  subst hsz
  generalize va_A (wc ++ [(o, .inl (cT.2.1, 1, .inr (.inl g)))]) s0.heap.size = A at hA hD hS ⊢
  have hl : lv_has ls 6 [(0, .ref c9), (1, .int p0), (2, .int p1), (3, .int p2), (4, .ref o)] := hl
  refine lv_aload S.1 S.2.1 dL_fix_0 (lv_at hl 4 rfl) ?_
  refine lv_iconst (v := (nI 0)) S.1 S.2.1 dL_fix_2 (by decide) ?_
  refine lv_aload_n S.1 S.2.1 dL_fix_3 rfl (lv_at hl 0 rfl) ?_
  refine lv_iload_n S.1 S.2.1 dL_fix_4 rfl (lv_at hl 1 rfl) ?_
  refine lv_iload_n S.1 S.2.1 dL_fix_5 rfl (lv_at hl 2 rfl) ?_
  refine lv_iload_n S.1 S.2.1 dL_fix_6 rfl (lv_at hl 3 rfl) ?_
  refine fr_callVx (As := [.int p0, .int p1, .int p2]) (rest := [.int (nI 0), .ref o]) (wc := wc) (wr := [(o, .inl (cT.2.1, 1, .inr (.inl g)))]) S (hM _) gL_fix_X8_fix rfl pd_X8_fix ⟨rfl, rfl, by decide, by decide⟩ hP hK hX hS hA (va_recv hK.1 (fr_l hP) (ci := 6) (q0 := 0) rfl hrv) hl rfl rfl (Nat.le_of_ble_eq_true rfl) (by decide) dL_fix_7 (fun q9 ce H locs hP hS hce hcv hcl => ?_)
  refine vx_catch (own := RL) (name := "java/lang/IllegalArgumentException") S.2.2.2.1 ([⟨0, 12, 15, 21⟩] : List ExceptionTableEntry) (⟨0, 12, 19, 13⟩ : ExceptionTableEntry) ([] : List ExceptionTableEntry) (htab.trans rfl) (fun z hz => by rcases List.mem_singleton.mp hz with rfl; exact Or.inr ⟨by decide, "java/lang/IndexOutOfBoundsException", S.2.2.2.2 _ wl_fix_1_1, hX.2.1 _ (show ("java/lang/IllegalArgumentException", "java/lang/IndexOutOfBoundsException") ∈ ncs by decide +kernel)⟩) (by decide) (by decide) (S.2.2.2.2 _ wl_fix_1_0) (va_Nw.use rfl (hK.2 (.castable "java/lang/IllegalArgumentException" "java/lang/IllegalArgumentException") (by decide +kernel))) hce hcv hcl ?_
  refine lv_astore (lv' := [(5, .ref q9), (0, .ref c9), (1, .int p0), (2, .int p1), (3, .int p2), (4, .ref o)]) S.1 S.2.1 dL_fix_19 hl (by decide) rfl (fun ls hl => ?_)
  refine lv_iconst (v := (nI 2)) S.1 S.2.1 dL_fix_21 (by decide) ?_
  refine W.widen (k := 1) (n := 8) (by decide) (by decide) ?_
  exact wr_iret S () hr rfl hlocks rfl hP hD hS dL_fix_22
set_option maxHeartbeats 4000000 in
set_option maxRecDepth 100000 in
theorem wo_set (l : Launch) (D : va_G) (cT : ClassId × ClassId × ClassId) (sz : Nat) {St : Type} {post : Int32 → St → Prop} {w1 : St → va_W} {wc : va_W} {rm : Room} {mc ms : Nat} {fs : List Value} (o c9 : Nat) (g : Nat → Int64) (p0 p1 p2 : Int32) (hM : ∀ sz, Met l yX8_set wsX8_set rm (va_Pc [.ref c9, .int p0, .int p1, .int p2] (wr_R D (TY cT) wc sz)) (wQi post D w1 (va_A wc sz)) mc ms (va_A wc sz)) (hrm : rm.cells = mc ∧ rm.slots = ms ∧ rm.frames + 1 ≤ 8 ∧ 8 + (7 + 11) + rm.locals ≤ 200) (hc : mc ≤ 1 ∧ ms ≤ 8) (hrv : wc[0]? = some (c9, .inr (6, fs))) : Met l yL_set wsL_set ({ frames := 8, cells := 1, slots := 8, locals := 200 } : Room) (va_Pc [.ref c9, .int p0, .int p1, .int p2, .ref o] (wx_R D (TY cT) (wc ++ [(o, .inl (cT.2.1, 1, .inr (.inl g)))]) sz)) (wQi (fun (r_ : Int32) (u_ : Int32 × St) => r_ = nI 0 ∧ post u_.1 u_.2) D (fun (u_ : Int32 × St) => w1 u_.2 ++ [(o, .inl (cT.2.1, 1, .inr (.inl (vp_updL g 0 (u_.1.toInt64)))))]) (va_A (wc ++ [(o, .inl (cT.2.1, 1, .inr (.inl g)))]) sz)) 1 8 (va_A (wc ++ [(o, .inl (cT.2.1, 1, .inr (.inl g)))]) sz) := by
  refine wx_start (cc := cL_set) (maxL := 6) (ret := (some .int)) (hh := [(0, 12, 15, 21), (0, 12, 19, 13), (0, 12, 23, 15)]) RL ⟨by decide +kernel, rfl⟩ rfl (Nat.le_of_ble_eq_true rfl) ?_
  intro p0_ e0 s0 m0 a0 b0 t0 c0 S hr hlocks htab hsz hP hK hA hD hS hX ls hl
  subst hsz
  generalize va_A (wc ++ [(o, .inl (cT.2.1, 1, .inr (.inl g)))]) s0.heap.size = A at hA hD hS ⊢
  have hl : lv_has ls 6 [(0, .ref c9), (1, .int p0), (2, .int p1), (3, .int p2), (4, .ref o)] := hl
  refine lv_aload S.1 S.2.1 dL_set_0 (lv_at hl 4 rfl) ?_
  refine lv_iconst (v := (nI 0)) S.1 S.2.1 dL_set_2 (by decide) ?_
  refine lv_aload_n S.1 S.2.1 dL_set_3 rfl (lv_at hl 0 rfl) ?_
  refine lv_iload_n S.1 S.2.1 dL_set_4 rfl (lv_at hl 1 rfl) ?_
  refine lv_iload_n S.1 S.2.1 dL_set_5 rfl (lv_at hl 2 rfl) ?_
  refine lv_iload_n S.1 S.2.1 dL_set_6 rfl (lv_at hl 3 rfl) ?_
  refine fr_callVi (As := [.int p0, .int p1, .int p2]) (rest := [.int (nI 0), .ref o]) (wc := wc) (wr := [(o, .inl (cT.2.1, 1, .inr (.inl g)))]) S (hM _) gL_set_X8_set rfl pd_X8_set hrm hP hK hD hS hA (va_recv hK.1 (fr_l hP) (ci := 6) (q0 := 0) rfl hrv) hl rfl rfl (Nat.le_of_ble_eq_true rfl) ⟨by rw [Nat.zero_add]; exact hc.1, by rw [Nat.zero_add]; exact hc.2⟩ dL_set_7 (fun r u H locs hp hP hD hS => ?_)
  refine W.widen (k := 1) (n := 8) (by rw [Nat.zero_add]; exact hc.1) (by rw [Nat.zero_add]; exact hc.2) ?_
  refine lv_i2l S.1 S.2.1 dL_set_10 rfl ?_
  refine w_last (g := g) (i := 0) (n := 1) (v := r.toInt64) S ((w1 u).length + 0) hK hP hD hS (ap_at.trans rfl) (by decide) dL_set_11 (fun H locs hP hD hS => ?_)
  rw [ap_set] at hP hD
  have hP : va_P D vwCl (w1 u ++ [(o, .inl (cT.2.1, 1, .inr (.inl (vp_updL g 0 (r.toInt64)))))]) H := hP
  have hD : va_D A (w1 u ++ [(o, .inl (cT.2.1, 1, .inr (.inl (vp_updL g 0 (r.toInt64)))))]) := hD
  refine lv_goto (tgt := 27) S.1 S.2.1 dL_set_12 (by decide) ?_
  refine lv_iconst (v := (nI 0)) S.1 S.2.1 dL_set_27 (by decide) ?_
  exact wr_iret S (r, u) hr rfl hlocks ⟨rfl, hp⟩ hP hD hS dL_set_28
theorem wl_set_0_0 : Cond.classLink RL 21 "java/lang/IndexOutOfBoundsException" ∈ wsL_set := by decide +kernel
set_option maxHeartbeats 4000000 in
set_option maxRecDepth 100000 in
theorem wt_set_I (l : Launch) (D : va_G) (cT : ClassId × ClassId × ClassId) (sz : Nat) {wc : va_W} {fs : List Value} (o c9 : Nat) (g : Nat → Int64) (p0 p1 p2 : Int32) (hM : ∀ sz, vx_Met l yX8_set wsX8_set ({ frames := 6, cells := 1, slots := 6, locals := 160 } : Room) (va_Pc [.ref c9, .int p0, .int p1, .int p2] (tr_R D (TY cT) wc sz)) (tr_Q sz) (tr_X "java/lang/IndexOutOfBoundsException" sz) 1 6 (fun q => sz ≤ q)) (hrv : wc[0]? = some (c9, .inr (6, fs))) : Met l yL_set wsL_set ({ frames := 8, cells := 1, slots := 8, locals := 200 } : Room) (va_Pc [.ref c9, .int p0, .int p1, .int p2, .ref o] (wx_R D (TY cT) (wc ++ [(o, .inl (cT.2.1, 1, .inr (.inl g)))]) sz)) (wQi (fun (r_ : Int32) (_ : Unit) => r_ = nI 1) D (fun (_ : Unit) => wc ++ [(o, .inl (cT.2.1, 1, .inr (.inl g)))]) (va_A (wc ++ [(o, .inl (cT.2.1, 1, .inr (.inl g)))]) sz)) 1 8 (va_A (wc ++ [(o, .inl (cT.2.1, 1, .inr (.inl g)))]) sz) := by
  refine wx_start (cc := cL_set) (maxL := 6) (ret := (some .int)) (hh := [(0, 12, 15, 21), (0, 12, 19, 13), (0, 12, 23, 15)]) RL ⟨by decide +kernel, rfl⟩ rfl (Nat.le_of_ble_eq_true rfl) ?_
  intro p0_ e0 s0 m0 a0 b0 t0 c0 S hr hlocks htab hsz hP hK hA hD hS hX ls hl
  subst hsz
  generalize va_A (wc ++ [(o, .inl (cT.2.1, 1, .inr (.inl g)))]) s0.heap.size = A at hA hD hS ⊢
  have hl : lv_has ls 6 [(0, .ref c9), (1, .int p0), (2, .int p1), (3, .int p2), (4, .ref o)] := hl
  refine lv_aload S.1 S.2.1 dL_set_0 (lv_at hl 4 rfl) ?_
  refine lv_iconst (v := (nI 0)) S.1 S.2.1 dL_set_2 (by decide) ?_
  refine lv_aload_n S.1 S.2.1 dL_set_3 rfl (lv_at hl 0 rfl) ?_
  refine lv_iload_n S.1 S.2.1 dL_set_4 rfl (lv_at hl 1 rfl) ?_
  refine lv_iload_n S.1 S.2.1 dL_set_5 rfl (lv_at hl 2 rfl) ?_
  refine lv_iload_n S.1 S.2.1 dL_set_6 rfl (lv_at hl 3 rfl) ?_
  refine fr_callVx (As := [.int p0, .int p1, .int p2]) (rest := [.int (nI 0), .ref o]) (wc := wc) (wr := [(o, .inl (cT.2.1, 1, .inr (.inl g)))]) S (hM _) gL_set_X8_set rfl pd_X8_set ⟨rfl, rfl, by decide, by decide⟩ hP hK hX hS hA (va_recv hK.1 (fr_l hP) (ci := 6) (q0 := 0) rfl hrv) hl rfl rfl (Nat.le_of_ble_eq_true rfl) (by decide) dL_set_7 (fun q9 ce H locs hP hS hce hcv hcl => ?_)
  refine vx_catch (own := RL) (name := "java/lang/IndexOutOfBoundsException") S.2.2.2.1 ([] : List ExceptionTableEntry) (⟨0, 12, 15, 21⟩ : ExceptionTableEntry) ([⟨0, 12, 19, 13⟩, ⟨0, 12, 23, 15⟩] : List ExceptionTableEntry) (htab.trans rfl) (fun z hz => absurd hz List.not_mem_nil) (by decide) (by decide) (S.2.2.2.2 _ wl_set_0_0) (va_Nw.use rfl (hK.2 (.castable "java/lang/IndexOutOfBoundsException" "java/lang/IndexOutOfBoundsException") (by decide +kernel))) hce hcv hcl ?_
  refine lv_astore (lv' := [(5, .ref q9), (0, .ref c9), (1, .int p0), (2, .int p1), (3, .int p2), (4, .ref o)]) S.1 S.2.1 dL_set_15 hl (by decide) rfl (fun ls hl => ?_)
  refine lv_iconst (v := (nI 1)) S.1 S.2.1 dL_set_17 (by decide) ?_
  refine W.widen (k := 1) (n := 8) (by decide) (by decide) ?_
  exact wr_iret S () hr rfl hlocks rfl hP hD hS dL_set_18
theorem wl_set_1_0 : Cond.classLink RL 13 "java/lang/IllegalArgumentException" ∈ wsL_set := by decide +kernel
theorem wl_set_1_1 : Cond.classLink RL 21 "java/lang/IndexOutOfBoundsException" ∈ wsL_set := by decide +kernel
set_option maxHeartbeats 4000000 in
set_option maxRecDepth 100000 in
theorem wt_set_A (l : Launch) (D : va_G) (cT : ClassId × ClassId × ClassId) (sz : Nat) {wc : va_W} {fs : List Value} (o c9 : Nat) (g : Nat → Int64) (p0 p1 p2 : Int32) (hM : ∀ sz, vx_Met l yX8_set wsX8_set ({ frames := 6, cells := 1, slots := 6, locals := 160 } : Room) (va_Pc [.ref c9, .int p0, .int p1, .int p2] (tr_R D (TY cT) wc sz)) (tr_Q sz) (tr_X "java/lang/IllegalArgumentException" sz) 1 6 (fun q => sz ≤ q)) (hrv : wc[0]? = some (c9, .inr (6, fs))) : Met l yL_set wsL_set ({ frames := 8, cells := 1, slots := 8, locals := 200 } : Room) (va_Pc [.ref c9, .int p0, .int p1, .int p2, .ref o] (wx_R D (TY cT) (wc ++ [(o, .inl (cT.2.1, 1, .inr (.inl g)))]) sz)) (wQi (fun (r_ : Int32) (_ : Unit) => r_ = nI 2) D (fun (_ : Unit) => wc ++ [(o, .inl (cT.2.1, 1, .inr (.inl g)))]) (va_A (wc ++ [(o, .inl (cT.2.1, 1, .inr (.inl g)))]) sz)) 1 8 (va_A (wc ++ [(o, .inl (cT.2.1, 1, .inr (.inl g)))]) sz) := by
  refine wx_start (cc := cL_set) (maxL := 6) (ret := (some .int)) (hh := [(0, 12, 15, 21), (0, 12, 19, 13), (0, 12, 23, 15)]) RL ⟨by decide +kernel, rfl⟩ rfl (Nat.le_of_ble_eq_true rfl) ?_
  intro p0_ e0 s0 m0 a0 b0 t0 c0 S hr hlocks htab hsz hP hK hA hD hS hX ls hl
  subst hsz
  generalize va_A (wc ++ [(o, .inl (cT.2.1, 1, .inr (.inl g)))]) s0.heap.size = A at hA hD hS ⊢
  have hl : lv_has ls 6 [(0, .ref c9), (1, .int p0), (2, .int p1), (3, .int p2), (4, .ref o)] := hl
  refine lv_aload S.1 S.2.1 dL_set_0 (lv_at hl 4 rfl) ?_
  refine lv_iconst (v := (nI 0)) S.1 S.2.1 dL_set_2 (by decide) ?_
  refine lv_aload_n S.1 S.2.1 dL_set_3 rfl (lv_at hl 0 rfl) ?_
  refine lv_iload_n S.1 S.2.1 dL_set_4 rfl (lv_at hl 1 rfl) ?_
  refine lv_iload_n S.1 S.2.1 dL_set_5 rfl (lv_at hl 2 rfl) ?_
  refine lv_iload_n S.1 S.2.1 dL_set_6 rfl (lv_at hl 3 rfl) ?_
  refine fr_callVx (As := [.int p0, .int p1, .int p2]) (rest := [.int (nI 0), .ref o]) (wc := wc) (wr := [(o, .inl (cT.2.1, 1, .inr (.inl g)))]) S (hM _) gL_set_X8_set rfl pd_X8_set ⟨rfl, rfl, by decide, by decide⟩ hP hK hX hS hA (va_recv hK.1 (fr_l hP) (ci := 6) (q0 := 0) rfl hrv) hl rfl rfl (Nat.le_of_ble_eq_true rfl) (by decide) dL_set_7 (fun q9 ce H locs hP hS hce hcv hcl => ?_)
  refine vx_catch (own := RL) (name := "java/lang/IllegalArgumentException") S.2.2.2.1 ([⟨0, 12, 15, 21⟩] : List ExceptionTableEntry) (⟨0, 12, 19, 13⟩ : ExceptionTableEntry) ([⟨0, 12, 23, 15⟩] : List ExceptionTableEntry) (htab.trans rfl) (fun z hz => by rcases List.mem_singleton.mp hz with rfl; exact Or.inr ⟨by decide, "java/lang/IndexOutOfBoundsException", S.2.2.2.2 _ wl_set_1_1, hX.2.1 _ (show ("java/lang/IllegalArgumentException", "java/lang/IndexOutOfBoundsException") ∈ ncs by decide +kernel)⟩) (by decide) (by decide) (S.2.2.2.2 _ wl_set_1_0) (va_Nw.use rfl (hK.2 (.castable "java/lang/IllegalArgumentException" "java/lang/IllegalArgumentException") (by decide +kernel))) hce hcv hcl ?_
  refine lv_astore (lv' := [(5, .ref q9), (0, .ref c9), (1, .int p0), (2, .int p1), (3, .int p2), (4, .ref o)]) S.1 S.2.1 dL_set_19 hl (by decide) rfl (fun ls hl => ?_)
  refine lv_iconst (v := (nI 2)) S.1 S.2.1 dL_set_21 (by decide) ?_
  refine W.widen (k := 1) (n := 8) (by decide) (by decide) ?_
  exact wr_iret S () hr rfl hlocks rfl hP hD hS dL_set_22
theorem wl_set_2_0 : Cond.classLink RL 15 "java/lang/IllegalStateException" ∈ wsL_set := by decide +kernel
theorem wl_set_2_1 : Cond.classLink RL 21 "java/lang/IndexOutOfBoundsException" ∈ wsL_set := by decide +kernel
theorem wl_set_2_2 : Cond.classLink RL 13 "java/lang/IllegalArgumentException" ∈ wsL_set := by decide +kernel
set_option maxHeartbeats 4000000 in
set_option maxRecDepth 100000 in
theorem wt_set_S (l : Launch) (D : va_G) (cT : ClassId × ClassId × ClassId) (sz : Nat) {wc : va_W} {fs : List Value} (o c9 : Nat) (g : Nat → Int64) (p0 p1 p2 : Int32) (hM : ∀ sz, vx_Met l yX8_set wsX8_set ({ frames := 6, cells := 1, slots := 6, locals := 160 } : Room) (va_Pc [.ref c9, .int p0, .int p1, .int p2] (tr_R D (TY cT) wc sz)) (tr_Q sz) (tr_X "java/lang/IllegalStateException" sz) 1 6 (fun q => sz ≤ q)) (hrv : wc[0]? = some (c9, .inr (6, fs))) : Met l yL_set wsL_set ({ frames := 8, cells := 1, slots := 8, locals := 200 } : Room) (va_Pc [.ref c9, .int p0, .int p1, .int p2, .ref o] (wx_R D (TY cT) (wc ++ [(o, .inl (cT.2.1, 1, .inr (.inl g)))]) sz)) (wQi (fun (r_ : Int32) (_ : Unit) => r_ = nI 3) D (fun (_ : Unit) => wc ++ [(o, .inl (cT.2.1, 1, .inr (.inl g)))]) (va_A (wc ++ [(o, .inl (cT.2.1, 1, .inr (.inl g)))]) sz)) 1 8 (va_A (wc ++ [(o, .inl (cT.2.1, 1, .inr (.inl g)))]) sz) := by
  refine wx_start (cc := cL_set) (maxL := 6) (ret := (some .int)) (hh := [(0, 12, 15, 21), (0, 12, 19, 13), (0, 12, 23, 15)]) RL ⟨by decide +kernel, rfl⟩ rfl (Nat.le_of_ble_eq_true rfl) ?_
  intro p0_ e0 s0 m0 a0 b0 t0 c0 S hr hlocks htab hsz hP hK hA hD hS hX ls hl
  subst hsz
  generalize va_A (wc ++ [(o, .inl (cT.2.1, 1, .inr (.inl g)))]) s0.heap.size = A at hA hD hS ⊢
  have hl : lv_has ls 6 [(0, .ref c9), (1, .int p0), (2, .int p1), (3, .int p2), (4, .ref o)] := hl
  refine lv_aload S.1 S.2.1 dL_set_0 (lv_at hl 4 rfl) ?_
  refine lv_iconst (v := (nI 0)) S.1 S.2.1 dL_set_2 (by decide) ?_
  refine lv_aload_n S.1 S.2.1 dL_set_3 rfl (lv_at hl 0 rfl) ?_
  refine lv_iload_n S.1 S.2.1 dL_set_4 rfl (lv_at hl 1 rfl) ?_
  refine lv_iload_n S.1 S.2.1 dL_set_5 rfl (lv_at hl 2 rfl) ?_
  refine lv_iload_n S.1 S.2.1 dL_set_6 rfl (lv_at hl 3 rfl) ?_
  refine fr_callVx (As := [.int p0, .int p1, .int p2]) (rest := [.int (nI 0), .ref o]) (wc := wc) (wr := [(o, .inl (cT.2.1, 1, .inr (.inl g)))]) S (hM _) gL_set_X8_set rfl pd_X8_set ⟨rfl, rfl, by decide, by decide⟩ hP hK hX hS hA (va_recv hK.1 (fr_l hP) (ci := 6) (q0 := 0) rfl hrv) hl rfl rfl (Nat.le_of_ble_eq_true rfl) (by decide) dL_set_7 (fun q9 ce H locs hP hS hce hcv hcl => ?_)
  refine vx_catch (own := RL) (name := "java/lang/IllegalStateException") S.2.2.2.1 ([⟨0, 12, 15, 21⟩, ⟨0, 12, 19, 13⟩] : List ExceptionTableEntry) (⟨0, 12, 23, 15⟩ : ExceptionTableEntry) ([] : List ExceptionTableEntry) (htab.trans rfl) (fun z hz => by rcases List.mem_cons.mp hz with rfl | hz; exact Or.inr ⟨by decide, "java/lang/IndexOutOfBoundsException", S.2.2.2.2 _ wl_set_2_1, hX.2.1 _ (show ("java/lang/IllegalStateException", "java/lang/IndexOutOfBoundsException") ∈ ncs by decide +kernel)⟩; rcases List.mem_singleton.mp hz with rfl; exact Or.inr ⟨by decide, "java/lang/IllegalArgumentException", S.2.2.2.2 _ wl_set_2_2, hX.2.1 _ (show ("java/lang/IllegalStateException", "java/lang/IllegalArgumentException") ∈ ncs by decide +kernel)⟩) (by decide) (by decide) (S.2.2.2.2 _ wl_set_2_0) (va_Nw.use rfl (hK.2 (.castable "java/lang/IllegalStateException" "java/lang/IllegalStateException") (by decide +kernel))) hce hcv hcl ?_
  refine lv_astore (lv' := [(5, .ref q9), (0, .ref c9), (1, .int p0), (2, .int p1), (3, .int p2), (4, .ref o)]) S.1 S.2.1 dL_set_23 hl (by decide) rfl (fun ls hl => ?_)
  refine lv_iconst (v := (nI 3)) S.1 S.2.1 dL_set_25 (by decide) ?_
  refine W.widen (k := 1) (n := 8) (by decide) (by decide) ?_
  exact wr_iret S () hr rfl hlocks rfl hP hD hS dL_set_26
set_option maxHeartbeats 4000000 in
set_option maxRecDepth 100000 in
theorem wo_swap (l : Launch) (D : va_G) (cT : ClassId × ClassId × ClassId) (sz : Nat) {St : Type} {post : Int32 → St → Prop} {w1 : St → va_W} {wc : va_W} {rm : Room} {mc ms : Nat} {fs : List Value} (o c9 : Nat) (g : Nat → Int64) (p0 p1 p2 : Int32) (hM : ∀ sz, Met l yX8_swap wsX8_swap rm (va_Pc [.ref c9, .int p0, .int p1, .int p2] (wr_R D (TY cT) wc sz)) (wQi post D w1 (va_A wc sz)) mc ms (va_A wc sz)) (hrm : rm.cells = mc ∧ rm.slots = ms ∧ rm.frames + 1 ≤ 8 ∧ 8 + (7 + 11) + rm.locals ≤ 200) (hc : mc ≤ 1 ∧ ms ≤ 8) (hrv : wc[0]? = some (c9, .inr (6, fs))) : Met l yL_swap wsL_swap ({ frames := 8, cells := 1, slots := 8, locals := 200 } : Room) (va_Pc [.ref c9, .int p0, .int p1, .int p2, .ref o] (wx_R D (TY cT) (wc ++ [(o, .inl (cT.2.1, 1, .inr (.inl g)))]) sz)) (wQi (fun (r_ : Int32) (u_ : Int32 × St) => r_ = nI 0 ∧ post u_.1 u_.2) D (fun (u_ : Int32 × St) => w1 u_.2 ++ [(o, .inl (cT.2.1, 1, .inr (.inl (vp_updL g 0 (u_.1.toInt64)))))]) (va_A (wc ++ [(o, .inl (cT.2.1, 1, .inr (.inl g)))]) sz)) 1 8 (va_A (wc ++ [(o, .inl (cT.2.1, 1, .inr (.inl g)))]) sz) := by
  refine wx_start (cc := cL_swap) (maxL := 6) (ret := (some .int)) (hh := [(0, 12, 15, 21), (0, 12, 19, 15)]) RL ⟨by decide +kernel, rfl⟩ rfl (Nat.le_of_ble_eq_true rfl) ?_
  intro p0_ e0 s0 m0 a0 b0 t0 c0 S hr hlocks htab hsz hP hK hA hD hS hX ls hl
  subst hsz
  generalize va_A (wc ++ [(o, .inl (cT.2.1, 1, .inr (.inl g)))]) s0.heap.size = A at hA hD hS ⊢
  have hl : lv_has ls 6 [(0, .ref c9), (1, .int p0), (2, .int p1), (3, .int p2), (4, .ref o)] := hl
  refine lv_aload S.1 S.2.1 dL_swap_0 (lv_at hl 4 rfl) ?_
  refine lv_iconst (v := (nI 0)) S.1 S.2.1 dL_swap_2 (by decide) ?_
  refine lv_aload_n S.1 S.2.1 dL_swap_3 rfl (lv_at hl 0 rfl) ?_
  refine lv_iload_n S.1 S.2.1 dL_swap_4 rfl (lv_at hl 1 rfl) ?_
  refine lv_iload_n S.1 S.2.1 dL_swap_5 rfl (lv_at hl 2 rfl) ?_
  refine lv_iload_n S.1 S.2.1 dL_swap_6 rfl (lv_at hl 3 rfl) ?_
  refine fr_callVi (As := [.int p0, .int p1, .int p2]) (rest := [.int (nI 0), .ref o]) (wc := wc) (wr := [(o, .inl (cT.2.1, 1, .inr (.inl g)))]) S (hM _) gL_swap_X8_swap rfl pd_X8_swap hrm hP hK hD hS hA (va_recv hK.1 (fr_l hP) (ci := 6) (q0 := 0) rfl hrv) hl rfl rfl (Nat.le_of_ble_eq_true rfl) ⟨by rw [Nat.zero_add]; exact hc.1, by rw [Nat.zero_add]; exact hc.2⟩ dL_swap_7 (fun r u H locs hp hP hD hS => ?_)
  refine W.widen (k := 1) (n := 8) (by rw [Nat.zero_add]; exact hc.1) (by rw [Nat.zero_add]; exact hc.2) ?_
  refine lv_i2l S.1 S.2.1 dL_swap_10 rfl ?_
  refine w_last (g := g) (i := 0) (n := 1) (v := r.toInt64) S ((w1 u).length + 0) hK hP hD hS (ap_at.trans rfl) (by decide) dL_swap_11 (fun H locs hP hD hS => ?_)
  rw [ap_set] at hP hD
  have hP : va_P D vwCl (w1 u ++ [(o, .inl (cT.2.1, 1, .inr (.inl (vp_updL g 0 (r.toInt64)))))]) H := hP
  have hD : va_D A (w1 u ++ [(o, .inl (cT.2.1, 1, .inr (.inl (vp_updL g 0 (r.toInt64)))))]) := hD
  refine lv_goto (tgt := 23) S.1 S.2.1 dL_swap_12 (by decide) ?_
  refine lv_iconst (v := (nI 0)) S.1 S.2.1 dL_swap_23 (by decide) ?_
  exact wr_iret S (r, u) hr rfl hlocks ⟨rfl, hp⟩ hP hD hS dL_swap_24
theorem wl_swap_0_0 : Cond.classLink RL 21 "java/lang/IndexOutOfBoundsException" ∈ wsL_swap := by decide +kernel
set_option maxHeartbeats 4000000 in
set_option maxRecDepth 100000 in
theorem wt_swap_I (l : Launch) (D : va_G) (cT : ClassId × ClassId × ClassId) (sz : Nat) {wc : va_W} {fs : List Value} (o c9 : Nat) (g : Nat → Int64) (p0 p1 p2 : Int32) (hM : ∀ sz, vx_Met l yX8_swap wsX8_swap ({ frames := 6, cells := 1, slots := 6, locals := 160 } : Room) (va_Pc [.ref c9, .int p0, .int p1, .int p2] (tr_R D (TY cT) wc sz)) (tr_Q sz) (tr_X "java/lang/IndexOutOfBoundsException" sz) 1 6 (fun q => sz ≤ q)) (hrv : wc[0]? = some (c9, .inr (6, fs))) : Met l yL_swap wsL_swap ({ frames := 8, cells := 1, slots := 8, locals := 200 } : Room) (va_Pc [.ref c9, .int p0, .int p1, .int p2, .ref o] (wx_R D (TY cT) (wc ++ [(o, .inl (cT.2.1, 1, .inr (.inl g)))]) sz)) (wQi (fun (r_ : Int32) (_ : Unit) => r_ = nI 1) D (fun (_ : Unit) => wc ++ [(o, .inl (cT.2.1, 1, .inr (.inl g)))]) (va_A (wc ++ [(o, .inl (cT.2.1, 1, .inr (.inl g)))]) sz)) 1 8 (va_A (wc ++ [(o, .inl (cT.2.1, 1, .inr (.inl g)))]) sz) := by
  refine wx_start (cc := cL_swap) (maxL := 6) (ret := (some .int)) (hh := [(0, 12, 15, 21), (0, 12, 19, 15)]) RL ⟨by decide +kernel, rfl⟩ rfl (Nat.le_of_ble_eq_true rfl) ?_
  intro p0_ e0 s0 m0 a0 b0 t0 c0 S hr hlocks htab hsz hP hK hA hD hS hX ls hl
  subst hsz
  generalize va_A (wc ++ [(o, .inl (cT.2.1, 1, .inr (.inl g)))]) s0.heap.size = A at hA hD hS ⊢
  have hl : lv_has ls 6 [(0, .ref c9), (1, .int p0), (2, .int p1), (3, .int p2), (4, .ref o)] := hl
  refine lv_aload S.1 S.2.1 dL_swap_0 (lv_at hl 4 rfl) ?_
  refine lv_iconst (v := (nI 0)) S.1 S.2.1 dL_swap_2 (by decide) ?_
  refine lv_aload_n S.1 S.2.1 dL_swap_3 rfl (lv_at hl 0 rfl) ?_
  refine lv_iload_n S.1 S.2.1 dL_swap_4 rfl (lv_at hl 1 rfl) ?_
  refine lv_iload_n S.1 S.2.1 dL_swap_5 rfl (lv_at hl 2 rfl) ?_
  refine lv_iload_n S.1 S.2.1 dL_swap_6 rfl (lv_at hl 3 rfl) ?_
  refine fr_callVx (As := [.int p0, .int p1, .int p2]) (rest := [.int (nI 0), .ref o]) (wc := wc) (wr := [(o, .inl (cT.2.1, 1, .inr (.inl g)))]) S (hM _) gL_swap_X8_swap rfl pd_X8_swap ⟨rfl, rfl, by decide, by decide⟩ hP hK hX hS hA (va_recv hK.1 (fr_l hP) (ci := 6) (q0 := 0) rfl hrv) hl rfl rfl (Nat.le_of_ble_eq_true rfl) (by decide) dL_swap_7 (fun q9 ce H locs hP hS hce hcv hcl => ?_)
  refine vx_catch (own := RL) (name := "java/lang/IndexOutOfBoundsException") S.2.2.2.1 ([] : List ExceptionTableEntry) (⟨0, 12, 15, 21⟩ : ExceptionTableEntry) ([⟨0, 12, 19, 15⟩] : List ExceptionTableEntry) (htab.trans rfl) (fun z hz => absurd hz List.not_mem_nil) (by decide) (by decide) (S.2.2.2.2 _ wl_swap_0_0) (va_Nw.use rfl (hK.2 (.castable "java/lang/IndexOutOfBoundsException" "java/lang/IndexOutOfBoundsException") (by decide +kernel))) hce hcv hcl ?_
  refine lv_astore (lv' := [(5, .ref q9), (0, .ref c9), (1, .int p0), (2, .int p1), (3, .int p2), (4, .ref o)]) S.1 S.2.1 dL_swap_15 hl (by decide) rfl (fun ls hl => ?_)
  refine lv_iconst (v := (nI 1)) S.1 S.2.1 dL_swap_17 (by decide) ?_
  refine W.widen (k := 1) (n := 8) (by decide) (by decide) ?_
  exact wr_iret S () hr rfl hlocks rfl hP hD hS dL_swap_18
theorem wl_swap_1_0 : Cond.classLink RL 15 "java/lang/IllegalStateException" ∈ wsL_swap := by decide +kernel
theorem wl_swap_1_1 : Cond.classLink RL 21 "java/lang/IndexOutOfBoundsException" ∈ wsL_swap := by decide +kernel
set_option maxHeartbeats 4000000 in
set_option maxRecDepth 100000 in
theorem wt_swap_S (l : Launch) (D : va_G) (cT : ClassId × ClassId × ClassId) (sz : Nat) {wc : va_W} {fs : List Value} (o c9 : Nat) (g : Nat → Int64) (p0 p1 p2 : Int32) (hM : ∀ sz, vx_Met l yX8_swap wsX8_swap ({ frames := 6, cells := 1, slots := 6, locals := 160 } : Room) (va_Pc [.ref c9, .int p0, .int p1, .int p2] (tr_R D (TY cT) wc sz)) (tr_Q sz) (tr_X "java/lang/IllegalStateException" sz) 1 6 (fun q => sz ≤ q)) (hrv : wc[0]? = some (c9, .inr (6, fs))) : Met l yL_swap wsL_swap ({ frames := 8, cells := 1, slots := 8, locals := 200 } : Room) (va_Pc [.ref c9, .int p0, .int p1, .int p2, .ref o] (wx_R D (TY cT) (wc ++ [(o, .inl (cT.2.1, 1, .inr (.inl g)))]) sz)) (wQi (fun (r_ : Int32) (_ : Unit) => r_ = nI 2) D (fun (_ : Unit) => wc ++ [(o, .inl (cT.2.1, 1, .inr (.inl g)))]) (va_A (wc ++ [(o, .inl (cT.2.1, 1, .inr (.inl g)))]) sz)) 1 8 (va_A (wc ++ [(o, .inl (cT.2.1, 1, .inr (.inl g)))]) sz) := by
  refine wx_start (cc := cL_swap) (maxL := 6) (ret := (some .int)) (hh := [(0, 12, 15, 21), (0, 12, 19, 15)]) RL ⟨by decide +kernel, rfl⟩ rfl (Nat.le_of_ble_eq_true rfl) ?_
  intro p0_ e0 s0 m0 a0 b0 t0 c0 S hr hlocks htab hsz hP hK hA hD hS hX ls hl
  subst hsz
  generalize va_A (wc ++ [(o, .inl (cT.2.1, 1, .inr (.inl g)))]) s0.heap.size = A at hA hD hS ⊢
  have hl : lv_has ls 6 [(0, .ref c9), (1, .int p0), (2, .int p1), (3, .int p2), (4, .ref o)] := hl
  refine lv_aload S.1 S.2.1 dL_swap_0 (lv_at hl 4 rfl) ?_
  refine lv_iconst (v := (nI 0)) S.1 S.2.1 dL_swap_2 (by decide) ?_
  refine lv_aload_n S.1 S.2.1 dL_swap_3 rfl (lv_at hl 0 rfl) ?_
  refine lv_iload_n S.1 S.2.1 dL_swap_4 rfl (lv_at hl 1 rfl) ?_
  refine lv_iload_n S.1 S.2.1 dL_swap_5 rfl (lv_at hl 2 rfl) ?_
  refine lv_iload_n S.1 S.2.1 dL_swap_6 rfl (lv_at hl 3 rfl) ?_
  refine fr_callVx (As := [.int p0, .int p1, .int p2]) (rest := [.int (nI 0), .ref o]) (wc := wc) (wr := [(o, .inl (cT.2.1, 1, .inr (.inl g)))]) S (hM _) gL_swap_X8_swap rfl pd_X8_swap ⟨rfl, rfl, by decide, by decide⟩ hP hK hX hS hA (va_recv hK.1 (fr_l hP) (ci := 6) (q0 := 0) rfl hrv) hl rfl rfl (Nat.le_of_ble_eq_true rfl) (by decide) dL_swap_7 (fun q9 ce H locs hP hS hce hcv hcl => ?_)
  refine vx_catch (own := RL) (name := "java/lang/IllegalStateException") S.2.2.2.1 ([⟨0, 12, 15, 21⟩] : List ExceptionTableEntry) (⟨0, 12, 19, 15⟩ : ExceptionTableEntry) ([] : List ExceptionTableEntry) (htab.trans rfl) (fun z hz => by rcases List.mem_singleton.mp hz with rfl; exact Or.inr ⟨by decide, "java/lang/IndexOutOfBoundsException", S.2.2.2.2 _ wl_swap_1_1, hX.2.1 _ (show ("java/lang/IllegalStateException", "java/lang/IndexOutOfBoundsException") ∈ ncs by decide +kernel)⟩) (by decide) (by decide) (S.2.2.2.2 _ wl_swap_1_0) (va_Nw.use rfl (hK.2 (.castable "java/lang/IllegalStateException" "java/lang/IllegalStateException") (by decide +kernel))) hce hcv hcl ?_
  refine lv_astore (lv' := [(5, .ref q9), (0, .ref c9), (1, .int p0), (2, .int p1), (3, .int p2), (4, .ref o)]) S.1 S.2.1 dL_swap_19 hl (by decide) rfl (fun ls hl => ?_)
  refine lv_iconst (v := (nI 2)) S.1 S.2.1 dL_swap_21 (by decide) ?_
  refine W.widen (k := 1) (n := 8) (by decide) (by decide) ?_
  exact wr_iret S () hr rfl hlocks rfl hP hD hS dL_swap_22
set_option maxHeartbeats 4000000 in
set_option maxRecDepth 100000 in
theorem wo_entry (l : Launch) (D : va_G) (cT : ClassId × ClassId × ClassId) (sz : Nat) {St : Type} {post : Int32 → St → Prop} {w1 : St → va_W} {wc : va_W} {rm : Room} {mc ms : Nat} {fs : List Value} (o c9 : Nat) (g : Nat → Int64) (p0 p1 : Int32) (hM : ∀ sz, Met l yX8_entry wsX8_entry rm (va_Pc [.ref c9, .int p0, .int p1] (wr_R D (TY cT) wc sz)) (wQi post D w1 (va_A wc sz)) mc ms (va_A wc sz)) (hrm : rm.cells = mc ∧ rm.slots = ms ∧ rm.frames + 1 ≤ 8 ∧ 8 + (4 + 11) + rm.locals ≤ 200) (hc : mc ≤ 1 ∧ ms ≤ 8) (hrv : wc[0]? = some (c9, .inr (6, fs))) : Met l yL_entry wsL_entry ({ frames := 8, cells := 1, slots := 8, locals := 200 } : Room) (va_Pc [.ref c9, .int p0, .int p1, .ref o] (wx_R D (TY cT) (wc ++ [(o, .inl (cT.2.1, 1, .inr (.inl g)))]) sz)) (wQi (fun (r_ : Int32) (u_ : Int32 × St) => r_ = nI 0 ∧ post u_.1 u_.2) D (fun (u_ : Int32 × St) => w1 u_.2 ++ [(o, .inl (cT.2.1, 1, .inr (.inl (vp_updL g 0 (u_.1.toInt64)))))]) (va_A (wc ++ [(o, .inl (cT.2.1, 1, .inr (.inl g)))]) sz)) 1 8 (va_A (wc ++ [(o, .inl (cT.2.1, 1, .inr (.inl g)))]) sz) := by
  refine wx_start (cc := cL_entry) (maxL := 5) (ret := (some .int)) (hh := [(0, 10, 13, 21)]) RL ⟨by decide +kernel, rfl⟩ rfl (Nat.le_of_ble_eq_true rfl) ?_
  intro p0_ e0 s0 m0 a0 b0 t0 c0 S hr hlocks htab hsz hP hK hA hD hS hX ls hl
  subst hsz
  generalize va_A (wc ++ [(o, .inl (cT.2.1, 1, .inr (.inl g)))]) s0.heap.size = A at hA hD hS ⊢
  have hl : lv_has ls 5 [(0, .ref c9), (1, .int p0), (2, .int p1), (3, .ref o)] := hl
  refine lv_aload_n S.1 S.2.1 dL_entry_0 rfl (lv_at hl 3 rfl) ?_
  refine lv_iconst (v := (nI 0)) S.1 S.2.1 dL_entry_1 (by decide) ?_
  refine lv_aload_n S.1 S.2.1 dL_entry_2 rfl (lv_at hl 0 rfl) ?_
  refine lv_iload_n S.1 S.2.1 dL_entry_3 rfl (lv_at hl 1 rfl) ?_
  refine lv_iload_n S.1 S.2.1 dL_entry_4 rfl (lv_at hl 2 rfl) ?_
  refine fr_callVi (As := [.int p0, .int p1]) (rest := [.int (nI 0), .ref o]) (wc := wc) (wr := [(o, .inl (cT.2.1, 1, .inr (.inl g)))]) S (hM _) gL_entry_X8_entry rfl pd_X8_entry hrm hP hK hD hS hA (va_recv hK.1 (fr_l hP) (ci := 6) (q0 := 0) rfl hrv) hl rfl rfl (Nat.le_of_ble_eq_true rfl) ⟨by rw [Nat.zero_add]; exact hc.1, by rw [Nat.zero_add]; exact hc.2⟩ dL_entry_5 (fun r u H locs hp hP hD hS => ?_)
  refine W.widen (k := 1) (n := 8) (by rw [Nat.zero_add]; exact hc.1) (by rw [Nat.zero_add]; exact hc.2) ?_
  refine lv_i2l S.1 S.2.1 dL_entry_8 rfl ?_
  refine w_last (g := g) (i := 0) (n := 1) (v := r.toInt64) S ((w1 u).length + 0) hK hP hD hS (ap_at.trans rfl) (by decide) dL_entry_9 (fun H locs hP hD hS => ?_)
  rw [ap_set] at hP hD
  have hP : va_P D vwCl (w1 u ++ [(o, .inl (cT.2.1, 1, .inr (.inl (vp_updL g 0 (r.toInt64)))))]) H := hP
  have hD : va_D A (w1 u ++ [(o, .inl (cT.2.1, 1, .inr (.inl (vp_updL g 0 (r.toInt64)))))]) := hD
  refine lv_goto (tgt := 17) S.1 S.2.1 dL_entry_10 (by decide) ?_
  refine lv_iconst (v := (nI 0)) S.1 S.2.1 dL_entry_17 (by decide) ?_
  exact wr_iret S (r, u) hr rfl hlocks ⟨rfl, hp⟩ hP hD hS dL_entry_18
theorem wl_entry_0_0 : Cond.classLink RL 21 "java/lang/IndexOutOfBoundsException" ∈ wsL_entry := by decide +kernel
set_option maxHeartbeats 4000000 in
set_option maxRecDepth 100000 in
theorem wt_entry_I (l : Launch) (D : va_G) (cT : ClassId × ClassId × ClassId) (sz : Nat) {wc : va_W} {fs : List Value} (o c9 : Nat) (g : Nat → Int64) (p0 p1 : Int32) (hM : ∀ sz, vx_Met l yX8_entry wsX8_entry ({ frames := 6, cells := 1, slots := 6, locals := 160 } : Room) (va_Pc [.ref c9, .int p0, .int p1] (tr_R D (TY cT) wc sz)) (tr_Q sz) (tr_X "java/lang/IndexOutOfBoundsException" sz) 1 6 (fun q => sz ≤ q)) (hrv : wc[0]? = some (c9, .inr (6, fs))) : Met l yL_entry wsL_entry ({ frames := 8, cells := 1, slots := 8, locals := 200 } : Room) (va_Pc [.ref c9, .int p0, .int p1, .ref o] (wx_R D (TY cT) (wc ++ [(o, .inl (cT.2.1, 1, .inr (.inl g)))]) sz)) (wQi (fun (r_ : Int32) (_ : Unit) => r_ = nI 1) D (fun (_ : Unit) => wc ++ [(o, .inl (cT.2.1, 1, .inr (.inl g)))]) (va_A (wc ++ [(o, .inl (cT.2.1, 1, .inr (.inl g)))]) sz)) 1 8 (va_A (wc ++ [(o, .inl (cT.2.1, 1, .inr (.inl g)))]) sz) := by
  refine wx_start (cc := cL_entry) (maxL := 5) (ret := (some .int)) (hh := [(0, 10, 13, 21)]) RL ⟨by decide +kernel, rfl⟩ rfl (Nat.le_of_ble_eq_true rfl) ?_
  intro p0_ e0 s0 m0 a0 b0 t0 c0 S hr hlocks htab hsz hP hK hA hD hS hX ls hl
  subst hsz
  generalize va_A (wc ++ [(o, .inl (cT.2.1, 1, .inr (.inl g)))]) s0.heap.size = A at hA hD hS ⊢
  have hl : lv_has ls 5 [(0, .ref c9), (1, .int p0), (2, .int p1), (3, .ref o)] := hl
  refine lv_aload_n S.1 S.2.1 dL_entry_0 rfl (lv_at hl 3 rfl) ?_
  refine lv_iconst (v := (nI 0)) S.1 S.2.1 dL_entry_1 (by decide) ?_
  refine lv_aload_n S.1 S.2.1 dL_entry_2 rfl (lv_at hl 0 rfl) ?_
  refine lv_iload_n S.1 S.2.1 dL_entry_3 rfl (lv_at hl 1 rfl) ?_
  refine lv_iload_n S.1 S.2.1 dL_entry_4 rfl (lv_at hl 2 rfl) ?_
  refine fr_callVx (As := [.int p0, .int p1]) (rest := [.int (nI 0), .ref o]) (wc := wc) (wr := [(o, .inl (cT.2.1, 1, .inr (.inl g)))]) S (hM _) gL_entry_X8_entry rfl pd_X8_entry ⟨rfl, rfl, by decide, by decide⟩ hP hK hX hS hA (va_recv hK.1 (fr_l hP) (ci := 6) (q0 := 0) rfl hrv) hl rfl rfl (Nat.le_of_ble_eq_true rfl) (by decide) dL_entry_5 (fun q9 ce H locs hP hS hce hcv hcl => ?_)
  refine vx_catch (own := RL) (name := "java/lang/IndexOutOfBoundsException") S.2.2.2.1 ([] : List ExceptionTableEntry) (⟨0, 10, 13, 21⟩ : ExceptionTableEntry) ([] : List ExceptionTableEntry) (htab.trans rfl) (fun z hz => absurd hz List.not_mem_nil) (by decide) (by decide) (S.2.2.2.2 _ wl_entry_0_0) (va_Nw.use rfl (hK.2 (.castable "java/lang/IndexOutOfBoundsException" "java/lang/IndexOutOfBoundsException") (by decide +kernel))) hce hcv hcl ?_
  refine lv_astore (lv' := [(4, .ref q9), (0, .ref c9), (1, .int p0), (2, .int p1), (3, .ref o)]) S.1 S.2.1 dL_entry_13 hl (by decide) rfl (fun ls hl => ?_)
  refine lv_iconst (v := (nI 1)) S.1 S.2.1 dL_entry_15 (by decide) ?_
  refine W.widen (k := 1) (n := 8) (by decide) (by decide) ?_
  exact wr_iret S () hr rfl hlocks rfl hP hD hS dL_entry_16
set_option maxHeartbeats 4000000 in
set_option maxRecDepth 100000 in
theorem wo_gap (l : Launch) (D : va_G) (cT : ClassId × ClassId × ClassId) (sz : Nat) {St : Type} {post : Int32 → St → Prop} {w1 : St → va_W} {wc : va_W} {rm : Room} {mc ms : Nat} {fs : List Value} (o c9 : Nat) (g : Nat → Int64) (p0 p1 : Int32) (hM : ∀ sz, Met l yX8_gap wsX8_gap rm (va_Pc [.ref c9, .int p0, .int p1] (wr_R D (TY cT) wc sz)) (wQi post D w1 (va_A wc sz)) mc ms (va_A wc sz)) (hrm : rm.cells = mc ∧ rm.slots = ms ∧ rm.frames + 1 ≤ 8 ∧ 8 + (3 + 11) + rm.locals ≤ 200) (hc : mc ≤ 1 ∧ ms ≤ 8) (hrv : wc[0]? = some (c9, .inr (6, fs))) : Met l yL_gap wsL_gap ({ frames := 8, cells := 1, slots := 8, locals := 200 } : Room) (va_Pc [.ref c9, .int p0, .int p1, .ref o] (wx_R D (TY cT) (wc ++ [(o, .inl (cT.2.1, 1, .inr (.inl g)))]) sz)) (wQi (fun (r_ : Int32) (u_ : Int32 × St) => r_ = nI 0 ∧ post u_.1 u_.2) D (fun (u_ : Int32 × St) => w1 u_.2 ++ [(o, .inl (cT.2.1, 1, .inr (.inl (vp_updL g 0 (u_.1.toInt64)))))]) (va_A (wc ++ [(o, .inl (cT.2.1, 1, .inr (.inl g)))]) sz)) 1 8 (va_A (wc ++ [(o, .inl (cT.2.1, 1, .inr (.inl g)))]) sz) := by
  refine wx_start (cc := cL_gap) (maxL := 5) (ret := (some .int)) (hh := [(0, 10, 13, 21)]) RL ⟨by decide +kernel, rfl⟩ rfl (Nat.le_of_ble_eq_true rfl) ?_
  intro p0_ e0 s0 m0 a0 b0 t0 c0 S hr hlocks htab hsz hP hK hA hD hS hX ls hl
  subst hsz
  generalize va_A (wc ++ [(o, .inl (cT.2.1, 1, .inr (.inl g)))]) s0.heap.size = A at hA hD hS ⊢
  have hl : lv_has ls 5 [(0, .ref c9), (1, .int p0), (2, .int p1), (3, .ref o)] := hl
  refine lv_aload_n S.1 S.2.1 dL_gap_0 rfl (lv_at hl 3 rfl) ?_
  refine lv_iconst (v := (nI 0)) S.1 S.2.1 dL_gap_1 (by decide) ?_
  refine lv_aload_n S.1 S.2.1 dL_gap_2 rfl (lv_at hl 0 rfl) ?_
  refine lv_iload_n S.1 S.2.1 dL_gap_3 rfl (lv_at hl 1 rfl) ?_
  refine lv_iload_n S.1 S.2.1 dL_gap_4 rfl (lv_at hl 2 rfl) ?_
  refine fr_callVi (As := [.int p0, .int p1]) (rest := [.int (nI 0), .ref o]) (wc := wc) (wr := [(o, .inl (cT.2.1, 1, .inr (.inl g)))]) S (hM _) gL_gap_X8_gap rfl pd_X8_gap hrm hP hK hD hS hA (va_recv hK.1 (fr_l hP) (ci := 6) (q0 := 0) rfl hrv) hl rfl rfl (Nat.le_of_ble_eq_true rfl) ⟨by rw [Nat.zero_add]; exact hc.1, by rw [Nat.zero_add]; exact hc.2⟩ dL_gap_5 (fun r u H locs hp hP hD hS => ?_)
  refine W.widen (k := 1) (n := 8) (by rw [Nat.zero_add]; exact hc.1) (by rw [Nat.zero_add]; exact hc.2) ?_
  refine lv_i2l S.1 S.2.1 dL_gap_8 rfl ?_
  refine w_last (g := g) (i := 0) (n := 1) (v := r.toInt64) S ((w1 u).length + 0) hK hP hD hS (ap_at.trans rfl) (by decide) dL_gap_9 (fun H locs hP hD hS => ?_)
  rw [ap_set] at hP hD
  have hP : va_P D vwCl (w1 u ++ [(o, .inl (cT.2.1, 1, .inr (.inl (vp_updL g 0 (r.toInt64)))))]) H := hP
  have hD : va_D A (w1 u ++ [(o, .inl (cT.2.1, 1, .inr (.inl (vp_updL g 0 (r.toInt64)))))]) := hD
  refine lv_goto (tgt := 17) S.1 S.2.1 dL_gap_10 (by decide) ?_
  refine lv_iconst (v := (nI 0)) S.1 S.2.1 dL_gap_17 (by decide) ?_
  exact wr_iret S (r, u) hr rfl hlocks ⟨rfl, hp⟩ hP hD hS dL_gap_18
theorem wl_gap_0_0 : Cond.classLink RL 21 "java/lang/IndexOutOfBoundsException" ∈ wsL_gap := by decide +kernel
set_option maxHeartbeats 4000000 in
set_option maxRecDepth 100000 in
theorem wt_gap_I (l : Launch) (D : va_G) (cT : ClassId × ClassId × ClassId) (sz : Nat) {wc : va_W} {fs : List Value} (o c9 : Nat) (g : Nat → Int64) (p0 p1 : Int32) (hM : ∀ sz, vx_Met l yX8_gap wsX8_gap ({ frames := 6, cells := 1, slots := 6, locals := 160 } : Room) (va_Pc [.ref c9, .int p0, .int p1] (tr_R D (TY cT) wc sz)) (tr_Q sz) (tr_X "java/lang/IndexOutOfBoundsException" sz) 1 6 (fun q => sz ≤ q)) (hrv : wc[0]? = some (c9, .inr (6, fs))) : Met l yL_gap wsL_gap ({ frames := 8, cells := 1, slots := 8, locals := 200 } : Room) (va_Pc [.ref c9, .int p0, .int p1, .ref o] (wx_R D (TY cT) (wc ++ [(o, .inl (cT.2.1, 1, .inr (.inl g)))]) sz)) (wQi (fun (r_ : Int32) (_ : Unit) => r_ = nI 1) D (fun (_ : Unit) => wc ++ [(o, .inl (cT.2.1, 1, .inr (.inl g)))]) (va_A (wc ++ [(o, .inl (cT.2.1, 1, .inr (.inl g)))]) sz)) 1 8 (va_A (wc ++ [(o, .inl (cT.2.1, 1, .inr (.inl g)))]) sz) := by
  refine wx_start (cc := cL_gap) (maxL := 5) (ret := (some .int)) (hh := [(0, 10, 13, 21)]) RL ⟨by decide +kernel, rfl⟩ rfl (Nat.le_of_ble_eq_true rfl) ?_
  intro p0_ e0 s0 m0 a0 b0 t0 c0 S hr hlocks htab hsz hP hK hA hD hS hX ls hl
  subst hsz
  generalize va_A (wc ++ [(o, .inl (cT.2.1, 1, .inr (.inl g)))]) s0.heap.size = A at hA hD hS ⊢
  have hl : lv_has ls 5 [(0, .ref c9), (1, .int p0), (2, .int p1), (3, .ref o)] := hl
  refine lv_aload_n S.1 S.2.1 dL_gap_0 rfl (lv_at hl 3 rfl) ?_
  refine lv_iconst (v := (nI 0)) S.1 S.2.1 dL_gap_1 (by decide) ?_
  refine lv_aload_n S.1 S.2.1 dL_gap_2 rfl (lv_at hl 0 rfl) ?_
  refine lv_iload_n S.1 S.2.1 dL_gap_3 rfl (lv_at hl 1 rfl) ?_
  refine lv_iload_n S.1 S.2.1 dL_gap_4 rfl (lv_at hl 2 rfl) ?_
  refine fr_callVx (As := [.int p0, .int p1]) (rest := [.int (nI 0), .ref o]) (wc := wc) (wr := [(o, .inl (cT.2.1, 1, .inr (.inl g)))]) S (hM _) gL_gap_X8_gap rfl pd_X8_gap ⟨rfl, rfl, by decide, by decide⟩ hP hK hX hS hA (va_recv hK.1 (fr_l hP) (ci := 6) (q0 := 0) rfl hrv) hl rfl rfl (Nat.le_of_ble_eq_true rfl) (by decide) dL_gap_5 (fun q9 ce H locs hP hS hce hcv hcl => ?_)
  refine vx_catch (own := RL) (name := "java/lang/IndexOutOfBoundsException") S.2.2.2.1 ([] : List ExceptionTableEntry) (⟨0, 10, 13, 21⟩ : ExceptionTableEntry) ([] : List ExceptionTableEntry) (htab.trans rfl) (fun z hz => absurd hz List.not_mem_nil) (by decide) (by decide) (S.2.2.2.2 _ wl_gap_0_0) (va_Nw.use rfl (hK.2 (.castable "java/lang/IndexOutOfBoundsException" "java/lang/IndexOutOfBoundsException") (by decide +kernel))) hce hcv hcl ?_
  refine lv_astore (lv' := [(4, .ref q9), (0, .ref c9), (1, .int p0), (2, .int p1), (3, .ref o)]) S.1 S.2.1 dL_gap_13 hl (by decide) rfl (fun ls hl => ?_)
  refine lv_iconst (v := (nI 1)) S.1 S.2.1 dL_gap_15 (by decide) ?_
  refine W.widen (k := 1) (n := 8) (by decide) (by decide) ?_
  exact wr_iret S () hr rfl hlocks rfl hP hD hS dL_gap_16
set_option maxHeartbeats 4000000 in
set_option maxRecDepth 100000 in
theorem wo_shifts (l : Launch) (D : va_G) (cT : ClassId × ClassId × ClassId) (sz : Nat) {St : Type} {post : Int32 → St → Prop} {w1 : St → va_W} {wc : va_W} {rm : Room} {mc ms : Nat} {fs : List Value} (o c9 : Nat) (g : Nat → Int64) (p0 : Int32) (hM : ∀ sz, Met l yX8_shifts wsX8_shifts rm (va_Pc [.ref c9, .int p0] (wr_R D (TY cT) wc sz)) (wQi post D w1 (va_A wc sz)) mc ms (va_A wc sz)) (hrm : rm.cells = mc ∧ rm.slots = ms ∧ rm.frames + 1 ≤ 8 ∧ 8 + (3 + 11) + rm.locals ≤ 200) (hc : mc ≤ 1 ∧ ms ≤ 8) (hrv : wc[0]? = some (c9, .inr (6, fs))) : Met l yL_shifts wsL_shifts ({ frames := 8, cells := 1, slots := 8, locals := 200 } : Room) (va_Pc [.ref c9, .int p0, .ref o] (wx_R D (TY cT) (wc ++ [(o, .inl (cT.2.1, 1, .inr (.inl g)))]) sz)) (wQi (fun (r_ : Int32) (u_ : Int32 × St) => r_ = nI 0 ∧ post u_.1 u_.2) D (fun (u_ : Int32 × St) => w1 u_.2 ++ [(o, .inl (cT.2.1, 1, .inr (.inl (vp_updL g 0 (u_.1.toInt64)))))]) (va_A (wc ++ [(o, .inl (cT.2.1, 1, .inr (.inl g)))]) sz)) 1 8 (va_A (wc ++ [(o, .inl (cT.2.1, 1, .inr (.inl g)))]) sz) := by
  refine wx_start (cc := cL_shifts) (maxL := 4) (ret := (some .int)) (hh := [(0, 9, 12, 21)]) RL ⟨by decide +kernel, rfl⟩ rfl (Nat.le_of_ble_eq_true rfl) ?_
  intro p0_ e0 s0 m0 a0 b0 t0 c0 S hr hlocks htab hsz hP hK hA hD hS hX ls hl
  subst hsz
  generalize va_A (wc ++ [(o, .inl (cT.2.1, 1, .inr (.inl g)))]) s0.heap.size = A at hA hD hS ⊢
  have hl : lv_has ls 4 [(0, .ref c9), (1, .int p0), (2, .ref o)] := hl
  refine lv_aload_n S.1 S.2.1 dL_shifts_0 rfl (lv_at hl 2 rfl) ?_
  refine lv_iconst (v := (nI 0)) S.1 S.2.1 dL_shifts_1 (by decide) ?_
  refine lv_aload_n S.1 S.2.1 dL_shifts_2 rfl (lv_at hl 0 rfl) ?_
  refine lv_iload_n S.1 S.2.1 dL_shifts_3 rfl (lv_at hl 1 rfl) ?_
  refine fr_callVi (As := [.int p0]) (rest := [.int (nI 0), .ref o]) (wc := wc) (wr := [(o, .inl (cT.2.1, 1, .inr (.inl g)))]) S (hM _) gL_shifts_X8_shifts rfl pd_X8_shifts hrm hP hK hD hS hA (va_recv hK.1 (fr_l hP) (ci := 6) (q0 := 0) rfl hrv) hl rfl rfl (Nat.le_of_ble_eq_true rfl) ⟨by rw [Nat.zero_add]; exact hc.1, by rw [Nat.zero_add]; exact hc.2⟩ dL_shifts_4 (fun r u H locs hp hP hD hS => ?_)
  refine W.widen (k := 1) (n := 8) (by rw [Nat.zero_add]; exact hc.1) (by rw [Nat.zero_add]; exact hc.2) ?_
  refine lv_i2l S.1 S.2.1 dL_shifts_7 rfl ?_
  refine w_last (g := g) (i := 0) (n := 1) (v := r.toInt64) S ((w1 u).length + 0) hK hP hD hS (ap_at.trans rfl) (by decide) dL_shifts_8 (fun H locs hP hD hS => ?_)
  rw [ap_set] at hP hD
  have hP : va_P D vwCl (w1 u ++ [(o, .inl (cT.2.1, 1, .inr (.inl (vp_updL g 0 (r.toInt64)))))]) H := hP
  have hD : va_D A (w1 u ++ [(o, .inl (cT.2.1, 1, .inr (.inl (vp_updL g 0 (r.toInt64)))))]) := hD
  refine lv_goto (tgt := 15) S.1 S.2.1 dL_shifts_9 (by decide) ?_
  refine lv_iconst (v := (nI 0)) S.1 S.2.1 dL_shifts_15 (by decide) ?_
  exact wr_iret S (r, u) hr rfl hlocks ⟨rfl, hp⟩ hP hD hS dL_shifts_16
theorem wl_shifts_0_0 : Cond.classLink RL 21 "java/lang/IndexOutOfBoundsException" ∈ wsL_shifts := by decide +kernel
set_option maxHeartbeats 4000000 in
set_option maxRecDepth 100000 in
theorem wt_shifts_I (l : Launch) (D : va_G) (cT : ClassId × ClassId × ClassId) (sz : Nat) {wc : va_W} {fs : List Value} (o c9 : Nat) (g : Nat → Int64) (p0 : Int32) (hM : ∀ sz, vx_Met l yX8_shifts wsX8_shifts ({ frames := 6, cells := 1, slots := 6, locals := 160 } : Room) (va_Pc [.ref c9, .int p0] (tr_R D (TY cT) wc sz)) (tr_Q sz) (tr_X "java/lang/IndexOutOfBoundsException" sz) 1 6 (fun q => sz ≤ q)) (hrv : wc[0]? = some (c9, .inr (6, fs))) : Met l yL_shifts wsL_shifts ({ frames := 8, cells := 1, slots := 8, locals := 200 } : Room) (va_Pc [.ref c9, .int p0, .ref o] (wx_R D (TY cT) (wc ++ [(o, .inl (cT.2.1, 1, .inr (.inl g)))]) sz)) (wQi (fun (r_ : Int32) (_ : Unit) => r_ = nI 1) D (fun (_ : Unit) => wc ++ [(o, .inl (cT.2.1, 1, .inr (.inl g)))]) (va_A (wc ++ [(o, .inl (cT.2.1, 1, .inr (.inl g)))]) sz)) 1 8 (va_A (wc ++ [(o, .inl (cT.2.1, 1, .inr (.inl g)))]) sz) := by
  refine wx_start (cc := cL_shifts) (maxL := 4) (ret := (some .int)) (hh := [(0, 9, 12, 21)]) RL ⟨by decide +kernel, rfl⟩ rfl (Nat.le_of_ble_eq_true rfl) ?_
  intro p0_ e0 s0 m0 a0 b0 t0 c0 S hr hlocks htab hsz hP hK hA hD hS hX ls hl
  subst hsz
  generalize va_A (wc ++ [(o, .inl (cT.2.1, 1, .inr (.inl g)))]) s0.heap.size = A at hA hD hS ⊢
  have hl : lv_has ls 4 [(0, .ref c9), (1, .int p0), (2, .ref o)] := hl
  refine lv_aload_n S.1 S.2.1 dL_shifts_0 rfl (lv_at hl 2 rfl) ?_
  refine lv_iconst (v := (nI 0)) S.1 S.2.1 dL_shifts_1 (by decide) ?_
  refine lv_aload_n S.1 S.2.1 dL_shifts_2 rfl (lv_at hl 0 rfl) ?_
  refine lv_iload_n S.1 S.2.1 dL_shifts_3 rfl (lv_at hl 1 rfl) ?_
  refine fr_callVx (As := [.int p0]) (rest := [.int (nI 0), .ref o]) (wc := wc) (wr := [(o, .inl (cT.2.1, 1, .inr (.inl g)))]) S (hM _) gL_shifts_X8_shifts rfl pd_X8_shifts ⟨rfl, rfl, by decide, by decide⟩ hP hK hX hS hA (va_recv hK.1 (fr_l hP) (ci := 6) (q0 := 0) rfl hrv) hl rfl rfl (Nat.le_of_ble_eq_true rfl) (by decide) dL_shifts_4 (fun q9 ce H locs hP hS hce hcv hcl => ?_)
  refine vx_catch (own := RL) (name := "java/lang/IndexOutOfBoundsException") S.2.2.2.1 ([] : List ExceptionTableEntry) (⟨0, 9, 12, 21⟩ : ExceptionTableEntry) ([] : List ExceptionTableEntry) (htab.trans rfl) (fun z hz => absurd hz List.not_mem_nil) (by decide) (by decide) (S.2.2.2.2 _ wl_shifts_0_0) (va_Nw.use rfl (hK.2 (.castable "java/lang/IndexOutOfBoundsException" "java/lang/IndexOutOfBoundsException") (by decide +kernel))) hce hcv hcl ?_
  refine lv_astore_n (lv' := [(3, .ref q9), (0, .ref c9), (1, .int p0), (2, .ref o)]) S.1 S.2.1 dL_shifts_12 rfl hl (by decide) rfl (fun ls hl => ?_)
  refine lv_iconst (v := (nI 1)) S.1 S.2.1 dL_shifts_13 (by decide) ?_
  refine W.widen (k := 1) (n := 8) (by decide) (by decide) ?_
  exact wr_iret S () hr rfl hlocks rfl hP hD hS dL_shifts_14
set_option maxHeartbeats 4000000 in
set_option maxRecDepth 100000 in
theorem wo_weekends (l : Launch) (D : va_G) (cT : ClassId × ClassId × ClassId) (sz : Nat) {St : Type} {post : Int32 → St → Prop} {w1 : St → va_W} {wc : va_W} {rm : Room} {mc ms : Nat} {fs : List Value} (o c9 : Nat) (g : Nat → Int64) (p0 : Int32) (hM : ∀ sz, Met l yX8_weekends wsX8_weekends rm (va_Pc [.ref c9, .int p0] (wr_R D (TY cT) wc sz)) (wQi post D w1 (va_A wc sz)) mc ms (va_A wc sz)) (hrm : rm.cells = mc ∧ rm.slots = ms ∧ rm.frames + 1 ≤ 8 ∧ 8 + (3 + 11) + rm.locals ≤ 200) (hc : mc ≤ 1 ∧ ms ≤ 8) (hrv : wc[0]? = some (c9, .inr (6, fs))) : Met l yL_weekends wsL_weekends ({ frames := 8, cells := 1, slots := 8, locals := 200 } : Room) (va_Pc [.ref c9, .int p0, .ref o] (wx_R D (TY cT) (wc ++ [(o, .inl (cT.2.1, 1, .inr (.inl g)))]) sz)) (wQi (fun (r_ : Int32) (u_ : Int32 × St) => r_ = nI 0 ∧ post u_.1 u_.2) D (fun (u_ : Int32 × St) => w1 u_.2 ++ [(o, .inl (cT.2.1, 1, .inr (.inl (vp_updL g 0 (u_.1.toInt64)))))]) (va_A (wc ++ [(o, .inl (cT.2.1, 1, .inr (.inl g)))]) sz)) 1 8 (va_A (wc ++ [(o, .inl (cT.2.1, 1, .inr (.inl g)))]) sz) := by
  refine wx_start (cc := cL_weekends) (maxL := 4) (ret := (some .int)) (hh := [(0, 9, 12, 21)]) RL ⟨by decide +kernel, rfl⟩ rfl (Nat.le_of_ble_eq_true rfl) ?_
  intro p0_ e0 s0 m0 a0 b0 t0 c0 S hr hlocks htab hsz hP hK hA hD hS hX ls hl
  subst hsz
  generalize va_A (wc ++ [(o, .inl (cT.2.1, 1, .inr (.inl g)))]) s0.heap.size = A at hA hD hS ⊢
  have hl : lv_has ls 4 [(0, .ref c9), (1, .int p0), (2, .ref o)] := hl
  refine lv_aload_n S.1 S.2.1 dL_weekends_0 rfl (lv_at hl 2 rfl) ?_
  refine lv_iconst (v := (nI 0)) S.1 S.2.1 dL_weekends_1 (by decide) ?_
  refine lv_aload_n S.1 S.2.1 dL_weekends_2 rfl (lv_at hl 0 rfl) ?_
  refine lv_iload_n S.1 S.2.1 dL_weekends_3 rfl (lv_at hl 1 rfl) ?_
  refine fr_callVi (As := [.int p0]) (rest := [.int (nI 0), .ref o]) (wc := wc) (wr := [(o, .inl (cT.2.1, 1, .inr (.inl g)))]) S (hM _) gL_weekends_X8_weekends rfl pd_X8_weekends hrm hP hK hD hS hA (va_recv hK.1 (fr_l hP) (ci := 6) (q0 := 0) rfl hrv) hl rfl rfl (Nat.le_of_ble_eq_true rfl) ⟨by rw [Nat.zero_add]; exact hc.1, by rw [Nat.zero_add]; exact hc.2⟩ dL_weekends_4 (fun r u H locs hp hP hD hS => ?_)
  refine W.widen (k := 1) (n := 8) (by rw [Nat.zero_add]; exact hc.1) (by rw [Nat.zero_add]; exact hc.2) ?_
  refine lv_i2l S.1 S.2.1 dL_weekends_7 rfl ?_
  refine w_last (g := g) (i := 0) (n := 1) (v := r.toInt64) S ((w1 u).length + 0) hK hP hD hS (ap_at.trans rfl) (by decide) dL_weekends_8 (fun H locs hP hD hS => ?_)
  rw [ap_set] at hP hD
  have hP : va_P D vwCl (w1 u ++ [(o, .inl (cT.2.1, 1, .inr (.inl (vp_updL g 0 (r.toInt64)))))]) H := hP
  have hD : va_D A (w1 u ++ [(o, .inl (cT.2.1, 1, .inr (.inl (vp_updL g 0 (r.toInt64)))))]) := hD
  refine lv_goto (tgt := 15) S.1 S.2.1 dL_weekends_9 (by decide) ?_
  refine lv_iconst (v := (nI 0)) S.1 S.2.1 dL_weekends_15 (by decide) ?_
  exact wr_iret S (r, u) hr rfl hlocks ⟨rfl, hp⟩ hP hD hS dL_weekends_16
theorem wl_weekends_0_0 : Cond.classLink RL 21 "java/lang/IndexOutOfBoundsException" ∈ wsL_weekends := by decide +kernel
set_option maxHeartbeats 4000000 in
set_option maxRecDepth 100000 in
theorem wt_weekends_I (l : Launch) (D : va_G) (cT : ClassId × ClassId × ClassId) (sz : Nat) {wc : va_W} {fs : List Value} (o c9 : Nat) (g : Nat → Int64) (p0 : Int32) (hM : ∀ sz, vx_Met l yX8_weekends wsX8_weekends ({ frames := 6, cells := 1, slots := 6, locals := 160 } : Room) (va_Pc [.ref c9, .int p0] (tr_R D (TY cT) wc sz)) (tr_Q sz) (tr_X "java/lang/IndexOutOfBoundsException" sz) 1 6 (fun q => sz ≤ q)) (hrv : wc[0]? = some (c9, .inr (6, fs))) : Met l yL_weekends wsL_weekends ({ frames := 8, cells := 1, slots := 8, locals := 200 } : Room) (va_Pc [.ref c9, .int p0, .ref o] (wx_R D (TY cT) (wc ++ [(o, .inl (cT.2.1, 1, .inr (.inl g)))]) sz)) (wQi (fun (r_ : Int32) (_ : Unit) => r_ = nI 1) D (fun (_ : Unit) => wc ++ [(o, .inl (cT.2.1, 1, .inr (.inl g)))]) (va_A (wc ++ [(o, .inl (cT.2.1, 1, .inr (.inl g)))]) sz)) 1 8 (va_A (wc ++ [(o, .inl (cT.2.1, 1, .inr (.inl g)))]) sz) := by
  refine wx_start (cc := cL_weekends) (maxL := 4) (ret := (some .int)) (hh := [(0, 9, 12, 21)]) RL ⟨by decide +kernel, rfl⟩ rfl (Nat.le_of_ble_eq_true rfl) ?_
  intro p0_ e0 s0 m0 a0 b0 t0 c0 S hr hlocks htab hsz hP hK hA hD hS hX ls hl
  subst hsz
  generalize va_A (wc ++ [(o, .inl (cT.2.1, 1, .inr (.inl g)))]) s0.heap.size = A at hA hD hS ⊢
  have hl : lv_has ls 4 [(0, .ref c9), (1, .int p0), (2, .ref o)] := hl
  refine lv_aload_n S.1 S.2.1 dL_weekends_0 rfl (lv_at hl 2 rfl) ?_
  refine lv_iconst (v := (nI 0)) S.1 S.2.1 dL_weekends_1 (by decide) ?_
  refine lv_aload_n S.1 S.2.1 dL_weekends_2 rfl (lv_at hl 0 rfl) ?_
  refine lv_iload_n S.1 S.2.1 dL_weekends_3 rfl (lv_at hl 1 rfl) ?_
  refine fr_callVx (As := [.int p0]) (rest := [.int (nI 0), .ref o]) (wc := wc) (wr := [(o, .inl (cT.2.1, 1, .inr (.inl g)))]) S (hM _) gL_weekends_X8_weekends rfl pd_X8_weekends ⟨rfl, rfl, by decide, by decide⟩ hP hK hX hS hA (va_recv hK.1 (fr_l hP) (ci := 6) (q0 := 0) rfl hrv) hl rfl rfl (Nat.le_of_ble_eq_true rfl) (by decide) dL_weekends_4 (fun q9 ce H locs hP hS hce hcv hcl => ?_)
  refine vx_catch (own := RL) (name := "java/lang/IndexOutOfBoundsException") S.2.2.2.1 ([] : List ExceptionTableEntry) (⟨0, 9, 12, 21⟩ : ExceptionTableEntry) ([] : List ExceptionTableEntry) (htab.trans rfl) (fun z hz => absurd hz List.not_mem_nil) (by decide) (by decide) (S.2.2.2.2 _ wl_weekends_0_0) (va_Nw.use rfl (hK.2 (.castable "java/lang/IndexOutOfBoundsException" "java/lang/IndexOutOfBoundsException") (by decide +kernel))) hce hcv hcl ?_
  refine lv_astore_n (lv' := [(3, .ref q9), (0, .ref c9), (1, .int p0), (2, .ref o)]) S.1 S.2.1 dL_weekends_12 rfl hl (by decide) rfl (fun ls hl => ?_)
  refine lv_iconst (v := (nI 1)) S.1 S.2.1 dL_weekends_13 (by decide) ?_
  refine W.widen (k := 1) (n := 8) (by decide) (by decide) ?_
  exact wr_iret S () hr rfl hlocks rfl hP hD hS dL_weekends_14
set_option maxHeartbeats 4000000 in
set_option maxRecDepth 100000 in
theorem wo_broken (l : Launch) (D : va_G) (cT : ClassId × ClassId × ClassId) (sz : Nat) {St : Type} {post : Int32 → St → Prop} {w1 : St → va_W} {wc : va_W} {rm : Room} {mc ms : Nat} {fs : List Value} (o c9 : Nat) (g : Nat → Int64) (p0 : Int32) (hM : ∀ sz, Met l yX8_broken wsX8_broken rm (va_Pc [.ref c9, .int p0] (wr_R D (TY cT) wc sz)) (wQi post D w1 (va_A wc sz)) mc ms (va_A wc sz)) (hrm : rm.cells = mc ∧ rm.slots = ms ∧ rm.frames + 1 ≤ 8 ∧ 8 + (3 + 11) + rm.locals ≤ 200) (hc : mc ≤ 1 ∧ ms ≤ 8) (hrv : wc[0]? = some (c9, .inr (6, fs))) : Met l yL_broken wsL_broken ({ frames := 8, cells := 1, slots := 8, locals := 200 } : Room) (va_Pc [.ref c9, .int p0, .ref o] (wx_R D (TY cT) (wc ++ [(o, .inl (cT.2.1, 1, .inr (.inl g)))]) sz)) (wQi (fun (r_ : Int32) (u_ : Int32 × St) => r_ = nI 0 ∧ post u_.1 u_.2) D (fun (u_ : Int32 × St) => w1 u_.2 ++ [(o, .inl (cT.2.1, 1, .inr (.inl (vp_updL g 0 (u_.1.toInt64)))))]) (va_A (wc ++ [(o, .inl (cT.2.1, 1, .inr (.inl g)))]) sz)) 1 8 (va_A (wc ++ [(o, .inl (cT.2.1, 1, .inr (.inl g)))]) sz) := by
  refine wx_start (cc := cL_broken) (maxL := 4) (ret := (some .int)) (hh := [(0, 9, 12, 21)]) RL ⟨by decide +kernel, rfl⟩ rfl (Nat.le_of_ble_eq_true rfl) ?_
  intro p0_ e0 s0 m0 a0 b0 t0 c0 S hr hlocks htab hsz hP hK hA hD hS hX ls hl
  subst hsz
  generalize va_A (wc ++ [(o, .inl (cT.2.1, 1, .inr (.inl g)))]) s0.heap.size = A at hA hD hS ⊢
  have hl : lv_has ls 4 [(0, .ref c9), (1, .int p0), (2, .ref o)] := hl
  refine lv_aload_n S.1 S.2.1 dL_broken_0 rfl (lv_at hl 2 rfl) ?_
  refine lv_iconst (v := (nI 0)) S.1 S.2.1 dL_broken_1 (by decide) ?_
  refine lv_aload_n S.1 S.2.1 dL_broken_2 rfl (lv_at hl 0 rfl) ?_
  refine lv_iload_n S.1 S.2.1 dL_broken_3 rfl (lv_at hl 1 rfl) ?_
  refine fr_callVi (As := [.int p0]) (rest := [.int (nI 0), .ref o]) (wc := wc) (wr := [(o, .inl (cT.2.1, 1, .inr (.inl g)))]) S (hM _) gL_broken_X8_broken rfl pd_X8_broken hrm hP hK hD hS hA (va_recv hK.1 (fr_l hP) (ci := 6) (q0 := 0) rfl hrv) hl rfl rfl (Nat.le_of_ble_eq_true rfl) ⟨by rw [Nat.zero_add]; exact hc.1, by rw [Nat.zero_add]; exact hc.2⟩ dL_broken_4 (fun r u H locs hp hP hD hS => ?_)
  refine W.widen (k := 1) (n := 8) (by rw [Nat.zero_add]; exact hc.1) (by rw [Nat.zero_add]; exact hc.2) ?_
  refine lv_i2l S.1 S.2.1 dL_broken_7 rfl ?_
  refine w_last (g := g) (i := 0) (n := 1) (v := r.toInt64) S ((w1 u).length + 0) hK hP hD hS (ap_at.trans rfl) (by decide) dL_broken_8 (fun H locs hP hD hS => ?_)
  rw [ap_set] at hP hD
  have hP : va_P D vwCl (w1 u ++ [(o, .inl (cT.2.1, 1, .inr (.inl (vp_updL g 0 (r.toInt64)))))]) H := hP
  have hD : va_D A (w1 u ++ [(o, .inl (cT.2.1, 1, .inr (.inl (vp_updL g 0 (r.toInt64)))))]) := hD
  refine lv_goto (tgt := 15) S.1 S.2.1 dL_broken_9 (by decide) ?_
  refine lv_iconst (v := (nI 0)) S.1 S.2.1 dL_broken_15 (by decide) ?_
  exact wr_iret S (r, u) hr rfl hlocks ⟨rfl, hp⟩ hP hD hS dL_broken_16
theorem wl_broken_0_0 : Cond.classLink RL 21 "java/lang/IndexOutOfBoundsException" ∈ wsL_broken := by decide +kernel
set_option maxHeartbeats 4000000 in
set_option maxRecDepth 100000 in
theorem wt_broken_I (l : Launch) (D : va_G) (cT : ClassId × ClassId × ClassId) (sz : Nat) {wc : va_W} {fs : List Value} (o c9 : Nat) (g : Nat → Int64) (p0 : Int32) (hM : ∀ sz, vx_Met l yX8_broken wsX8_broken ({ frames := 6, cells := 1, slots := 6, locals := 160 } : Room) (va_Pc [.ref c9, .int p0] (tr_R D (TY cT) wc sz)) (tr_Q sz) (tr_X "java/lang/IndexOutOfBoundsException" sz) 1 6 (fun q => sz ≤ q)) (hrv : wc[0]? = some (c9, .inr (6, fs))) : Met l yL_broken wsL_broken ({ frames := 8, cells := 1, slots := 8, locals := 200 } : Room) (va_Pc [.ref c9, .int p0, .ref o] (wx_R D (TY cT) (wc ++ [(o, .inl (cT.2.1, 1, .inr (.inl g)))]) sz)) (wQi (fun (r_ : Int32) (_ : Unit) => r_ = nI 1) D (fun (_ : Unit) => wc ++ [(o, .inl (cT.2.1, 1, .inr (.inl g)))]) (va_A (wc ++ [(o, .inl (cT.2.1, 1, .inr (.inl g)))]) sz)) 1 8 (va_A (wc ++ [(o, .inl (cT.2.1, 1, .inr (.inl g)))]) sz) := by
  refine wx_start (cc := cL_broken) (maxL := 4) (ret := (some .int)) (hh := [(0, 9, 12, 21)]) RL ⟨by decide +kernel, rfl⟩ rfl (Nat.le_of_ble_eq_true rfl) ?_
  intro p0_ e0 s0 m0 a0 b0 t0 c0 S hr hlocks htab hsz hP hK hA hD hS hX ls hl
  subst hsz
  generalize va_A (wc ++ [(o, .inl (cT.2.1, 1, .inr (.inl g)))]) s0.heap.size = A at hA hD hS ⊢
  have hl : lv_has ls 4 [(0, .ref c9), (1, .int p0), (2, .ref o)] := hl
  refine lv_aload_n S.1 S.2.1 dL_broken_0 rfl (lv_at hl 2 rfl) ?_
  refine lv_iconst (v := (nI 0)) S.1 S.2.1 dL_broken_1 (by decide) ?_
  refine lv_aload_n S.1 S.2.1 dL_broken_2 rfl (lv_at hl 0 rfl) ?_
  refine lv_iload_n S.1 S.2.1 dL_broken_3 rfl (lv_at hl 1 rfl) ?_
  refine fr_callVx (As := [.int p0]) (rest := [.int (nI 0), .ref o]) (wc := wc) (wr := [(o, .inl (cT.2.1, 1, .inr (.inl g)))]) S (hM _) gL_broken_X8_broken rfl pd_X8_broken ⟨rfl, rfl, by decide, by decide⟩ hP hK hX hS hA (va_recv hK.1 (fr_l hP) (ci := 6) (q0 := 0) rfl hrv) hl rfl rfl (Nat.le_of_ble_eq_true rfl) (by decide) dL_broken_4 (fun q9 ce H locs hP hS hce hcv hcl => ?_)
  refine vx_catch (own := RL) (name := "java/lang/IndexOutOfBoundsException") S.2.2.2.1 ([] : List ExceptionTableEntry) (⟨0, 9, 12, 21⟩ : ExceptionTableEntry) ([] : List ExceptionTableEntry) (htab.trans rfl) (fun z hz => absurd hz List.not_mem_nil) (by decide) (by decide) (S.2.2.2.2 _ wl_broken_0_0) (va_Nw.use rfl (hK.2 (.castable "java/lang/IndexOutOfBoundsException" "java/lang/IndexOutOfBoundsException") (by decide +kernel))) hce hcv hcl ?_
  refine lv_astore_n (lv' := [(3, .ref q9), (0, .ref c9), (1, .int p0), (2, .ref o)]) S.1 S.2.1 dL_broken_12 rfl hl (by decide) rfl (fun ls hl => ?_)
  refine lv_iconst (v := (nI 1)) S.1 S.2.1 dL_broken_13 (by decide) ?_
  refine W.widen (k := 1) (n := 8) (by decide) (by decide) ?_
  exact wr_iret S () hr rfl hlocks rfl hP hD hS dL_broken_14
set_option maxHeartbeats 4000000 in
set_option maxRecDepth 100000 in
theorem wo_runBefore (l : Launch) (D : va_G) (cT : ClassId × ClassId × ClassId) (sz : Nat) {St : Type} {post : Int32 → St → Prop} {w1 : St → va_W} {wc : va_W} {rm : Room} {mc ms : Nat} {fs : List Value} (o c9 : Nat) (g : Nat → Int64) (p0 : Int32) (hM : ∀ sz, Met l yX8_runBefore wsX8_runBefore rm (va_Pc [.ref c9, .int p0] (wr_R D (TY cT) wc sz)) (wQi post D w1 (va_A wc sz)) mc ms (va_A wc sz)) (hrm : rm.cells = mc ∧ rm.slots = ms ∧ rm.frames + 1 ≤ 8 ∧ 8 + (3 + 11) + rm.locals ≤ 200) (hc : mc ≤ 1 ∧ ms ≤ 8) (hrv : wc[0]? = some (c9, .inr (6, fs))) : Met l yL_runBefore wsL_runBefore ({ frames := 8, cells := 1, slots := 8, locals := 200 } : Room) (va_Pc [.ref c9, .int p0, .ref o] (wx_R D (TY cT) (wc ++ [(o, .inl (cT.2.1, 1, .inr (.inl g)))]) sz)) (wQi (fun (r_ : Int32) (u_ : Int32 × St) => r_ = nI 0 ∧ post u_.1 u_.2) D (fun (u_ : Int32 × St) => w1 u_.2 ++ [(o, .inl (cT.2.1, 1, .inr (.inl (vp_updL g 0 (u_.1.toInt64)))))]) (va_A (wc ++ [(o, .inl (cT.2.1, 1, .inr (.inl g)))]) sz)) 1 8 (va_A (wc ++ [(o, .inl (cT.2.1, 1, .inr (.inl g)))]) sz) := by
  refine wx_start (cc := cL_runBefore) (maxL := 4) (ret := (some .int)) (hh := [(0, 9, 12, 21)]) RL ⟨by decide +kernel, rfl⟩ rfl (Nat.le_of_ble_eq_true rfl) ?_
  intro p0_ e0 s0 m0 a0 b0 t0 c0 S hr hlocks htab hsz hP hK hA hD hS hX ls hl
  subst hsz
  generalize va_A (wc ++ [(o, .inl (cT.2.1, 1, .inr (.inl g)))]) s0.heap.size = A at hA hD hS ⊢
  have hl : lv_has ls 4 [(0, .ref c9), (1, .int p0), (2, .ref o)] := hl
  refine lv_aload_n S.1 S.2.1 dL_runBefore_0 rfl (lv_at hl 2 rfl) ?_
  refine lv_iconst (v := (nI 0)) S.1 S.2.1 dL_runBefore_1 (by decide) ?_
  refine lv_aload_n S.1 S.2.1 dL_runBefore_2 rfl (lv_at hl 0 rfl) ?_
  refine lv_iload_n S.1 S.2.1 dL_runBefore_3 rfl (lv_at hl 1 rfl) ?_
  refine fr_callVi (As := [.int p0]) (rest := [.int (nI 0), .ref o]) (wc := wc) (wr := [(o, .inl (cT.2.1, 1, .inr (.inl g)))]) S (hM _) gL_runBefore_X8_runBefore rfl pd_X8_runBefore hrm hP hK hD hS hA (va_recv hK.1 (fr_l hP) (ci := 6) (q0 := 0) rfl hrv) hl rfl rfl (Nat.le_of_ble_eq_true rfl) ⟨by rw [Nat.zero_add]; exact hc.1, by rw [Nat.zero_add]; exact hc.2⟩ dL_runBefore_4 (fun r u H locs hp hP hD hS => ?_)
  refine W.widen (k := 1) (n := 8) (by rw [Nat.zero_add]; exact hc.1) (by rw [Nat.zero_add]; exact hc.2) ?_
  refine lv_i2l S.1 S.2.1 dL_runBefore_7 rfl ?_
  refine w_last (g := g) (i := 0) (n := 1) (v := r.toInt64) S ((w1 u).length + 0) hK hP hD hS (ap_at.trans rfl) (by decide) dL_runBefore_8 (fun H locs hP hD hS => ?_)
  rw [ap_set] at hP hD
  have hP : va_P D vwCl (w1 u ++ [(o, .inl (cT.2.1, 1, .inr (.inl (vp_updL g 0 (r.toInt64)))))]) H := hP
  have hD : va_D A (w1 u ++ [(o, .inl (cT.2.1, 1, .inr (.inl (vp_updL g 0 (r.toInt64)))))]) := hD
  refine lv_goto (tgt := 15) S.1 S.2.1 dL_runBefore_9 (by decide) ?_
  refine lv_iconst (v := (nI 0)) S.1 S.2.1 dL_runBefore_15 (by decide) ?_
  exact wr_iret S (r, u) hr rfl hlocks ⟨rfl, hp⟩ hP hD hS dL_runBefore_16
theorem wl_runBefore_0_0 : Cond.classLink RL 21 "java/lang/IndexOutOfBoundsException" ∈ wsL_runBefore := by decide +kernel
set_option maxHeartbeats 4000000 in
set_option maxRecDepth 100000 in
theorem wt_runBefore_I (l : Launch) (D : va_G) (cT : ClassId × ClassId × ClassId) (sz : Nat) {wc : va_W} {fs : List Value} (o c9 : Nat) (g : Nat → Int64) (p0 : Int32) (hM : ∀ sz, vx_Met l yX8_runBefore wsX8_runBefore ({ frames := 6, cells := 1, slots := 6, locals := 160 } : Room) (va_Pc [.ref c9, .int p0] (tr_R D (TY cT) wc sz)) (tr_Q sz) (tr_X "java/lang/IndexOutOfBoundsException" sz) 1 6 (fun q => sz ≤ q)) (hrv : wc[0]? = some (c9, .inr (6, fs))) : Met l yL_runBefore wsL_runBefore ({ frames := 8, cells := 1, slots := 8, locals := 200 } : Room) (va_Pc [.ref c9, .int p0, .ref o] (wx_R D (TY cT) (wc ++ [(o, .inl (cT.2.1, 1, .inr (.inl g)))]) sz)) (wQi (fun (r_ : Int32) (_ : Unit) => r_ = nI 1) D (fun (_ : Unit) => wc ++ [(o, .inl (cT.2.1, 1, .inr (.inl g)))]) (va_A (wc ++ [(o, .inl (cT.2.1, 1, .inr (.inl g)))]) sz)) 1 8 (va_A (wc ++ [(o, .inl (cT.2.1, 1, .inr (.inl g)))]) sz) := by
  refine wx_start (cc := cL_runBefore) (maxL := 4) (ret := (some .int)) (hh := [(0, 9, 12, 21)]) RL ⟨by decide +kernel, rfl⟩ rfl (Nat.le_of_ble_eq_true rfl) ?_
  intro p0_ e0 s0 m0 a0 b0 t0 c0 S hr hlocks htab hsz hP hK hA hD hS hX ls hl
  subst hsz
  generalize va_A (wc ++ [(o, .inl (cT.2.1, 1, .inr (.inl g)))]) s0.heap.size = A at hA hD hS ⊢
  have hl : lv_has ls 4 [(0, .ref c9), (1, .int p0), (2, .ref o)] := hl
  refine lv_aload_n S.1 S.2.1 dL_runBefore_0 rfl (lv_at hl 2 rfl) ?_
  refine lv_iconst (v := (nI 0)) S.1 S.2.1 dL_runBefore_1 (by decide) ?_
  refine lv_aload_n S.1 S.2.1 dL_runBefore_2 rfl (lv_at hl 0 rfl) ?_
  refine lv_iload_n S.1 S.2.1 dL_runBefore_3 rfl (lv_at hl 1 rfl) ?_
  refine fr_callVx (As := [.int p0]) (rest := [.int (nI 0), .ref o]) (wc := wc) (wr := [(o, .inl (cT.2.1, 1, .inr (.inl g)))]) S (hM _) gL_runBefore_X8_runBefore rfl pd_X8_runBefore ⟨rfl, rfl, by decide, by decide⟩ hP hK hX hS hA (va_recv hK.1 (fr_l hP) (ci := 6) (q0 := 0) rfl hrv) hl rfl rfl (Nat.le_of_ble_eq_true rfl) (by decide) dL_runBefore_4 (fun q9 ce H locs hP hS hce hcv hcl => ?_)
  refine vx_catch (own := RL) (name := "java/lang/IndexOutOfBoundsException") S.2.2.2.1 ([] : List ExceptionTableEntry) (⟨0, 9, 12, 21⟩ : ExceptionTableEntry) ([] : List ExceptionTableEntry) (htab.trans rfl) (fun z hz => absurd hz List.not_mem_nil) (by decide) (by decide) (S.2.2.2.2 _ wl_runBefore_0_0) (va_Nw.use rfl (hK.2 (.castable "java/lang/IndexOutOfBoundsException" "java/lang/IndexOutOfBoundsException") (by decide +kernel))) hce hcv hcl ?_
  refine lv_astore_n (lv' := [(3, .ref q9), (0, .ref c9), (1, .int p0), (2, .ref o)]) S.1 S.2.1 dL_runBefore_12 rfl hl (by decide) rfl (fun ls hl => ?_)
  refine lv_iconst (v := (nI 1)) S.1 S.2.1 dL_runBefore_13 (by decide) ?_
  refine W.widen (k := 1) (n := 8) (by decide) (by decide) ?_
  exact wr_iret S () hr rfl hlocks rfl hP hD hS dL_runBefore_14
set_option maxHeartbeats 4000000 in
set_option maxRecDepth 100000 in
theorem wo_isFeasible (l : Launch) (D : va_G) (cT : ClassId × ClassId × ClassId) (sz : Nat) {St : Type} {post : Int32 → St → Prop} {w1 : St → va_W} {wc : va_W} {rm : Room} {mc ms : Nat} {fs : List Value} (o c9 : Nat) (g : Nat → Int64) (p0 : Int32) (hM : ∀ sz, Met l yX8_isFeasible wsX8_isFeasible rm (va_Pc [.ref c9, .int p0] (wr_R D (TY cT) wc sz)) (wQi post D w1 (va_A wc sz)) mc ms (va_A wc sz)) (hrm : rm.cells = mc ∧ rm.slots = ms ∧ rm.frames + 1 ≤ 8 ∧ 8 + (3 + 11) + rm.locals ≤ 200) (hc : mc ≤ 1 ∧ ms ≤ 8) (hrv : wc[0]? = some (c9, .inr (6, fs))) : Met l yL_isFeasible wsL_isFeasible ({ frames := 8, cells := 1, slots := 8, locals := 200 } : Room) (va_Pc [.ref c9, .int p0, .ref o] (wx_R D (TY cT) (wc ++ [(o, .inl (cT.2.1, 1, .inr (.inl g)))]) sz)) (wQi (fun (r_ : Int32) (u_ : Int32 × St) => r_ = nI 0 ∧ post u_.1 u_.2) D (fun (u_ : Int32 × St) => w1 u_.2 ++ [(o, .inl (cT.2.1, 1, .inr (.inl (vp_updL g 0 (bl u_.1)))))]) (va_A (wc ++ [(o, .inl (cT.2.1, 1, .inr (.inl g)))]) sz)) 1 8 (va_A (wc ++ [(o, .inl (cT.2.1, 1, .inr (.inl g)))]) sz) := by
  refine wx_start (cc := cL_isFeasible) (maxL := 4) (ret := (some .int)) (hh := [(0, 16, 19, 21)]) RL ⟨by decide +kernel, rfl⟩ rfl (Nat.le_of_ble_eq_true rfl) ?_
  intro p0_ e0 s0 m0 a0 b0 t0 c0 S hr hlocks htab hsz hP hK hA hD hS hX ls hl
  subst hsz
  generalize va_A (wc ++ [(o, .inl (cT.2.1, 1, .inr (.inl g)))]) s0.heap.size = A at hA hD hS ⊢
  have hl : lv_has ls 4 [(0, .ref c9), (1, .int p0), (2, .ref o)] := hl
  refine lv_aload_n S.1 S.2.1 dL_isFeasible_0 rfl (lv_at hl 2 rfl) ?_
  refine lv_iconst (v := (nI 0)) S.1 S.2.1 dL_isFeasible_1 (by decide) ?_
  refine lv_aload_n S.1 S.2.1 dL_isFeasible_2 rfl (lv_at hl 0 rfl) ?_
  refine lv_iload_n S.1 S.2.1 dL_isFeasible_3 rfl (lv_at hl 1 rfl) ?_
  refine fr_callVi (As := [.int p0]) (rest := [.int (nI 0), .ref o]) (wc := wc) (wr := [(o, .inl (cT.2.1, 1, .inr (.inl g)))]) S (hM _) gL_isFeasible_X8_isFeasible rfl pd_X8_isFeasible hrm hP hK hD hS hA (va_recv hK.1 (fr_l hP) (ci := 6) (q0 := 0) rfl hrv) hl rfl rfl (Nat.le_of_ble_eq_true rfl) ⟨by rw [Nat.zero_add]; exact hc.1, by rw [Nat.zero_add]; exact hc.2⟩ dL_isFeasible_4 (fun r u H locs hp hP hD hS => ?_)
  refine W.widen (k := 1) (n := 8) (by rw [Nat.zero_add]; exact hc.1) (by rw [Nat.zero_add]; exact hc.2) ?_
  refine lv_if_eq (tgt := 14) S.1 S.2.1 dL_isFeasible_7 (by decide) (fun cz => ?_) (fun cz => ?_)
  · refine lv_lconst (v := 0) S.1 S.2.1 dL_isFeasible_14 (by decide) ?_
    refine n_topl (show (0 : Int64) = bl r from (if_pos cz).symm) ?_
    refine w_last (g := g) (i := 0) (n := 1) (v := bl r) S ((w1 u).length + 0) hK hP hD hS (ap_at.trans rfl) (by decide) dL_isFeasible_15 (fun H locs hP hD hS => ?_)
    rw [ap_set] at hP hD
    have hP : va_P D vwCl (w1 u ++ [(o, .inl (cT.2.1, 1, .inr (.inl (vp_updL g 0 (bl r)))))]) H := hP
    have hD : va_D A (w1 u ++ [(o, .inl (cT.2.1, 1, .inr (.inl (vp_updL g 0 (bl r)))))]) := hD
    refine lv_goto (tgt := 22) S.1 S.2.1 dL_isFeasible_16 (by decide) ?_
    refine lv_iconst (v := (nI 0)) S.1 S.2.1 dL_isFeasible_22 (by decide) ?_
    exact wr_iret S (r, u) hr rfl hlocks ⟨rfl, hp⟩ hP hD hS dL_isFeasible_23
  · refine lv_lconst (v := 1) S.1 S.2.1 dL_isFeasible_10 (by decide) ?_
    refine lv_goto (tgt := 15) S.1 S.2.1 dL_isFeasible_11 (by decide) ?_
    refine n_topl (show (1 : Int64) = bl r from (if_neg cz).symm) ?_
    refine w_last (g := g) (i := 0) (n := 1) (v := bl r) S ((w1 u).length + 0) hK hP hD hS (ap_at.trans rfl) (by decide) dL_isFeasible_15 (fun H locs hP hD hS => ?_)
    rw [ap_set] at hP hD
    have hP : va_P D vwCl (w1 u ++ [(o, .inl (cT.2.1, 1, .inr (.inl (vp_updL g 0 (bl r)))))]) H := hP
    have hD : va_D A (w1 u ++ [(o, .inl (cT.2.1, 1, .inr (.inl (vp_updL g 0 (bl r)))))]) := hD
    refine lv_goto (tgt := 22) S.1 S.2.1 dL_isFeasible_16 (by decide) ?_
    refine lv_iconst (v := (nI 0)) S.1 S.2.1 dL_isFeasible_22 (by decide) ?_
    exact wr_iret S (r, u) hr rfl hlocks ⟨rfl, hp⟩ hP hD hS dL_isFeasible_23
theorem wl_isFeasible_0_0 : Cond.classLink RL 21 "java/lang/IndexOutOfBoundsException" ∈ wsL_isFeasible := by decide +kernel
set_option maxHeartbeats 4000000 in
set_option maxRecDepth 100000 in
theorem wt_isFeasible_I (l : Launch) (D : va_G) (cT : ClassId × ClassId × ClassId) (sz : Nat) {wc : va_W} {fs : List Value} (o c9 : Nat) (g : Nat → Int64) (p0 : Int32) (hM : ∀ sz, vx_Met l yX8_isFeasible wsX8_isFeasible ({ frames := 6, cells := 1, slots := 6, locals := 160 } : Room) (va_Pc [.ref c9, .int p0] (tr_R D (TY cT) wc sz)) (tr_Q sz) (tr_X "java/lang/IndexOutOfBoundsException" sz) 1 6 (fun q => sz ≤ q)) (hrv : wc[0]? = some (c9, .inr (6, fs))) : Met l yL_isFeasible wsL_isFeasible ({ frames := 8, cells := 1, slots := 8, locals := 200 } : Room) (va_Pc [.ref c9, .int p0, .ref o] (wx_R D (TY cT) (wc ++ [(o, .inl (cT.2.1, 1, .inr (.inl g)))]) sz)) (wQi (fun (r_ : Int32) (_ : Unit) => r_ = nI 1) D (fun (_ : Unit) => wc ++ [(o, .inl (cT.2.1, 1, .inr (.inl g)))]) (va_A (wc ++ [(o, .inl (cT.2.1, 1, .inr (.inl g)))]) sz)) 1 8 (va_A (wc ++ [(o, .inl (cT.2.1, 1, .inr (.inl g)))]) sz) := by
  refine wx_start (cc := cL_isFeasible) (maxL := 4) (ret := (some .int)) (hh := [(0, 16, 19, 21)]) RL ⟨by decide +kernel, rfl⟩ rfl (Nat.le_of_ble_eq_true rfl) ?_
  intro p0_ e0 s0 m0 a0 b0 t0 c0 S hr hlocks htab hsz hP hK hA hD hS hX ls hl
  subst hsz
  generalize va_A (wc ++ [(o, .inl (cT.2.1, 1, .inr (.inl g)))]) s0.heap.size = A at hA hD hS ⊢
  have hl : lv_has ls 4 [(0, .ref c9), (1, .int p0), (2, .ref o)] := hl
  refine lv_aload_n S.1 S.2.1 dL_isFeasible_0 rfl (lv_at hl 2 rfl) ?_
  refine lv_iconst (v := (nI 0)) S.1 S.2.1 dL_isFeasible_1 (by decide) ?_
  refine lv_aload_n S.1 S.2.1 dL_isFeasible_2 rfl (lv_at hl 0 rfl) ?_
  refine lv_iload_n S.1 S.2.1 dL_isFeasible_3 rfl (lv_at hl 1 rfl) ?_
  refine fr_callVx (As := [.int p0]) (rest := [.int (nI 0), .ref o]) (wc := wc) (wr := [(o, .inl (cT.2.1, 1, .inr (.inl g)))]) S (hM _) gL_isFeasible_X8_isFeasible rfl pd_X8_isFeasible ⟨rfl, rfl, by decide, by decide⟩ hP hK hX hS hA (va_recv hK.1 (fr_l hP) (ci := 6) (q0 := 0) rfl hrv) hl rfl rfl (Nat.le_of_ble_eq_true rfl) (by decide) dL_isFeasible_4 (fun q9 ce H locs hP hS hce hcv hcl => ?_)
  refine vx_catch (own := RL) (name := "java/lang/IndexOutOfBoundsException") S.2.2.2.1 ([] : List ExceptionTableEntry) (⟨0, 16, 19, 21⟩ : ExceptionTableEntry) ([] : List ExceptionTableEntry) (htab.trans rfl) (fun z hz => absurd hz List.not_mem_nil) (by decide) (by decide) (S.2.2.2.2 _ wl_isFeasible_0_0) (va_Nw.use rfl (hK.2 (.castable "java/lang/IndexOutOfBoundsException" "java/lang/IndexOutOfBoundsException") (by decide +kernel))) hce hcv hcl ?_
  refine lv_astore_n (lv' := [(3, .ref q9), (0, .ref c9), (1, .int p0), (2, .ref o)]) S.1 S.2.1 dL_isFeasible_19 rfl hl (by decide) rfl (fun ls hl => ?_)
  refine lv_iconst (v := (nI 1)) S.1 S.2.1 dL_isFeasible_20 (by decide) ?_
  refine W.widen (k := 1) (n := 8) (by decide) (by decide) ?_
  exact wr_iret S () hr rfl hlocks rfl hP hD hS dL_isFeasible_21
set_option maxHeartbeats 4000000 in
set_option maxRecDepth 100000 in
theorem wo_weeks (l : Launch) (D : va_G) (cT : ClassId × ClassId × ClassId) (sz : Nat) {St : Type} {post : Int32 → St → Prop} {w1 : St → va_W} {wc : va_W} {rm : Room} {mc ms : Nat} {fs : List Value} (o c9 : Nat) (g : Nat → Int64) (p0 : Int32) (hM : ∀ sz, Met l yX8_weeks wsX8_weeks rm (va_Pc [.ref c9, .int p0] (wr_R D (TY cT) wc sz)) (wQi post D w1 (va_A wc sz)) mc ms (va_A wc sz)) (hrm : rm.cells = mc ∧ rm.slots = ms ∧ rm.frames + 1 ≤ 8 ∧ 8 + (5 + 11) + rm.locals ≤ 200) (hc : mc ≤ 1 ∧ ms ≤ 8) (hrv : wc[0]? = some (c9, .inr (6, fs))) : Met l yL_weeks wsL_weeks ({ frames := 8, cells := 1, slots := 8, locals := 200 } : Room) (va_Pc [.ref c9, .int p0, .ref o] (wx_R D (TY cT) (wc ++ [(o, .inl (cT.2.1, 1, .inr (.inl g)))]) sz)) (wQi (fun (r_ : Int32) (u_ : Int32 × St) => r_ = nI 0 ∧ post u_.1 u_.2) D (fun (u_ : Int32 × St) => w1 u_.2 ++ [(o, .inl (cT.2.1, 1, .inr (.inl (vp_updL g 0 (u_.1.toInt64)))))]) (va_A (wc ++ [(o, .inl (cT.2.1, 1, .inr (.inl g)))]) sz)) 1 8 (va_A (wc ++ [(o, .inl (cT.2.1, 1, .inr (.inl g)))]) sz) := by
  refine wx_start (cc := cL_weeks) (maxL := 4) (ret := (some .int)) (hh := [(0, 9, 12, 21)]) RL ⟨by decide +kernel, rfl⟩ rfl (Nat.le_of_ble_eq_true rfl) ?_
  intro p0_ e0 s0 m0 a0 b0 t0 c0 S hr hlocks htab hsz hP hK hA hD hS hX ls hl
  subst hsz
  generalize va_A (wc ++ [(o, .inl (cT.2.1, 1, .inr (.inl g)))]) s0.heap.size = A at hA hD hS ⊢
  have hl : lv_has ls 4 [(0, .ref c9), (1, .int p0), (2, .ref o)] := hl
  refine lv_aload_n S.1 S.2.1 dL_weeks_0 rfl (lv_at hl 2 rfl) ?_
  refine lv_iconst (v := (nI 0)) S.1 S.2.1 dL_weeks_1 (by decide) ?_
  refine lv_aload_n S.1 S.2.1 dL_weeks_2 rfl (lv_at hl 0 rfl) ?_
  refine lv_iload_n S.1 S.2.1 dL_weeks_3 rfl (lv_at hl 1 rfl) ?_
  refine fr_callVi (As := [.int p0]) (rest := [.int (nI 0), .ref o]) (wc := wc) (wr := [(o, .inl (cT.2.1, 1, .inr (.inl g)))]) S (hM _) gL_weeks_X8_weeks rfl pd_X8_weeks hrm hP hK hD hS hA (va_recv hK.1 (fr_l hP) (ci := 6) (q0 := 0) rfl hrv) hl rfl rfl (Nat.le_of_ble_eq_true rfl) ⟨by rw [Nat.zero_add]; exact hc.1, by rw [Nat.zero_add]; exact hc.2⟩ dL_weeks_4 (fun r u H locs hp hP hD hS => ?_)
  refine W.widen (k := 1) (n := 8) (by rw [Nat.zero_add]; exact hc.1) (by rw [Nat.zero_add]; exact hc.2) ?_
  refine lv_i2l S.1 S.2.1 dL_weeks_7 rfl ?_
  refine w_last (g := g) (i := 0) (n := 1) (v := r.toInt64) S ((w1 u).length + 0) hK hP hD hS (ap_at.trans rfl) (by decide) dL_weeks_8 (fun H locs hP hD hS => ?_)
  rw [ap_set] at hP hD
  have hP : va_P D vwCl (w1 u ++ [(o, .inl (cT.2.1, 1, .inr (.inl (vp_updL g 0 (r.toInt64)))))]) H := hP
  have hD : va_D A (w1 u ++ [(o, .inl (cT.2.1, 1, .inr (.inl (vp_updL g 0 (r.toInt64)))))]) := hD
  refine lv_goto (tgt := 15) S.1 S.2.1 dL_weeks_9 (by decide) ?_
  refine lv_iconst (v := (nI 0)) S.1 S.2.1 dL_weeks_15 (by decide) ?_
  exact wr_iret S (r, u) hr rfl hlocks ⟨rfl, hp⟩ hP hD hS dL_weeks_16
theorem wl_weeks_0_0 : Cond.classLink RL 21 "java/lang/IndexOutOfBoundsException" ∈ wsL_weeks := by decide +kernel
set_option maxHeartbeats 4000000 in
set_option maxRecDepth 100000 in
theorem wt_weeks_I (l : Launch) (D : va_G) (cT : ClassId × ClassId × ClassId) (sz : Nat) {wc : va_W} {fs : List Value} (o c9 : Nat) (g : Nat → Int64) (p0 : Int32) (hM : ∀ sz, vx_Met l yX8_weeks wsX8_weeks ({ frames := 6, cells := 1, slots := 6, locals := 160 } : Room) (va_Pc [.ref c9, .int p0] (tr_R D (TY cT) wc sz)) (tr_Q sz) (tr_X "java/lang/IndexOutOfBoundsException" sz) 1 6 (fun q => sz ≤ q)) (hrv : wc[0]? = some (c9, .inr (6, fs))) : Met l yL_weeks wsL_weeks ({ frames := 8, cells := 1, slots := 8, locals := 200 } : Room) (va_Pc [.ref c9, .int p0, .ref o] (wx_R D (TY cT) (wc ++ [(o, .inl (cT.2.1, 1, .inr (.inl g)))]) sz)) (wQi (fun (r_ : Int32) (_ : Unit) => r_ = nI 1) D (fun (_ : Unit) => wc ++ [(o, .inl (cT.2.1, 1, .inr (.inl g)))]) (va_A (wc ++ [(o, .inl (cT.2.1, 1, .inr (.inl g)))]) sz)) 1 8 (va_A (wc ++ [(o, .inl (cT.2.1, 1, .inr (.inl g)))]) sz) := by
  refine wx_start (cc := cL_weeks) (maxL := 4) (ret := (some .int)) (hh := [(0, 9, 12, 21)]) RL ⟨by decide +kernel, rfl⟩ rfl (Nat.le_of_ble_eq_true rfl) ?_
  intro p0_ e0 s0 m0 a0 b0 t0 c0 S hr hlocks htab hsz hP hK hA hD hS hX ls hl
  subst hsz
  generalize va_A (wc ++ [(o, .inl (cT.2.1, 1, .inr (.inl g)))]) s0.heap.size = A at hA hD hS ⊢
  have hl : lv_has ls 4 [(0, .ref c9), (1, .int p0), (2, .ref o)] := hl
  refine lv_aload_n S.1 S.2.1 dL_weeks_0 rfl (lv_at hl 2 rfl) ?_
  refine lv_iconst (v := (nI 0)) S.1 S.2.1 dL_weeks_1 (by decide) ?_
  refine lv_aload_n S.1 S.2.1 dL_weeks_2 rfl (lv_at hl 0 rfl) ?_
  refine lv_iload_n S.1 S.2.1 dL_weeks_3 rfl (lv_at hl 1 rfl) ?_
  refine fr_callVx (As := [.int p0]) (rest := [.int (nI 0), .ref o]) (wc := wc) (wr := [(o, .inl (cT.2.1, 1, .inr (.inl g)))]) S (hM _) gL_weeks_X8_weeks rfl pd_X8_weeks ⟨rfl, rfl, by decide, by decide⟩ hP hK hX hS hA (va_recv hK.1 (fr_l hP) (ci := 6) (q0 := 0) rfl hrv) hl rfl rfl (Nat.le_of_ble_eq_true rfl) (by decide) dL_weeks_4 (fun q9 ce H locs hP hS hce hcv hcl => ?_)
  refine vx_catch (own := RL) (name := "java/lang/IndexOutOfBoundsException") S.2.2.2.1 ([] : List ExceptionTableEntry) (⟨0, 9, 12, 21⟩ : ExceptionTableEntry) ([] : List ExceptionTableEntry) (htab.trans rfl) (fun z hz => absurd hz List.not_mem_nil) (by decide) (by decide) (S.2.2.2.2 _ wl_weeks_0_0) (va_Nw.use rfl (hK.2 (.castable "java/lang/IndexOutOfBoundsException" "java/lang/IndexOutOfBoundsException") (by decide +kernel))) hce hcv hcl ?_
  refine lv_astore_n (lv' := [(3, .ref q9), (0, .ref c9), (1, .int p0), (2, .ref o)]) S.1 S.2.1 dL_weeks_12 rfl hl (by decide) rfl (fun ls hl => ?_)
  refine lv_iconst (v := (nI 1)) S.1 S.2.1 dL_weeks_13 (by decide) ?_
  refine W.widen (k := 1) (n := 8) (by decide) (by decide) ?_
  exact wr_iret S () hr rfl hlocks rfl hP hD hS dL_weeks_14
set_option maxHeartbeats 4000000 in
set_option maxRecDepth 100000 in
theorem wo_weeksByDays (l : Launch) (D : va_G) (cT : ClassId × ClassId × ClassId) (sz : Nat) {St : Type} {post : Int32 → St → Prop} {w1 : St → va_W} {wc : va_W} {rm : Room} {mc ms : Nat} {fs : List Value} (o c9 : Nat) (g : Nat → Int64) (p0 : Int32) (hM : ∀ sz, Met l yX8_weeksByDays wsX8_weeksByDays rm (va_Pc [.ref c9, .int p0] (wr_R D (TY cT) wc sz)) (wQi post D w1 (va_A wc sz)) mc ms (va_A wc sz)) (hrm : rm.cells = mc ∧ rm.slots = ms ∧ rm.frames + 1 ≤ 8 ∧ 8 + (3 + 11) + rm.locals ≤ 200) (hc : mc ≤ 1 ∧ ms ≤ 8) (hrv : wc[0]? = some (c9, .inr (6, fs))) : Met l yL_weeksByDays wsL_weeksByDays ({ frames := 8, cells := 1, slots := 8, locals := 200 } : Room) (va_Pc [.ref c9, .int p0, .ref o] (wx_R D (TY cT) (wc ++ [(o, .inl (cT.2.1, 1, .inr (.inl g)))]) sz)) (wQi (fun (r_ : Int32) (u_ : Int32 × St) => r_ = nI 0 ∧ post u_.1 u_.2) D (fun (u_ : Int32 × St) => w1 u_.2 ++ [(o, .inl (cT.2.1, 1, .inr (.inl (vp_updL g 0 (u_.1.toInt64)))))]) (va_A (wc ++ [(o, .inl (cT.2.1, 1, .inr (.inl g)))]) sz)) 1 8 (va_A (wc ++ [(o, .inl (cT.2.1, 1, .inr (.inl g)))]) sz) := by
  refine wx_start (cc := cL_weeksByDays) (maxL := 4) (ret := (some .int)) (hh := [(0, 9, 12, 21)]) RL ⟨by decide +kernel, rfl⟩ rfl (Nat.le_of_ble_eq_true rfl) ?_
  intro p0_ e0 s0 m0 a0 b0 t0 c0 S hr hlocks htab hsz hP hK hA hD hS hX ls hl
  subst hsz
  generalize va_A (wc ++ [(o, .inl (cT.2.1, 1, .inr (.inl g)))]) s0.heap.size = A at hA hD hS ⊢
  have hl : lv_has ls 4 [(0, .ref c9), (1, .int p0), (2, .ref o)] := hl
  refine lv_aload_n S.1 S.2.1 dL_weeksByDays_0 rfl (lv_at hl 2 rfl) ?_
  refine lv_iconst (v := (nI 0)) S.1 S.2.1 dL_weeksByDays_1 (by decide) ?_
  refine lv_aload_n S.1 S.2.1 dL_weeksByDays_2 rfl (lv_at hl 0 rfl) ?_
  refine lv_iload_n S.1 S.2.1 dL_weeksByDays_3 rfl (lv_at hl 1 rfl) ?_
  refine fr_callVi (As := [.int p0]) (rest := [.int (nI 0), .ref o]) (wc := wc) (wr := [(o, .inl (cT.2.1, 1, .inr (.inl g)))]) S (hM _) gL_weeksByDays_X8_weeksByDays rfl pd_X8_weeksByDays hrm hP hK hD hS hA (va_recv hK.1 (fr_l hP) (ci := 6) (q0 := 0) rfl hrv) hl rfl rfl (Nat.le_of_ble_eq_true rfl) ⟨by rw [Nat.zero_add]; exact hc.1, by rw [Nat.zero_add]; exact hc.2⟩ dL_weeksByDays_4 (fun r u H locs hp hP hD hS => ?_)
  refine W.widen (k := 1) (n := 8) (by rw [Nat.zero_add]; exact hc.1) (by rw [Nat.zero_add]; exact hc.2) ?_
  refine lv_i2l S.1 S.2.1 dL_weeksByDays_7 rfl ?_
  refine w_last (g := g) (i := 0) (n := 1) (v := r.toInt64) S ((w1 u).length + 0) hK hP hD hS (ap_at.trans rfl) (by decide) dL_weeksByDays_8 (fun H locs hP hD hS => ?_)
  rw [ap_set] at hP hD
  have hP : va_P D vwCl (w1 u ++ [(o, .inl (cT.2.1, 1, .inr (.inl (vp_updL g 0 (r.toInt64)))))]) H := hP
  have hD : va_D A (w1 u ++ [(o, .inl (cT.2.1, 1, .inr (.inl (vp_updL g 0 (r.toInt64)))))]) := hD
  refine lv_goto (tgt := 15) S.1 S.2.1 dL_weeksByDays_9 (by decide) ?_
  refine lv_iconst (v := (nI 0)) S.1 S.2.1 dL_weeksByDays_15 (by decide) ?_
  exact wr_iret S (r, u) hr rfl hlocks ⟨rfl, hp⟩ hP hD hS dL_weeksByDays_16
theorem wl_weeksByDays_0_0 : Cond.classLink RL 21 "java/lang/IndexOutOfBoundsException" ∈ wsL_weeksByDays := by decide +kernel
set_option maxHeartbeats 4000000 in
set_option maxRecDepth 100000 in
theorem wt_weeksByDays_I (l : Launch) (D : va_G) (cT : ClassId × ClassId × ClassId) (sz : Nat) {wc : va_W} {fs : List Value} (o c9 : Nat) (g : Nat → Int64) (p0 : Int32) (hM : ∀ sz, vx_Met l yX8_weeksByDays wsX8_weeksByDays ({ frames := 6, cells := 1, slots := 6, locals := 160 } : Room) (va_Pc [.ref c9, .int p0] (tr_R D (TY cT) wc sz)) (tr_Q sz) (tr_X "java/lang/IndexOutOfBoundsException" sz) 1 6 (fun q => sz ≤ q)) (hrv : wc[0]? = some (c9, .inr (6, fs))) : Met l yL_weeksByDays wsL_weeksByDays ({ frames := 8, cells := 1, slots := 8, locals := 200 } : Room) (va_Pc [.ref c9, .int p0, .ref o] (wx_R D (TY cT) (wc ++ [(o, .inl (cT.2.1, 1, .inr (.inl g)))]) sz)) (wQi (fun (r_ : Int32) (_ : Unit) => r_ = nI 1) D (fun (_ : Unit) => wc ++ [(o, .inl (cT.2.1, 1, .inr (.inl g)))]) (va_A (wc ++ [(o, .inl (cT.2.1, 1, .inr (.inl g)))]) sz)) 1 8 (va_A (wc ++ [(o, .inl (cT.2.1, 1, .inr (.inl g)))]) sz) := by
  refine wx_start (cc := cL_weeksByDays) (maxL := 4) (ret := (some .int)) (hh := [(0, 9, 12, 21)]) RL ⟨by decide +kernel, rfl⟩ rfl (Nat.le_of_ble_eq_true rfl) ?_
  intro p0_ e0 s0 m0 a0 b0 t0 c0 S hr hlocks htab hsz hP hK hA hD hS hX ls hl
  subst hsz
  generalize va_A (wc ++ [(o, .inl (cT.2.1, 1, .inr (.inl g)))]) s0.heap.size = A at hA hD hS ⊢
  have hl : lv_has ls 4 [(0, .ref c9), (1, .int p0), (2, .ref o)] := hl
  refine lv_aload_n S.1 S.2.1 dL_weeksByDays_0 rfl (lv_at hl 2 rfl) ?_
  refine lv_iconst (v := (nI 0)) S.1 S.2.1 dL_weeksByDays_1 (by decide) ?_
  refine lv_aload_n S.1 S.2.1 dL_weeksByDays_2 rfl (lv_at hl 0 rfl) ?_
  refine lv_iload_n S.1 S.2.1 dL_weeksByDays_3 rfl (lv_at hl 1 rfl) ?_
  refine fr_callVx (As := [.int p0]) (rest := [.int (nI 0), .ref o]) (wc := wc) (wr := [(o, .inl (cT.2.1, 1, .inr (.inl g)))]) S (hM _) gL_weeksByDays_X8_weeksByDays rfl pd_X8_weeksByDays ⟨rfl, rfl, by decide, by decide⟩ hP hK hX hS hA (va_recv hK.1 (fr_l hP) (ci := 6) (q0 := 0) rfl hrv) hl rfl rfl (Nat.le_of_ble_eq_true rfl) (by decide) dL_weeksByDays_4 (fun q9 ce H locs hP hS hce hcv hcl => ?_)
  refine vx_catch (own := RL) (name := "java/lang/IndexOutOfBoundsException") S.2.2.2.1 ([] : List ExceptionTableEntry) (⟨0, 9, 12, 21⟩ : ExceptionTableEntry) ([] : List ExceptionTableEntry) (htab.trans rfl) (fun z hz => absurd hz List.not_mem_nil) (by decide) (by decide) (S.2.2.2.2 _ wl_weeksByDays_0_0) (va_Nw.use rfl (hK.2 (.castable "java/lang/IndexOutOfBoundsException" "java/lang/IndexOutOfBoundsException") (by decide +kernel))) hce hcv hcl ?_
  refine lv_astore_n (lv' := [(3, .ref q9), (0, .ref c9), (1, .int p0), (2, .ref o)]) S.1 S.2.1 dL_weeksByDays_12 rfl hl (by decide) rfl (fun ls hl => ?_)
  refine lv_iconst (v := (nI 1)) S.1 S.2.1 dL_weeksByDays_13 (by decide) ?_
  refine W.widen (k := 1) (n := 8) (by decide) (by decide) ?_
  exact wr_iret S () hr rfl hlocks rfl hP hD hS dL_weeksByDays_14
set_option maxHeartbeats 4000000 in
set_option maxRecDepth 100000 in
theorem wo_couldTake (l : Launch) (D : va_G) (cT : ClassId × ClassId × ClassId) (sz : Nat) {St : Type} {post : Int32 → St → Prop} {w1 : St → va_W} {wc : va_W} {rm : Room} {mc ms : Nat} {fs : List Value} (o c9 : Nat) (g : Nat → Int64) (p0 p1 : Int32) (hM : ∀ sz, Met l yX8_couldTake wsX8_couldTake rm (va_Pc [.ref c9, .int p0, .int p1] (wr_R D (TY cT) wc sz)) (wQi post D w1 (va_A wc sz)) mc ms (va_A wc sz)) (hrm : rm.cells = mc ∧ rm.slots = ms ∧ rm.frames + 1 ≤ 8 ∧ 8 + (6 + 11) + rm.locals ≤ 200) (hc : mc ≤ 1 ∧ ms ≤ 8) (hrv : wc[0]? = some (c9, .inr (6, fs))) : Met l yL_couldTake wsL_couldTake ({ frames := 8, cells := 1, slots := 8, locals := 200 } : Room) (va_Pc [.ref c9, .int p0, .int p1, .ref o] (wx_R D (TY cT) (wc ++ [(o, .inl (cT.2.1, 1, .inr (.inl g)))]) sz)) (wQi (fun (r_ : Int32) (u_ : Int32 × St) => r_ = nI 0 ∧ post u_.1 u_.2) D (fun (u_ : Int32 × St) => w1 u_.2 ++ [(o, .inl (cT.2.1, 1, .inr (.inl (vp_updL g 0 (u_.1.toInt64)))))]) (va_A (wc ++ [(o, .inl (cT.2.1, 1, .inr (.inl g)))]) sz)) 1 8 (va_A (wc ++ [(o, .inl (cT.2.1, 1, .inr (.inl g)))]) sz) := by
  refine wx_start (cc := cL_couldTake) (maxL := 5) (ret := (some .int)) (hh := [(0, 10, 13, 21)]) RL ⟨by decide +kernel, rfl⟩ rfl (Nat.le_of_ble_eq_true rfl) ?_
  intro p0_ e0 s0 m0 a0 b0 t0 c0 S hr hlocks htab hsz hP hK hA hD hS hX ls hl
  subst hsz
  generalize va_A (wc ++ [(o, .inl (cT.2.1, 1, .inr (.inl g)))]) s0.heap.size = A at hA hD hS ⊢
  have hl : lv_has ls 5 [(0, .ref c9), (1, .int p0), (2, .int p1), (3, .ref o)] := hl
  refine lv_aload_n S.1 S.2.1 dL_couldTake_0 rfl (lv_at hl 3 rfl) ?_
  refine lv_iconst (v := (nI 0)) S.1 S.2.1 dL_couldTake_1 (by decide) ?_
  refine lv_aload_n S.1 S.2.1 dL_couldTake_2 rfl (lv_at hl 0 rfl) ?_
  refine lv_iload_n S.1 S.2.1 dL_couldTake_3 rfl (lv_at hl 1 rfl) ?_
  refine lv_iload_n S.1 S.2.1 dL_couldTake_4 rfl (lv_at hl 2 rfl) ?_
  refine fr_callVi (As := [.int p0, .int p1]) (rest := [.int (nI 0), .ref o]) (wc := wc) (wr := [(o, .inl (cT.2.1, 1, .inr (.inl g)))]) S (hM _) gL_couldTake_X8_couldTake rfl pd_X8_couldTake hrm hP hK hD hS hA (va_recv hK.1 (fr_l hP) (ci := 6) (q0 := 0) rfl hrv) hl rfl rfl (Nat.le_of_ble_eq_true rfl) ⟨by rw [Nat.zero_add]; exact hc.1, by rw [Nat.zero_add]; exact hc.2⟩ dL_couldTake_5 (fun r u H locs hp hP hD hS => ?_)
  refine W.widen (k := 1) (n := 8) (by rw [Nat.zero_add]; exact hc.1) (by rw [Nat.zero_add]; exact hc.2) ?_
  refine lv_i2l S.1 S.2.1 dL_couldTake_8 rfl ?_
  refine w_last (g := g) (i := 0) (n := 1) (v := r.toInt64) S ((w1 u).length + 0) hK hP hD hS (ap_at.trans rfl) (by decide) dL_couldTake_9 (fun H locs hP hD hS => ?_)
  rw [ap_set] at hP hD
  have hP : va_P D vwCl (w1 u ++ [(o, .inl (cT.2.1, 1, .inr (.inl (vp_updL g 0 (r.toInt64)))))]) H := hP
  have hD : va_D A (w1 u ++ [(o, .inl (cT.2.1, 1, .inr (.inl (vp_updL g 0 (r.toInt64)))))]) := hD
  refine lv_goto (tgt := 17) S.1 S.2.1 dL_couldTake_10 (by decide) ?_
  refine lv_iconst (v := (nI 0)) S.1 S.2.1 dL_couldTake_17 (by decide) ?_
  exact wr_iret S (r, u) hr rfl hlocks ⟨rfl, hp⟩ hP hD hS dL_couldTake_18
theorem wl_couldTake_0_0 : Cond.classLink RL 21 "java/lang/IndexOutOfBoundsException" ∈ wsL_couldTake := by decide +kernel
set_option maxHeartbeats 4000000 in
set_option maxRecDepth 100000 in
theorem wt_couldTake_I (l : Launch) (D : va_G) (cT : ClassId × ClassId × ClassId) (sz : Nat) {wc : va_W} {fs : List Value} (o c9 : Nat) (g : Nat → Int64) (p0 p1 : Int32) (hM : ∀ sz, vx_Met l yX8_couldTake wsX8_couldTake ({ frames := 6, cells := 1, slots := 6, locals := 160 } : Room) (va_Pc [.ref c9, .int p0, .int p1] (tr_R D (TY cT) wc sz)) (tr_Q sz) (tr_X "java/lang/IndexOutOfBoundsException" sz) 1 6 (fun q => sz ≤ q)) (hrv : wc[0]? = some (c9, .inr (6, fs))) : Met l yL_couldTake wsL_couldTake ({ frames := 8, cells := 1, slots := 8, locals := 200 } : Room) (va_Pc [.ref c9, .int p0, .int p1, .ref o] (wx_R D (TY cT) (wc ++ [(o, .inl (cT.2.1, 1, .inr (.inl g)))]) sz)) (wQi (fun (r_ : Int32) (_ : Unit) => r_ = nI 1) D (fun (_ : Unit) => wc ++ [(o, .inl (cT.2.1, 1, .inr (.inl g)))]) (va_A (wc ++ [(o, .inl (cT.2.1, 1, .inr (.inl g)))]) sz)) 1 8 (va_A (wc ++ [(o, .inl (cT.2.1, 1, .inr (.inl g)))]) sz) := by
  refine wx_start (cc := cL_couldTake) (maxL := 5) (ret := (some .int)) (hh := [(0, 10, 13, 21)]) RL ⟨by decide +kernel, rfl⟩ rfl (Nat.le_of_ble_eq_true rfl) ?_
  intro p0_ e0 s0 m0 a0 b0 t0 c0 S hr hlocks htab hsz hP hK hA hD hS hX ls hl
  subst hsz
  generalize va_A (wc ++ [(o, .inl (cT.2.1, 1, .inr (.inl g)))]) s0.heap.size = A at hA hD hS ⊢
  have hl : lv_has ls 5 [(0, .ref c9), (1, .int p0), (2, .int p1), (3, .ref o)] := hl
  refine lv_aload_n S.1 S.2.1 dL_couldTake_0 rfl (lv_at hl 3 rfl) ?_
  refine lv_iconst (v := (nI 0)) S.1 S.2.1 dL_couldTake_1 (by decide) ?_
  refine lv_aload_n S.1 S.2.1 dL_couldTake_2 rfl (lv_at hl 0 rfl) ?_
  refine lv_iload_n S.1 S.2.1 dL_couldTake_3 rfl (lv_at hl 1 rfl) ?_
  refine lv_iload_n S.1 S.2.1 dL_couldTake_4 rfl (lv_at hl 2 rfl) ?_
  refine fr_callVx (As := [.int p0, .int p1]) (rest := [.int (nI 0), .ref o]) (wc := wc) (wr := [(o, .inl (cT.2.1, 1, .inr (.inl g)))]) S (hM _) gL_couldTake_X8_couldTake rfl pd_X8_couldTake ⟨rfl, rfl, by decide, by decide⟩ hP hK hX hS hA (va_recv hK.1 (fr_l hP) (ci := 6) (q0 := 0) rfl hrv) hl rfl rfl (Nat.le_of_ble_eq_true rfl) (by decide) dL_couldTake_5 (fun q9 ce H locs hP hS hce hcv hcl => ?_)
  refine vx_catch (own := RL) (name := "java/lang/IndexOutOfBoundsException") S.2.2.2.1 ([] : List ExceptionTableEntry) (⟨0, 10, 13, 21⟩ : ExceptionTableEntry) ([] : List ExceptionTableEntry) (htab.trans rfl) (fun z hz => absurd hz List.not_mem_nil) (by decide) (by decide) (S.2.2.2.2 _ wl_couldTake_0_0) (va_Nw.use rfl (hK.2 (.castable "java/lang/IndexOutOfBoundsException" "java/lang/IndexOutOfBoundsException") (by decide +kernel))) hce hcv hcl ?_
  refine lv_astore (lv' := [(4, .ref q9), (0, .ref c9), (1, .int p0), (2, .int p1), (3, .ref o)]) S.1 S.2.1 dL_couldTake_13 hl (by decide) rfl (fun ls hl => ?_)
  refine lv_iconst (v := (nI 1)) S.1 S.2.1 dL_couldTake_15 (by decide) ?_
  refine W.widen (k := 1) (n := 8) (by decide) (by decide) ?_
  exact wr_iret S () hr rfl hlocks rfl hP hD hS dL_couldTake_16
set_option maxHeartbeats 4000000 in
set_option maxRecDepth 100000 in
theorem wo_swapFor (l : Launch) (D : va_G) (cT : ClassId × ClassId × ClassId) (sz : Nat) {St : Type} {post : Int32 → St → Prop} {w1 : St → va_W} {wc : va_W} {rm : Room} {mc ms : Nat} {fs : List Value} (o c9 : Nat) (g : Nat → Int64) (p0 p1 : Int32) (hM : ∀ sz, Met l yX8_swapFor wsX8_swapFor rm (va_Pc [.ref c9, .int p0, .int p1] (wr_R D (TY cT) wc sz)) (wQi post D w1 (va_A wc sz)) mc ms (va_A wc sz)) (hrm : rm.cells = mc ∧ rm.slots = ms ∧ rm.frames + 1 ≤ 8 ∧ 8 + (9 + 11) + rm.locals ≤ 200) (hc : mc ≤ 1 ∧ ms ≤ 8) (hrv : wc[0]? = some (c9, .inr (6, fs))) : Met l yL_swapFor wsL_swapFor ({ frames := 8, cells := 1, slots := 8, locals := 200 } : Room) (va_Pc [.ref c9, .int p0, .int p1, .ref o] (wx_R D (TY cT) (wc ++ [(o, .inl (cT.2.1, 1, .inr (.inl g)))]) sz)) (wQi (fun (r_ : Int32) (u_ : Int32 × St) => r_ = nI 0 ∧ post u_.1 u_.2) D (fun (u_ : Int32 × St) => w1 u_.2 ++ [(o, .inl (cT.2.1, 1, .inr (.inl (vp_updL g 0 (u_.1.toInt64)))))]) (va_A (wc ++ [(o, .inl (cT.2.1, 1, .inr (.inl g)))]) sz)) 1 8 (va_A (wc ++ [(o, .inl (cT.2.1, 1, .inr (.inl g)))]) sz) := by
  refine wx_start (cc := cL_swapFor) (maxL := 5) (ret := (some .int)) (hh := [(0, 10, 13, 21)]) RL ⟨by decide +kernel, rfl⟩ rfl (Nat.le_of_ble_eq_true rfl) ?_
  intro p0_ e0 s0 m0 a0 b0 t0 c0 S hr hlocks htab hsz hP hK hA hD hS hX ls hl
  subst hsz
  generalize va_A (wc ++ [(o, .inl (cT.2.1, 1, .inr (.inl g)))]) s0.heap.size = A at hA hD hS ⊢
  have hl : lv_has ls 5 [(0, .ref c9), (1, .int p0), (2, .int p1), (3, .ref o)] := hl
  refine lv_aload_n S.1 S.2.1 dL_swapFor_0 rfl (lv_at hl 3 rfl) ?_
  refine lv_iconst (v := (nI 0)) S.1 S.2.1 dL_swapFor_1 (by decide) ?_
  refine lv_aload_n S.1 S.2.1 dL_swapFor_2 rfl (lv_at hl 0 rfl) ?_
  refine lv_iload_n S.1 S.2.1 dL_swapFor_3 rfl (lv_at hl 1 rfl) ?_
  refine lv_iload_n S.1 S.2.1 dL_swapFor_4 rfl (lv_at hl 2 rfl) ?_
  refine fr_callVi (As := [.int p0, .int p1]) (rest := [.int (nI 0), .ref o]) (wc := wc) (wr := [(o, .inl (cT.2.1, 1, .inr (.inl g)))]) S (hM _) gL_swapFor_X8_swapFor rfl pd_X8_swapFor hrm hP hK hD hS hA (va_recv hK.1 (fr_l hP) (ci := 6) (q0 := 0) rfl hrv) hl rfl rfl (Nat.le_of_ble_eq_true rfl) ⟨by rw [Nat.zero_add]; exact hc.1, by rw [Nat.zero_add]; exact hc.2⟩ dL_swapFor_5 (fun r u H locs hp hP hD hS => ?_)
  refine W.widen (k := 1) (n := 8) (by rw [Nat.zero_add]; exact hc.1) (by rw [Nat.zero_add]; exact hc.2) ?_
  refine lv_i2l S.1 S.2.1 dL_swapFor_8 rfl ?_
  refine w_last (g := g) (i := 0) (n := 1) (v := r.toInt64) S ((w1 u).length + 0) hK hP hD hS (ap_at.trans rfl) (by decide) dL_swapFor_9 (fun H locs hP hD hS => ?_)
  rw [ap_set] at hP hD
  have hP : va_P D vwCl (w1 u ++ [(o, .inl (cT.2.1, 1, .inr (.inl (vp_updL g 0 (r.toInt64)))))]) H := hP
  have hD : va_D A (w1 u ++ [(o, .inl (cT.2.1, 1, .inr (.inl (vp_updL g 0 (r.toInt64)))))]) := hD
  refine lv_goto (tgt := 17) S.1 S.2.1 dL_swapFor_10 (by decide) ?_
  refine lv_iconst (v := (nI 0)) S.1 S.2.1 dL_swapFor_17 (by decide) ?_
  exact wr_iret S (r, u) hr rfl hlocks ⟨rfl, hp⟩ hP hD hS dL_swapFor_18
theorem wl_swapFor_0_0 : Cond.classLink RL 21 "java/lang/IndexOutOfBoundsException" ∈ wsL_swapFor := by decide +kernel
set_option maxHeartbeats 4000000 in
set_option maxRecDepth 100000 in
theorem wt_swapFor_I (l : Launch) (D : va_G) (cT : ClassId × ClassId × ClassId) (sz : Nat) {wc : va_W} {fs : List Value} (o c9 : Nat) (g : Nat → Int64) (p0 p1 : Int32) (hM : ∀ sz, vx_Met l yX8_swapFor wsX8_swapFor ({ frames := 6, cells := 1, slots := 6, locals := 160 } : Room) (va_Pc [.ref c9, .int p0, .int p1] (tr_R D (TY cT) wc sz)) (tr_Q sz) (tr_X "java/lang/IndexOutOfBoundsException" sz) 1 6 (fun q => sz ≤ q)) (hrv : wc[0]? = some (c9, .inr (6, fs))) : Met l yL_swapFor wsL_swapFor ({ frames := 8, cells := 1, slots := 8, locals := 200 } : Room) (va_Pc [.ref c9, .int p0, .int p1, .ref o] (wx_R D (TY cT) (wc ++ [(o, .inl (cT.2.1, 1, .inr (.inl g)))]) sz)) (wQi (fun (r_ : Int32) (_ : Unit) => r_ = nI 1) D (fun (_ : Unit) => wc ++ [(o, .inl (cT.2.1, 1, .inr (.inl g)))]) (va_A (wc ++ [(o, .inl (cT.2.1, 1, .inr (.inl g)))]) sz)) 1 8 (va_A (wc ++ [(o, .inl (cT.2.1, 1, .inr (.inl g)))]) sz) := by
  refine wx_start (cc := cL_swapFor) (maxL := 5) (ret := (some .int)) (hh := [(0, 10, 13, 21)]) RL ⟨by decide +kernel, rfl⟩ rfl (Nat.le_of_ble_eq_true rfl) ?_
  intro p0_ e0 s0 m0 a0 b0 t0 c0 S hr hlocks htab hsz hP hK hA hD hS hX ls hl
  subst hsz
  generalize va_A (wc ++ [(o, .inl (cT.2.1, 1, .inr (.inl g)))]) s0.heap.size = A at hA hD hS ⊢
  have hl : lv_has ls 5 [(0, .ref c9), (1, .int p0), (2, .int p1), (3, .ref o)] := hl
  refine lv_aload_n S.1 S.2.1 dL_swapFor_0 rfl (lv_at hl 3 rfl) ?_
  refine lv_iconst (v := (nI 0)) S.1 S.2.1 dL_swapFor_1 (by decide) ?_
  refine lv_aload_n S.1 S.2.1 dL_swapFor_2 rfl (lv_at hl 0 rfl) ?_
  refine lv_iload_n S.1 S.2.1 dL_swapFor_3 rfl (lv_at hl 1 rfl) ?_
  refine lv_iload_n S.1 S.2.1 dL_swapFor_4 rfl (lv_at hl 2 rfl) ?_
  refine fr_callVx (As := [.int p0, .int p1]) (rest := [.int (nI 0), .ref o]) (wc := wc) (wr := [(o, .inl (cT.2.1, 1, .inr (.inl g)))]) S (hM _) gL_swapFor_X8_swapFor rfl pd_X8_swapFor ⟨rfl, rfl, by decide, by decide⟩ hP hK hX hS hA (va_recv hK.1 (fr_l hP) (ci := 6) (q0 := 0) rfl hrv) hl rfl rfl (Nat.le_of_ble_eq_true rfl) (by decide) dL_swapFor_5 (fun q9 ce H locs hP hS hce hcv hcl => ?_)
  refine vx_catch (own := RL) (name := "java/lang/IndexOutOfBoundsException") S.2.2.2.1 ([] : List ExceptionTableEntry) (⟨0, 10, 13, 21⟩ : ExceptionTableEntry) ([] : List ExceptionTableEntry) (htab.trans rfl) (fun z hz => absurd hz List.not_mem_nil) (by decide) (by decide) (S.2.2.2.2 _ wl_swapFor_0_0) (va_Nw.use rfl (hK.2 (.castable "java/lang/IndexOutOfBoundsException" "java/lang/IndexOutOfBoundsException") (by decide +kernel))) hce hcv hcl ?_
  refine lv_astore (lv' := [(4, .ref q9), (0, .ref c9), (1, .int p0), (2, .int p1), (3, .ref o)]) S.1 S.2.1 dL_swapFor_13 hl (by decide) rfl (fun ls hl => ?_)
  refine lv_iconst (v := (nI 1)) S.1 S.2.1 dL_swapFor_15 (by decide) ?_
  refine W.widen (k := 1) (n := 8) (by decide) (by decide) ?_
  exact wr_iret S () hr rfl hlocks rfl hP hD hS dL_swapFor_16
