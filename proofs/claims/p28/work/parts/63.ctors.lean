/-! constructors -/
theorem k_X2_init_0 : Cond.methodLink RX2 1 objectInit ∈ wsX2_init := by decide +kernel
theorem k_X2_init_1 : Cond.instanceMethod objectInit ∈ wsX2_init := by decide +kernel
theorem k_X2_init_2 : Cond.code objectInit ⟨#[0xb1]⟩ 1 none ∈ wsX2_init := by decide +kernel
set_option maxHeartbeats 4000000 in
set_option maxRecDepth 100000 in
theorem w_X2_init (l : Launch) (D : va_G) (cT : ClassId × ClassId × ClassId) (sz : Nat) (w0 : va_W) (a : Nat) : Met l yX2_init wsX2_init ({ frames := 1, cells := 0, slots := 0, locals := 12 } : Room) (va_Pc [.ref a] (wr_R D (TY cT) (w0) sz)) (wQv (fun (_ : Unit) => True) D (fun (u_ : Unit) => w0) (va_A (w0) sz)) 0 0 (va_A (w0) sz) := by
  refine wr_start (cc := cX2_init) (maxL := 1) (ret := none) RX2 ⟨by decide +kernel, rfl⟩ rfl (Nat.le_of_ble_eq_true rfl) ?_
  intro p0 e0 s0 m0 a0 b0 t0 c0 S hr hlocks hin hP hK hA hD hS ls hl
  generalize va_A (w0) sz = A at hA hD hS ⊢
  have hl : lv_has ls 1 [(0, .ref a)] := hl
  refine lv_aload_n S.1 S.2.1 dX2_init_0 rfl (lv_at hl 0 rfl) ?_
  refine n_obj S hl.1 ⟨k_X2_init_0, k_X2_init_1, k_X2_init_2⟩ dX2_init_1 (by decide) ?_
  exact wr_vret S (()) hr hlocks trivial hP hD hS dX2_init_4
theorem k_X3_init_0 : Cond.methodLink RX3 3 objectInit ∈ wsX3_init := by decide +kernel
theorem k_X3_init_1 : Cond.instanceMethod objectInit ∈ wsX3_init := by decide +kernel
theorem k_X3_init_2 : Cond.code objectInit ⟨#[0xb1]⟩ 1 none ∈ wsX3_init := by decide +kernel
theorem k_X3_init_3 : Cond.arrayClass .int ∈ wsX3_init := by decide +kernel
theorem k_X3_init_4 : Cond.fieldLink RX3 9 "CoverSheet$Needs" "numbers" "[I" ∈ wsX3_init := by decide +kernel
theorem in_X3_init : ∀ w ∈ u_ws RX3 TX3 1, w ∈ wsX3_init := by decide +kernel
set_option maxHeartbeats 4000000 in
set_option maxRecDepth 100000 in
theorem w_X3_init (l : Launch) (D : va_G) (cT : ClassId × ClassId × ClassId) (sz : Nat) (w0 : va_W) (a : Nat) : Met l yX3_init wsX3_init ({ frames := 1, cells := 1, slots := 28, locals := 12 } : Room) (va_Pc [.ref a] (wr_R D (TY cT) (w0 ++ [(a, .inr (2, [.null]))]) sz)) (wQv (fun (_ : Nat) => True) D (fun (u_ : Nat) => w0 ++ [(a, .inr (2, [.ref u_])), (u_, .inl (cT.1, 28, .inl (fun _ => nI 0)))]) (va_A (w0 ++ [(a, .inr (2, [.null]))]) sz)) 1 28 (va_A (w0 ++ [(a, .inr (2, [.null]))]) sz) := by
  refine wr_start (cc := cX3_init) (maxL := 1) (ret := none) RX3 ⟨by decide +kernel, rfl⟩ rfl (Nat.le_of_ble_eq_true rfl) ?_
  intro p0 e0 s0 m0 a0 b0 t0 c0 S hr hlocks hin hP hK hA hD hS ls hl
  generalize va_A (w0 ++ [(a, .inr (2, [.null]))]) sz = A at hA hD hS ⊢
  have hl : lv_has ls 1 [(0, .ref a)] := hl
  refine lv_aload_n S.1 S.2.1 dX3_init_0 rfl (lv_at hl 0 rfl) ?_
  refine n_obj S hl.1 ⟨k_X3_init_0, k_X3_init_1, k_X3_init_2⟩ dX3_init_1 (by decide) ?_
  refine lv_aload_n S.1 S.2.1 dX3_init_4 rfl (lv_at hl 0 rfl) ?_
  refine lv_bipush (v := (nI 28)) S.1 S.2.1 dX3_init_5 (by decide) ?_
  refine n_newi S hK hP hD hS hA k_X3_init_3 (by decide +kernel) (by decide) dX3_init_7 (fun q1 H hP hD hS => ?_)
  rw [List.append_assoc] at hP hD
  have hP : va_P D vwCl (w0 ++ [(a, .inr (2, [.null])), (q1, .inl (cT.1, 28, .inl (fun _ => nI 0)))]) H := hP
  have hD : va_D A (w0 ++ [(a, .inr (2, [.null])), (q1, .inl (cT.1, 28, .inl (fun _ => nI 0)))]) := hD
  refine n_putF (C := RX3) (T := TX3) (N := 1) (v := .ref q1) (ty := .array .int) S 0 2 0 in_X3_init tyX3 tyX3_ok nmX3 hK hP hD hS rfl rfl (by decide) k_X3_init_4 rfl (hin rfl) rfl (by decide +kernel) rfl rfl (Nat.le_of_ble_eq_true rfl) dX3_init_9 (fun H locs hP hD hS => ?_)
  have hP : va_P D vwCl (w0 ++ [(a, .inr (2, [.ref q1])), (q1, .inl (cT.1, 28, .inl (fun _ => nI 0)))]) H := hP
  have hD : va_D A (w0 ++ [(a, .inr (2, [.ref q1])), (q1, .inl (cT.1, 28, .inl (fun _ => nI 0)))]) := hD
  exact wr_vret S (q1) hr hlocks trivial hP hD hS dX3_init_12
theorem k_X1_init_0 : Cond.methodLink RX1 5 objectInit ∈ wsX1_init := by decide +kernel
theorem k_X1_init_1 : Cond.instanceMethod objectInit ∈ wsX1_init := by decide +kernel
theorem k_X1_init_2 : Cond.code objectInit ⟨#[0xb1]⟩ 1 none ∈ wsX1_init := by decide +kernel
theorem k_X1_init_3 : Cond.arrayClass .long ∈ wsX1_init := by decide +kernel
theorem k_X1_init_4 : Cond.fieldLink RX1 11 "CoverSheet$DayTable" "values" "[J" ∈ wsX1_init := by decide +kernel
theorem k_X1_init_5 : Cond.fieldLink RX1 15 "CoverSheet$DayTable" "nextValues" "[J" ∈ wsX1_init := by decide +kernel
theorem in_X1_init : ∀ w ∈ u_ws RX1 TX1 2, w ∈ wsX1_init := by decide +kernel
set_option maxHeartbeats 4000000 in
set_option maxRecDepth 100000 in
theorem w_X1_init (l : Launch) (D : va_G) (cT : ClassId × ClassId × ClassId) (sz : Nat) (w0 : va_W) (a : Nat) : Met l yX1_init wsX1_init ({ frames := 1, cells := 2, slots := 960, locals := 12 } : Room) (va_Pc [.ref a] (wr_R D (TY cT) (w0 ++ [(a, .inr (1, [.null, .null]))]) sz)) (wQv (fun (_ : Nat × Nat) => True) D (fun (u_ : Nat × Nat) => w0 ++ [(a, .inr (1, [.ref u_.1, .ref u_.2])), (u_.1, .inl (cT.2.1, 480, .inr (.inl (fun _ => 0)))), (u_.2, .inl (cT.2.1, 480, .inr (.inl (fun _ => 0))))]) (va_A (w0 ++ [(a, .inr (1, [.null, .null]))]) sz)) 2 960 (va_A (w0 ++ [(a, .inr (1, [.null, .null]))]) sz) := by
  refine wr_start (cc := cX1_init) (maxL := 1) (ret := none) RX1 ⟨by decide +kernel, rfl⟩ rfl (Nat.le_of_ble_eq_true rfl) ?_
  intro p0 e0 s0 m0 a0 b0 t0 c0 S hr hlocks hin hP hK hA hD hS ls hl
  generalize va_A (w0 ++ [(a, .inr (1, [.null, .null]))]) sz = A at hA hD hS ⊢
  have hl : lv_has ls 1 [(0, .ref a)] := hl
  refine lv_aload_n S.1 S.2.1 dX1_init_0 rfl (lv_at hl 0 rfl) ?_
  refine n_obj S hl.1 ⟨k_X1_init_0, k_X1_init_1, k_X1_init_2⟩ dX1_init_1 (by decide) ?_
  refine lv_aload_n S.1 S.2.1 dX1_init_4 rfl (lv_at hl 0 rfl) ?_
  refine lv_sipush (v := (nI 480)) S.1 S.2.1 dX1_init_5 (by decide) ?_
  refine n_newl S hK hP hD hS hA k_X1_init_3 (by decide +kernel) (by decide) dX1_init_8 (fun q1 H hP hD hS => ?_)
  rw [List.append_assoc] at hP hD
  have hP : va_P D vwCl (w0 ++ [(a, .inr (1, [.null, .null])), (q1, .inl (cT.2.1, 480, .inr (.inl (fun _ => 0))))]) H := hP
  have hD : va_D A (w0 ++ [(a, .inr (1, [.null, .null])), (q1, .inl (cT.2.1, 480, .inr (.inl (fun _ => 0))))]) := hD
  refine n_put (C := RX1) (T := TX1) (N := 2) (v := .ref q1) (ty := .array .long) S 0 1 0 in_X1_init tyX1 tyX1_ok nmX1 hK hP hD hS rfl rfl (by decide) k_X1_init_4 rfl (by decide +kernel) rfl rfl (Nat.le_of_ble_eq_true rfl) dX1_init_10 (fun H locs hP hD hS => ?_)
  have hP : va_P D vwCl (w0 ++ [(a, .inr (1, [.ref q1, .null])), (q1, .inl (cT.2.1, 480, .inr (.inl (fun _ => 0))))]) H := hP
  have hD : va_D A (w0 ++ [(a, .inr (1, [.ref q1, .null])), (q1, .inl (cT.2.1, 480, .inr (.inl (fun _ => 0))))]) := hD
  refine lv_aload_n S.1 S.2.1 dX1_init_13 rfl (lv_at hl 0 rfl) ?_
  refine lv_sipush (v := (nI 480)) S.1 S.2.1 dX1_init_14 (by decide) ?_
  refine n_newl S hK hP hD hS hA k_X1_init_3 (by decide +kernel) (by decide) dX1_init_17 (fun q2 H hP hD hS => ?_)
  rw [List.append_assoc] at hP hD
  have hP : va_P D vwCl (w0 ++ [(a, .inr (1, [.ref q1, .null])), (q1, .inl (cT.2.1, 480, .inr (.inl (fun _ => 0)))), (q2, .inl (cT.2.1, 480, .inr (.inl (fun _ => 0))))]) H := hP
  have hD : va_D A (w0 ++ [(a, .inr (1, [.ref q1, .null])), (q1, .inl (cT.2.1, 480, .inr (.inl (fun _ => 0)))), (q2, .inl (cT.2.1, 480, .inr (.inl (fun _ => 0))))]) := hD
  refine n_put (C := RX1) (T := TX1) (N := 2) (v := .ref q2) (ty := .array .long) S 0 1 1 in_X1_init tyX1 tyX1_ok nmX1 hK hP hD hS rfl rfl (by decide) k_X1_init_5 rfl (by decide +kernel) rfl rfl (Nat.le_of_ble_eq_true rfl) dX1_init_19 (fun H locs hP hD hS => ?_)
  have hP : va_P D vwCl (w0 ++ [(a, .inr (1, [.ref q1, .ref q2])), (q1, .inl (cT.2.1, 480, .inr (.inl (fun _ => 0)))), (q2, .inl (cT.2.1, 480, .inr (.inl (fun _ => 0))))]) H := hP
  have hD : va_D A (w0 ++ [(a, .inr (1, [.ref q1, .ref q2])), (q1, .inl (cT.2.1, 480, .inr (.inl (fun _ => 0)))), (q2, .inl (cT.2.1, 480, .inr (.inl (fun _ => 0))))]) := hD
  exact wr_vret S ((q1, q2)) hr hlocks trivial hP hD hS dX1_init_22
theorem k_X4_init_0 : Cond.methodLink RX4 3 objectInit ∈ wsX4_init := by decide +kernel
theorem k_X4_init_1 : Cond.instanceMethod objectInit ∈ wsX4_init := by decide +kernel
theorem k_X4_init_2 : Cond.code objectInit ⟨#[0xb1]⟩ 1 none ∈ wsX4_init := by decide +kernel
theorem k_X4_init_3 : Cond.fieldLink RX4 9 "CoverSheet$Person" "skills" "I" ∈ wsX4_init := by decide +kernel
theorem k_X4_init_4 : Cond.fieldLink RX4 15 "CoverSheet$Person" "most" "I" ∈ wsX4_init := by decide +kernel
theorem in_X4_init : ∀ w ∈ u_ws RX4 TX4 8, w ∈ wsX4_init := by decide +kernel
set_option maxHeartbeats 4000000 in
set_option maxRecDepth 100000 in
theorem w_X4_init (l : Launch) (D : va_G) (cT : ClassId × ClassId × ClassId) (sz : Nat) (w0 : va_W) (a : Nat) (x y : Nat) : Met l yX4_init wsX4_init ({ frames := 1, cells := 0, slots := 0, locals := 12 } : Room) (va_Pc [.ref a, .int (nI x), .int (nI y)] (wr_R D (TY cT) (w0 ++ [(a, .inr (3, [.int 0, .int 0, .int 0, .int 0, .int 0, .int 0, .int 0, .int 0]))]) sz)) (wQv (fun (_ : Unit) => True) D (fun (u_ : Unit) => w0 ++ [(a, .inr (3, [.int (nI x), .int (nI y), .int 0, .int 0, .int 0, .int 0, .int 0, .int 0]))]) (va_A (w0 ++ [(a, .inr (3, [.int 0, .int 0, .int 0, .int 0, .int 0, .int 0, .int 0, .int 0]))]) sz)) 0 0 (va_A (w0 ++ [(a, .inr (3, [.int 0, .int 0, .int 0, .int 0, .int 0, .int 0, .int 0, .int 0]))]) sz) := by
  refine wr_start (cc := cX4_init) (maxL := 3) (ret := none) RX4 ⟨by decide +kernel, rfl⟩ rfl (Nat.le_of_ble_eq_true rfl) ?_
  intro p0 e0 s0 m0 a0 b0 t0 c0 S hr hlocks hin hP hK hA hD hS ls hl
  generalize va_A (w0 ++ [(a, .inr (3, [.int 0, .int 0, .int 0, .int 0, .int 0, .int 0, .int 0, .int 0]))]) sz = A at hA hD hS ⊢
  have hl : lv_has ls 3 [(0, .ref a), (1, .int (nI x)), (2, .int (nI y))] := hl
  refine lv_aload_n S.1 S.2.1 dX4_init_0 rfl (lv_at hl 0 rfl) ?_
  refine n_obj S hl.1 ⟨k_X4_init_0, k_X4_init_1, k_X4_init_2⟩ dX4_init_1 (by decide) ?_
  refine lv_aload_n S.1 S.2.1 dX4_init_4 rfl (lv_at hl 0 rfl) ?_
  refine lv_iload_n S.1 S.2.1 dX4_init_5 rfl (lv_at hl 1 rfl) ?_
  refine n_putF (C := RX4) (T := TX4) (N := 8) (v := .int (nI x)) (ty := .int) S 0 3 0 in_X4_init tyX4 tyX4_ok nmX4 hK hP hD hS rfl rfl (by decide) k_X4_init_3 rfl (hin rfl) rfl (by decide +kernel) rfl rfl (Nat.le_of_ble_eq_true rfl) dX4_init_6 (fun H locs hP hD hS => ?_)
  have hP : va_P D vwCl (w0 ++ [(a, .inr (3, [.int (nI x), .int 0, .int 0, .int 0, .int 0, .int 0, .int 0, .int 0]))]) H := hP
  have hD : va_D A (w0 ++ [(a, .inr (3, [.int (nI x), .int 0, .int 0, .int 0, .int 0, .int 0, .int 0, .int 0]))]) := hD
  refine lv_aload_n S.1 S.2.1 dX4_init_9 rfl (lv_at hl 0 rfl) ?_
  refine lv_iload_n S.1 S.2.1 dX4_init_10 rfl (lv_at hl 2 rfl) ?_
  refine n_putF (C := RX4) (T := TX4) (N := 8) (v := .int (nI y)) (ty := .int) S 0 3 1 in_X4_init tyX4 tyX4_ok nmX4 hK hP hD hS rfl rfl (by decide) k_X4_init_4 rfl (hin rfl) rfl (by decide +kernel) rfl rfl (Nat.le_of_ble_eq_true rfl) dX4_init_11 (fun H locs hP hD hS => ?_)
  have hP : va_P D vwCl (w0 ++ [(a, .inr (3, [.int (nI x), .int (nI y), .int 0, .int 0, .int 0, .int 0, .int 0, .int 0]))]) H := hP
  have hD : va_D A (w0 ++ [(a, .inr (3, [.int (nI x), .int (nI y), .int 0, .int 0, .int 0, .int 0, .int 0, .int 0]))]) := hD
  exact wr_vret S (()) hr hlocks trivial hP hD hS dX4_init_14
theorem k_X0_init_0 : Cond.initialized RX2 ∈ wsX0_init := by decide +kernel
theorem k_X0_init_1 : Cond.instanceMethod yX2_init ∈ wsX0_init := by decide +kernel
set_option maxHeartbeats 4000000 in
set_option maxRecDepth 100000 in
theorem w_X0_init (l : Launch) (D : va_G) (cT : ClassId × ClassId × ClassId) (sz : Nat) (w0 : va_W) (a : Nat) : Met l yX0_init wsX0_init ({ frames := 2, cells := 0, slots := 0, locals := 32 } : Room) (va_Pc [.ref a] (wr_R D (TY cT) (w0 ++ [(a, .inr (0, []))]) sz)) (wQv (fun (_ : Unit) => True) D (fun (u_ : Unit) => w0 ++ [(a, .inr (0, []))]) (va_A (w0 ++ [(a, .inr (0, []))]) sz)) 0 0 (va_A (w0 ++ [(a, .inr (0, []))]) sz) := by
  refine wr_start (cc := cX0_init) (maxL := 1) (ret := none) RX0 ⟨by decide +kernel, rfl⟩ rfl (Nat.le_of_ble_eq_true rfl) ?_
  intro p0 e0 s0 m0 a0 b0 t0 c0 S hr hlocks hin hP hK hA hD hS ls hl
  generalize va_A (w0 ++ [(a, .inr (0, []))]) sz = A at hA hD hS ⊢
  have hl : lv_has ls 1 [(0, .ref a)] := hl
  refine lv_aload_n S.1 S.2.1 dX0_init_0 rfl (lv_at hl 0 rfl) ?_
  refine n_callI S (w_X2_init l D cT _ (w0 ++ [(a, .inr (0, []))]) a) gX0_init_X2_init_n1 rfl (by decide +kernel) ⟨k_X0_init_0, k_X0_init_1, rfl⟩ ⟨by decide +kernel, by decide +kernel, rfl⟩ ⟨rfl, rfl, by decide, by decide⟩ hP hK hD hS hA hl rfl rfl (by decide) (by decide) dX0_init_1 (fun _ H locs _ hP hD hS => ?_)
  exact wr_vret S (()) hr hlocks trivial hP hD hS dX0_init_4
theorem k_X5_init_0 : Cond.initialized RX2 ∈ wsX5_init := by decide +kernel
theorem k_X5_init_1 : Cond.instanceMethod yX2_init ∈ wsX5_init := by decide +kernel
theorem k_X5_init_2 : Cond.arrayClass .long ∈ wsX5_init := by decide +kernel
theorem k_X5_init_3 : Cond.fieldLink RX5 15 "CoverSheet$Pricing" "prices" "[J" ∈ wsX5_init := by decide +kernel
theorem in_X5_init : ∀ w ∈ u_ws RX5 TX5 1, w ∈ wsX5_init := by decide +kernel
set_option maxHeartbeats 4000000 in
set_option maxRecDepth 100000 in
theorem w_X5_init (l : Launch) (D : va_G) (cT : ClassId × ClassId × ClassId) (sz : Nat) (w0 : va_W) (a : Nat) : Met l yX5_init wsX5_init ({ frames := 2, cells := 1, slots := 28, locals := 32 } : Room) (va_Pc [.ref a] (wr_R D (TY cT) (w0 ++ [(a, .inr (4, [.null]))]) sz)) (wQv (fun (_ : Nat) => True) D (fun (u_ : Nat) => w0 ++ [(a, .inr (4, [.ref u_])), (u_, .inl (cT.2.1, 28, .inr (.inl (fun _ => 0))))]) (va_A (w0 ++ [(a, .inr (4, [.null]))]) sz)) 1 28 (va_A (w0 ++ [(a, .inr (4, [.null]))]) sz) := by
  refine wr_start (cc := cX5_init) (maxL := 1) (ret := none) RX5 ⟨by decide +kernel, rfl⟩ rfl (Nat.le_of_ble_eq_true rfl) ?_
  intro p0 e0 s0 m0 a0 b0 t0 c0 S hr hlocks hin hP hK hA hD hS ls hl
  generalize va_A (w0 ++ [(a, .inr (4, [.null]))]) sz = A at hA hD hS ⊢
  have hl : lv_has ls 1 [(0, .ref a)] := hl
  refine lv_aload_n S.1 S.2.1 dX5_init_0 rfl (lv_at hl 0 rfl) ?_
  refine n_callI S (w_X2_init l D cT _ (w0 ++ [(a, .inr (4, [.null]))]) a) gX5_init_X2_init_n9 rfl (by decide +kernel) ⟨k_X5_init_0, k_X5_init_1, rfl⟩ ⟨by decide +kernel, by decide +kernel, rfl⟩ ⟨rfl, rfl, by decide, by decide⟩ hP hK hD hS hA hl rfl rfl (by decide) (by decide) dX5_init_1 (fun _ H locs _ hP hD hS => ?_)
  refine lv_aload_n S.1 S.2.1 dX5_init_4 rfl (lv_at hl 0 rfl) ?_
  refine lv_bipush (v := (nI 28)) S.1 S.2.1 dX5_init_5 (by decide) ?_
  refine n_newl S hK hP hD hS hA k_X5_init_2 (by decide +kernel) (by decide) dX5_init_7 (fun q1 H hP hD hS => ?_)
  rw [List.append_assoc] at hP hD
  have hP : va_P D vwCl (w0 ++ [(a, .inr (4, [.null])), (q1, .inl (cT.2.1, 28, .inr (.inl (fun _ => 0))))]) H := hP
  have hD : va_D A (w0 ++ [(a, .inr (4, [.null])), (q1, .inl (cT.2.1, 28, .inr (.inl (fun _ => 0))))]) := hD
  refine n_putF (C := RX5) (T := TX5) (N := 1) (v := .ref q1) (ty := .array .long) S 0 4 0 in_X5_init tyX5 tyX5_ok nmX5 hK hP hD hS rfl rfl (by decide) k_X5_init_3 rfl (hin rfl) rfl (by decide +kernel) rfl rfl (Nat.le_of_ble_eq_true rfl) dX5_init_9 (fun H locs hP hD hS => ?_)
  have hP : va_P D vwCl (w0 ++ [(a, .inr (4, [.ref q1])), (q1, .inl (cT.2.1, 28, .inr (.inl (fun _ => 0))))]) H := hP
  have hD : va_D A (w0 ++ [(a, .inr (4, [.ref q1])), (q1, .inl (cT.2.1, 28, .inr (.inl (fun _ => 0))))]) := hD
  exact wr_vret S (q1) hr hlocks trivial hP hD hS dX5_init_12
theorem k_X6_init_0 : Cond.methodLink RX6 3 objectInit ∈ wsX6_init := by decide +kernel
theorem k_X6_init_1 : Cond.instanceMethod objectInit ∈ wsX6_init := by decide +kernel
theorem k_X6_init_2 : Cond.code objectInit ⟨#[0xb1]⟩ 1 none ∈ wsX6_init := by decide +kernel
theorem k_X6_init_3 : Cond.fieldLink RX6 15 "CoverSheet$Rules" "forbidden" "I" ∈ wsX6_init := by decide +kernel
theorem k_X6_init_4 : Cond.fieldLink RX6 19 "CoverSheet$Rules" "longestRun" "I" ∈ wsX6_init := by decide +kernel
theorem in_X6_init : ∀ w ∈ u_ws RX6 TX6 2, w ∈ wsX6_init := by decide +kernel
set_option maxHeartbeats 4000000 in
set_option maxRecDepth 100000 in
theorem w_X6_init (l : Launch) (D : va_G) (cT : ClassId × ClassId × ClassId) (sz : Nat) (w0 : va_W) (a : Nat) : Met l yX6_init wsX6_init ({ frames := 1, cells := 0, slots := 0, locals := 40 } : Room) (va_Pc [.ref a] (wr_R D (TY cT) (w0 ++ [(a, .inr (5, [.int 0, .int 0]))]) sz)) (wQv (fun (_ : Unit) => True) D (fun (u_ : Unit) => w0 ++ [(a, .inr (5, [.int (nI 25088), .int (nI 5)]))]) (va_A (w0 ++ [(a, .inr (5, [.int 0, .int 0]))]) sz)) 0 0 (va_A (w0 ++ [(a, .inr (5, [.int 0, .int 0]))]) sz) := by
  refine wr_start (cc := cX6_init) (maxL := 1) (ret := none) RX6 ⟨by decide +kernel, rfl⟩ rfl (Nat.le_of_ble_eq_true rfl) ?_
  intro p0 e0 s0 m0 a0 b0 t0 c0 S hr hlocks hin hP hK hA hD hS ls hl
  generalize va_A (w0 ++ [(a, .inr (5, [.int 0, .int 0]))]) sz = A at hA hD hS ⊢
  have hl : lv_has ls 1 [(0, .ref a)] := hl
  refine lv_aload_n S.1 S.2.1 dX6_init_0 rfl (lv_at hl 0 rfl) ?_
  refine n_obj S hl.1 ⟨k_X6_init_0, k_X6_init_1, k_X6_init_2⟩ dX6_init_1 (by decide) ?_
  refine lv_aload_n S.1 S.2.1 dX6_init_4 rfl (lv_at hl 0 rfl) ?_
  refine lv_iconst (v := (nI 2)) S.1 S.2.1 dX6_init_5 (by decide) ?_
  refine lv_iconst (v := (nI 1)) S.1 S.2.1 dX6_init_6 (by decide) ?_
  refine rd_callS (rest := [.ref a]) S (r_X6_pairOf l D cT 2 1 (by decide) (by decide)) gX6_init_X6_pairOf rfl pd_X6_pairOf ⟨rfl, rfl, by decide, by decide⟩ (sx_P0 D _) hK hl rfl rfl (Nat.le_of_ble_eq_true rfl) ⟨Nat.zero_le _, Nat.zero_le _⟩ dX6_init_7 ?_
  refine lv_iconst (v := (nI 3)) S.1 S.2.1 dX6_init_10 (by decide) ?_
  refine lv_iconst (v := (nI 1)) S.1 S.2.1 dX6_init_11 (by decide) ?_
  refine rd_callS (rest := [.int (nI (1 * 2 ^ (2 * 4 + 1))), .ref a]) S (r_X6_pairOf l D cT 3 1 (by decide) (by decide)) gX6_init_X6_pairOf rfl pd_X6_pairOf ⟨rfl, rfl, by decide, by decide⟩ (sx_P0 D _) hK hl rfl rfl (Nat.le_of_ble_eq_true rfl) ⟨Nat.zero_le _, Nat.zero_le _⟩ dX6_init_12 ?_
  refine n_or S dX6_init_15 ?_
  refine lv_iconst (v := (nI 3)) S.1 S.2.1 dX6_init_16 (by decide) ?_
  refine lv_iconst (v := (nI 2)) S.1 S.2.1 dX6_init_17 (by decide) ?_
  refine rd_callS (rest := [.int (nI ((1 * 2 ^ (2 * 4 + 1)) ||| (1 * 2 ^ (3 * 4 + 1)))), .ref a]) S (r_X6_pairOf l D cT 3 2 (by decide) (by decide)) gX6_init_X6_pairOf rfl pd_X6_pairOf ⟨rfl, rfl, by decide, by decide⟩ (sx_P0 D _) hK hl rfl rfl (Nat.le_of_ble_eq_true rfl) ⟨Nat.zero_le _, Nat.zero_le _⟩ dX6_init_18 ?_
  refine n_or S dX6_init_21 ?_
  refine n_put (C := RX6) (T := TX6) (N := 2) (v := .int (nI (((1 * 2 ^ (2 * 4 + 1)) ||| (1 * 2 ^ (3 * 4 + 1))) ||| (1 * 2 ^ (3 * 4 + 2))))) (ty := .int) S 0 5 0 in_X6_init tyX6 tyX6_ok nmX6 hK hP hD hS rfl rfl (by decide) k_X6_init_3 rfl (by decide +kernel) rfl rfl (Nat.le_of_ble_eq_true rfl) dX6_init_22 (fun H locs hP hD hS => ?_)
  have hP : va_P D vwCl (w0 ++ [(a, .inr (5, [.int (nI 25088), .int 0]))]) H := hP
  have hD : va_D A (w0 ++ [(a, .inr (5, [.int (nI 25088), .int 0]))]) := hD
  refine lv_aload_n S.1 S.2.1 dX6_init_25 rfl (lv_at hl 0 rfl) ?_
  refine lv_iconst (v := (nI 5)) S.1 S.2.1 dX6_init_26 (by decide) ?_
  refine n_put (C := RX6) (T := TX6) (N := 2) (v := .int (nI 5)) (ty := .int) S 0 5 1 in_X6_init tyX6 tyX6_ok nmX6 hK hP hD hS rfl rfl (by decide) k_X6_init_4 rfl (by decide +kernel) rfl rfl (Nat.le_of_ble_eq_true rfl) dX6_init_27 (fun H locs hP hD hS => ?_)
  have hP : va_P D vwCl (w0 ++ [(a, .inr (5, [.int (nI 25088), .int (nI 5)]))]) H := hP
  have hD : va_D A (w0 ++ [(a, .inr (5, [.int (nI 25088), .int (nI 5)]))]) := hD
  exact wr_vret S (()) hr hlocks trivial hP hD hS dX6_init_30
