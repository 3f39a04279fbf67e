/-! the desk's own constructor, and addPerson -/
theorem tm_0 {pa : Nat → Nat} : tm 0 pa = fun _ => none := funext fun k => if_neg (Nat.not_lt_zero k)
abbrev wr_RE (E : State → Prop) (D : va_G) (tys : List (ClassId × FieldType)) (w0 : va_W) (sz : Nat) : State → Prop := fun U => U.heap.size = sz ∧ va_P D vwCl w0 U.heap ∧ KN D tys U ∧ va_D (fun _ => True) w0 ∧ E U
theorem wr_startE {E : State → Prop} {l : Launch} {y : MethodName} {ws ws' : List Cond} {rm : Room} {Qc : Array Value → State → Outcome → State → Prop} {cc : ByteArray} {maxL mc ms sz : Nat} {ret : Option FieldType} {D : va_G} {tys : List (ClassId × FieldType)} {w0 : va_W} {av : List Value} (own : String) (hy : plainName y.cls = true ∧ y.cls = own) (hw : ws = Cond.code y cc maxL ret :: ws') (hlen : (lg_sl av).length ≤ maxL)
    (body : ∀ p e s m args below meth c, CallFix p m c cc maxL s args ws own → meth.sig.returnType = ret → meth.locks = false → (y.name = "<init>" → meth.name = "<init>") → va_P D vwCl w0 s.heap → KN D tys s → E s → (∀ q, s.heap.size ≤ q → va_A w0 sz q) → va_D (va_A w0 sz) w0 → va_S (va_A w0 sz) s.heap s.heap [] → ∀ ls : Array Slot, lv_has ls maxL (lv_args 0 av) →
      W p l e rm s m args below meth c s.heap [] 0 0 (MQ below Qc args s mc ms (va_A w0 sz)) (F0 m 0 ls [])) : Met l y ws rm (va_Pc av (wr_RE E D tys w0 sz)) Qc mc ms (va_A w0 sz) := by
  refine Met.ofW (cc := cc) (maxL := maxL) (ret := ret) hy.1 hw ?_
  intro p e s m args below meth c s₁ B hml hv
  obtain ⟨hv0, hsz, hP, hK, hD, hE⟩ := hv
  subst hv0
  subst hsz
  have hl := lv_entry av (n := maxL) hlen
  rw [lg_entry_eq]
  have hn := findClass_of_methodNamed B.named
  rw [hy.2] at hn
  exact body p e s m _ below meth c ⟨B.exec, B.bytes, hml, hn, atoms_spec (ws := ws) B.pre⟩ B.returns B.notSynchronized (fun h => ((name_of_methodNamed B.named B.method).1).trans h) hP hK hE (fun q h => Or.inr h) hD.self va_S.rf _ hl
theorem k_X8_init_0 : Cond.methodLink RX8 3 objectInit ∈ wsX8_init := by decide +kernel
theorem k_X8_init_1 : Cond.instanceMethod objectInit ∈ wsX8_init := by decide +kernel
theorem k_X8_init_2 : Cond.code objectInit ⟨#[0xb1]⟩ 1 none ∈ wsX8_init := by decide +kernel
theorem k_X8_init_3 : Cond.classLink RX8 9 RX4 ∈ wsX8_init := by decide +kernel
theorem k_X8_init_4 : Cond.fieldLink RX8 11 "CoverSheet" "team" "[LCoverSheet$Person;" ∈ wsX8_init := by decide +kernel
theorem k_X8_init_5 : Cond.classLink RX8 15 RX3 ∈ wsX8_init := by decide +kernel
theorem k_X8_init_6 : Cond.instantiable RX3 1 ∈ wsX8_init := by decide +kernel
theorem k_X8_init_7 : Cond.initialized RX3 ∈ wsX8_init := by decide +kernel
theorem k_X8_init_8 : Cond.instanceMethod yX3_init ∈ wsX8_init := by decide +kernel
theorem k_X8_init_9 : Cond.fieldLink RX8 18 "CoverSheet" "needs" "LCoverSheet$Needs;" ∈ wsX8_init := by decide +kernel
theorem k_X8_init_10 : Cond.classLink RX8 22 RX6 ∈ wsX8_init := by decide +kernel
theorem k_X8_init_11 : Cond.instantiable RX6 2 ∈ wsX8_init := by decide +kernel
theorem k_X8_init_12 : Cond.initialized RX6 ∈ wsX8_init := by decide +kernel
theorem k_X8_init_13 : Cond.instanceMethod yX6_init ∈ wsX8_init := by decide +kernel
theorem k_X8_init_14 : Cond.fieldLink RX8 25 "CoverSheet" "rules" "LCoverSheet$Rules;" ∈ wsX8_init := by decide +kernel
theorem k_X8_init_15 : Cond.classLink RX8 29 RX1 ∈ wsX8_init := by decide +kernel
theorem k_X8_init_16 : Cond.instantiable RX1 2 ∈ wsX8_init := by decide +kernel
theorem k_X8_init_17 : Cond.initialized RX1 ∈ wsX8_init := by decide +kernel
theorem k_X8_init_18 : Cond.instanceMethod yX1_init ∈ wsX8_init := by decide +kernel
theorem k_X8_init_19 : Cond.fieldLink RX8 32 "CoverSheet" "table" "LCoverSheet$DayTable;" ∈ wsX8_init := by decide +kernel
theorem k_X8_init_20 : Cond.classLink RX8 36 RX0 ∈ wsX8_init := by decide +kernel
theorem k_X8_init_21 : Cond.instantiable RX0 0 ∈ wsX8_init := by decide +kernel
theorem k_X8_init_22 : Cond.initialized RX0 ∈ wsX8_init := by decide +kernel
theorem k_X8_init_23 : Cond.instanceMethod yX0_init ∈ wsX8_init := by decide +kernel
theorem k_X8_init_24 : Cond.fieldLink RX8 39 "CoverSheet" "counting" "LCoverSheet$Counting;" ∈ wsX8_init := by decide +kernel
theorem k_X8_init_25 : Cond.classLink RX8 43 RX5 ∈ wsX8_init := by decide +kernel
theorem k_X8_init_26 : Cond.instantiable RX5 1 ∈ wsX8_init := by decide +kernel
theorem k_X8_init_27 : Cond.initialized RX5 ∈ wsX8_init := by decide +kernel
theorem k_X8_init_28 : Cond.instanceMethod yX5_init ∈ wsX8_init := by decide +kernel
theorem k_X8_init_29 : Cond.fieldLink RX8 46 "CoverSheet" "pricing" "LCoverSheet$Pricing;" ∈ wsX8_init := by decide +kernel
theorem in_X8_init_X0 : ∀ w ∈ u_ws RX0 TX0 0, w ∈ wsX8_init := by decide +kernel
theorem in_X8_init_X1 : ∀ w ∈ u_ws RX1 TX1 2, w ∈ wsX8_init := by decide +kernel
theorem in_X8_init_X3 : ∀ w ∈ u_ws RX3 TX3 1, w ∈ wsX8_init := by decide +kernel
theorem in_X8_init_X5 : ∀ w ∈ u_ws RX5 TX5 1, w ∈ wsX8_init := by decide +kernel
theorem in_X8_init_X6 : ∀ w ∈ u_ws RX6 TX6 2, w ∈ wsX8_init := by decide +kernel
theorem in_X8_init_X8 : ∀ w ∈ u_ws RX8 TX8 9, w ∈ wsX8_init := by decide +kernel
set_option maxHeartbeats 4000000 in
set_option maxRecDepth 100000 in
theorem w_X8_init (l : Launch) (D : va_G) (cT : ClassId × ClassId × ClassId) (sz : Nat) (w0 : va_W) (a : Nat) : Met l yX8_init wsX8_init ({ frames := 3, cells := 10, slots := 1030, locals := 64 } : Room) (va_Pc [.ref a] (wr_RE (va_AO RX4) D (TY cT) (w0 ++ [(a, .inr (6, [.null, .null, .null, .null, .null, .null, .int 0, .int 0, .int 0]))]) sz)) (wQv (fun (u_ : (Nat → Nat) × Nat × Nat) => u_.1 0 = a) D (fun (u_ : (Nat → Nat) × Nat × Nat) => w0 ++ cX cT u_.1 u_.2.1 u_.2.2 0 0 0 25088 5 (fun _ => 0) (fun _ => 0) (fun _ => 0) (fun _ => 0) (fun _ => 0)) (va_A (w0 ++ [(a, .inr (6, [.null, .null, .null, .null, .null, .null, .int 0, .int 0, .int 0]))]) sz)) 10 1030 (va_A (w0 ++ [(a, .inr (6, [.null, .null, .null, .null, .null, .null, .int 0, .int 0, .int 0]))]) sz) := by
  refine wr_startE (cc := cX8_init) (maxL := 1) (ret := none) RX8 ⟨by decide +kernel, rfl⟩ rfl (Nat.le_of_ble_eq_true rfl) ?_
  intro p0 e0 s0 m0 a0 b0 t0 c0 S hr hlocks hin hP hK hE hA hD hS ls hl
  generalize va_A (w0 ++ [(a, .inr (6, [.null, .null, .null, .null, .null, .null, .int 0, .int 0, .int 0]))]) sz = A at hA hD hS ⊢
  have hl : lv_has ls 1 [(0, .ref a)] := hl
  refine lv_aload_n S.1 S.2.1 dX8_init_0 rfl (lv_at hl 0 rfl) ?_
  refine n_obj S hl.1 ⟨k_X8_init_0, k_X8_init_1, k_X8_init_2⟩ dX8_init_1 (by decide) ?_
  refine lv_aload_n S.1 S.2.1 dX8_init_4 rfl (lv_at hl 0 rfl) ?_
  refine lv_bipush (v := (nI 8)) S.1 S.2.1 dX8_init_5 (by decide) ?_
  refine n_newq S hE hK hP hD hS hA k_X8_init_3 (by decide +kernel) (by decide) dX8_init_7 (fun q1 H hP hD hS => ?_)
  rw [List.append_assoc] at hP hD
  have hP : va_P D vwCl (w0 ++ [(a, .inr (6, [.null, .null, .null, .null, .null, .null, .int 0, .int 0, .int 0])), (q1, .inl (cT.2.2, 8, .inr (.inr (.inr (.inr (fun _ => none))))))]) H := hP
  have hD : va_D A (w0 ++ [(a, .inr (6, [.null, .null, .null, .null, .null, .null, .int 0, .int 0, .int 0])), (q1, .inl (cT.2.2, 8, .inr (.inr (.inr (.inr (fun _ => none))))))]) := hD
  refine n_putF (C := RX8) (T := TX8) (N := 9) (v := .ref q1) (ty := .array (.object RX4)) S 0 6 0 in_X8_init_X8 tyX8 tyX8_ok nmX8 hK hP hD hS rfl rfl (by decide) k_X8_init_4 rfl (hin rfl) rfl (by decide +kernel) rfl rfl (Nat.le_of_ble_eq_true rfl) dX8_init_10 (fun H locs hP hD hS => ?_)
  have hP : va_P D vwCl (w0 ++ [(a, .inr (6, [.ref q1, .null, .null, .null, .null, .null, .int 0, .int 0, .int 0])), (q1, .inl (cT.2.2, 8, .inr (.inr (.inr (.inr (fun _ => none))))))]) H := hP
  have hD : va_D A (w0 ++ [(a, .inr (6, [.ref q1, .null, .null, .null, .null, .null, .int 0, .int 0, .int 0])), (q1, .inl (cT.2.2, 8, .inr (.inr (.inr (.inr (fun _ => none))))))]) := hD
  refine lv_aload_n S.1 S.2.1 dX8_init_13 rfl (lv_at hl 0 rfl) ?_
  refine n_new (C := RX3) (T := TX3) (N := 1) S 2 in_X8_init_X3 tyX3 tyX3_ok ⟨k_X8_init_5, k_X8_init_6, k_X8_init_7⟩ hK hP hD hS hA rfl [.null] (fun j hj => match j, hj with | 0, _ => rfl | n + 1, h => absurd h (by omega)) (by decide) dX8_init_14 (fun q2 H hP hD hS => ?_)
  refine lv_dup S.1 S.2.1 dX8_init_17 rfl ?_
  refine n_callI S (w_X3_init l D cT _ (w0 ++ [(a, .inr (6, [.ref q1, .null, .null, .null, .null, .null, .int 0, .int 0, .int 0])), (q1, .inl (cT.2.2, 8, .inr (.inr (.inr (.inr (fun _ => none))))))]) q2) gX8_init_X3_init_n17 rfl (by decide +kernel) ⟨k_X8_init_7, k_X8_init_8, rfl⟩ ⟨by decide +kernel, by decide +kernel, rfl⟩ ⟨rfl, rfl, by decide, by decide⟩ hP hK hD hS hA hl rfl rfl (Nat.le_of_ble_eq_true rfl) (by decide) dX8_init_18 (fun q3 H locs _ hP hD hS => ?_)
  rw [List.append_assoc] at hP hD
  have hP : va_P D vwCl (w0 ++ [(a, .inr (6, [.ref q1, .null, .null, .null, .null, .null, .int 0, .int 0, .int 0])), (q1, .inl (cT.2.2, 8, .inr (.inr (.inr (.inr (fun _ => none)))))), (q2, .inr (2, [.ref q3])), (q3, .inl (cT.1, 28, .inl (fun _ => nI 0)))]) H := hP
  have hD : va_D A (w0 ++ [(a, .inr (6, [.ref q1, .null, .null, .null, .null, .null, .int 0, .int 0, .int 0])), (q1, .inl (cT.2.2, 8, .inr (.inr (.inr (.inr (fun _ => none)))))), (q2, .inr (2, [.ref q3])), (q3, .inl (cT.1, 28, .inl (fun _ => nI 0)))]) := hD
  refine n_putF (C := RX8) (T := TX8) (N := 9) (v := .ref q2) (ty := .object "CoverSheet$Needs") S 0 6 1 in_X8_init_X8 tyX8 tyX8_ok nmX8 hK hP hD hS rfl rfl (by decide) k_X8_init_9 rfl (hin rfl) rfl (by decide +kernel) rfl rfl (Nat.le_of_ble_eq_true rfl) dX8_init_21 (fun H locs hP hD hS => ?_)
  have hP : va_P D vwCl (w0 ++ [(a, .inr (6, [.ref q1, .ref q2, .null, .null, .null, .null, .int 0, .int 0, .int 0])), (q1, .inl (cT.2.2, 8, .inr (.inr (.inr (.inr (fun _ => none)))))), (q2, .inr (2, [.ref q3])), (q3, .inl (cT.1, 28, .inl (fun _ => nI 0)))]) H := hP
  have hD : va_D A (w0 ++ [(a, .inr (6, [.ref q1, .ref q2, .null, .null, .null, .null, .int 0, .int 0, .int 0])), (q1, .inl (cT.2.2, 8, .inr (.inr (.inr (.inr (fun _ => none)))))), (q2, .inr (2, [.ref q3])), (q3, .inl (cT.1, 28, .inl (fun _ => nI 0)))]) := hD
  refine lv_aload_n S.1 S.2.1 dX8_init_24 rfl (lv_at hl 0 rfl) ?_
  refine n_new (C := RX6) (T := TX6) (N := 2) S 5 in_X8_init_X6 tyX6 tyX6_ok ⟨k_X8_init_10, k_X8_init_11, k_X8_init_12⟩ hK hP hD hS hA rfl [.int 0, .int 0] (fun j hj => match j, hj with | 0, _ => rfl | 1, _ => rfl | n + 2, h => absurd h (by omega)) (by decide) dX8_init_25 (fun q4 H hP hD hS => ?_)
  refine lv_dup S.1 S.2.1 dX8_init_28 rfl ?_
  refine n_callI S (w_X6_init l D cT _ (w0 ++ [(a, .inr (6, [.ref q1, .ref q2, .null, .null, .null, .null, .int 0, .int 0, .int 0])), (q1, .inl (cT.2.2, 8, .inr (.inr (.inr (.inr (fun _ => none)))))), (q2, .inr (2, [.ref q3])), (q3, .inl (cT.1, 28, .inl (fun _ => nI 0)))]) q4) gX8_init_X6_init_n24 rfl (by decide +kernel) ⟨k_X8_init_12, k_X8_init_13, rfl⟩ ⟨by decide +kernel, by decide +kernel, rfl⟩ ⟨rfl, rfl, by decide, by decide⟩ hP hK hD hS hA hl rfl rfl (Nat.le_of_ble_eq_true rfl) (by decide) dX8_init_29 (fun _ H locs _ hP hD hS => ?_)
  rw [List.append_assoc] at hP hD
  have hP : va_P D vwCl (w0 ++ [(a, .inr (6, [.ref q1, .ref q2, .null, .null, .null, .null, .int 0, .int 0, .int 0])), (q1, .inl (cT.2.2, 8, .inr (.inr (.inr (.inr (fun _ => none)))))), (q2, .inr (2, [.ref q3])), (q3, .inl (cT.1, 28, .inl (fun _ => nI 0))), (q4, .inr (5, [.int (nI 25088), .int (nI 5)]))]) H := hP
  have hD : va_D A (w0 ++ [(a, .inr (6, [.ref q1, .ref q2, .null, .null, .null, .null, .int 0, .int 0, .int 0])), (q1, .inl (cT.2.2, 8, .inr (.inr (.inr (.inr (fun _ => none)))))), (q2, .inr (2, [.ref q3])), (q3, .inl (cT.1, 28, .inl (fun _ => nI 0))), (q4, .inr (5, [.int (nI 25088), .int (nI 5)]))]) := hD
  refine n_putF (C := RX8) (T := TX8) (N := 9) (v := .ref q4) (ty := .object "CoverSheet$Rules") S 0 6 2 in_X8_init_X8 tyX8 tyX8_ok nmX8 hK hP hD hS rfl rfl (by decide) k_X8_init_14 rfl (hin rfl) rfl (by decide +kernel) rfl rfl (Nat.le_of_ble_eq_true rfl) dX8_init_32 (fun H locs hP hD hS => ?_)
  have hP : va_P D vwCl (w0 ++ [(a, .inr (6, [.ref q1, .ref q2, .ref q4, .null, .null, .null, .int 0, .int 0, .int 0])), (q1, .inl (cT.2.2, 8, .inr (.inr (.inr (.inr (fun _ => none)))))), (q2, .inr (2, [.ref q3])), (q3, .inl (cT.1, 28, .inl (fun _ => nI 0))), (q4, .inr (5, [.int (nI 25088), .int (nI 5)]))]) H := hP
  have hD : va_D A (w0 ++ [(a, .inr (6, [.ref q1, .ref q2, .ref q4, .null, .null, .null, .int 0, .int 0, .int 0])), (q1, .inl (cT.2.2, 8, .inr (.inr (.inr (.inr (fun _ => none)))))), (q2, .inr (2, [.ref q3])), (q3, .inl (cT.1, 28, .inl (fun _ => nI 0))), (q4, .inr (5, [.int (nI 25088), .int (nI 5)]))]) := hD
  refine lv_aload_n S.1 S.2.1 dX8_init_35 rfl (lv_at hl 0 rfl) ?_
  refine n_new (C := RX1) (T := TX1) (N := 2) S 1 in_X8_init_X1 tyX1 tyX1_ok ⟨k_X8_init_15, k_X8_init_16, k_X8_init_17⟩ hK hP hD hS hA rfl [.null, .null] (fun j hj => match j, hj with | 0, _ => rfl | 1, _ => rfl | n + 2, h => absurd h (by omega)) (by decide) dX8_init_36 (fun q5 H hP hD hS => ?_)
  refine lv_dup S.1 S.2.1 dX8_init_39 rfl ?_
  refine n_callI S (w_X1_init l D cT _ (w0 ++ [(a, .inr (6, [.ref q1, .ref q2, .ref q4, .null, .null, .null, .int 0, .int 0, .int 0])), (q1, .inl (cT.2.2, 8, .inr (.inr (.inr (.inr (fun _ => none)))))), (q2, .inr (2, [.ref q3])), (q3, .inl (cT.1, 28, .inl (fun _ => nI 0))), (q4, .inr (5, [.int (nI 25088), .int (nI 5)]))]) q5) gX8_init_X1_init_n31 rfl (by decide +kernel) ⟨k_X8_init_17, k_X8_init_18, rfl⟩ ⟨by decide +kernel, by decide +kernel, rfl⟩ ⟨rfl, rfl, by decide, by decide⟩ hP hK hD hS hA hl rfl rfl (Nat.le_of_ble_eq_true rfl) (by decide) dX8_init_40 (fun ⟨q6, q7⟩ H locs _ hP hD hS => ?_)
  rw [List.append_assoc] at hP hD
  have hP : va_P D vwCl (w0 ++ [(a, .inr (6, [.ref q1, .ref q2, .ref q4, .null, .null, .null, .int 0, .int 0, .int 0])), (q1, .inl (cT.2.2, 8, .inr (.inr (.inr (.inr (fun _ => none)))))), (q2, .inr (2, [.ref q3])), (q3, .inl (cT.1, 28, .inl (fun _ => nI 0))), (q4, .inr (5, [.int (nI 25088), .int (nI 5)])), (q5, .inr (1, [.ref q6, .ref q7])), (q6, .inl (cT.2.1, 480, .inr (.inl (fun _ => 0)))), (q7, .inl (cT.2.1, 480, .inr (.inl (fun _ => 0))))]) H := hP
  have hD : va_D A (w0 ++ [(a, .inr (6, [.ref q1, .ref q2, .ref q4, .null, .null, .null, .int 0, .int 0, .int 0])), (q1, .inl (cT.2.2, 8, .inr (.inr (.inr (.inr (fun _ => none)))))), (q2, .inr (2, [.ref q3])), (q3, .inl (cT.1, 28, .inl (fun _ => nI 0))), (q4, .inr (5, [.int (nI 25088), .int (nI 5)])), (q5, .inr (1, [.ref q6, .ref q7])), (q6, .inl (cT.2.1, 480, .inr (.inl (fun _ => 0)))), (q7, .inl (cT.2.1, 480, .inr (.inl (fun _ => 0))))]) := hD
  refine n_putF (C := RX8) (T := TX8) (N := 9) (v := .ref q5) (ty := .object "CoverSheet$DayTable") S 0 6 3 in_X8_init_X8 tyX8 tyX8_ok nmX8 hK hP hD hS rfl rfl (by decide) k_X8_init_19 rfl (hin rfl) rfl (by decide +kernel) rfl rfl (Nat.le_of_ble_eq_true rfl) dX8_init_43 (fun H locs hP hD hS => ?_)
  have hP : va_P D vwCl (w0 ++ [(a, .inr (6, [.ref q1, .ref q2, .ref q4, .ref q5, .null, .null, .int 0, .int 0, .int 0])), (q1, .inl (cT.2.2, 8, .inr (.inr (.inr (.inr (fun _ => none)))))), (q2, .inr (2, [.ref q3])), (q3, .inl (cT.1, 28, .inl (fun _ => nI 0))), (q4, .inr (5, [.int (nI 25088), .int (nI 5)])), (q5, .inr (1, [.ref q6, .ref q7])), (q6, .inl (cT.2.1, 480, .inr (.inl (fun _ => 0)))), (q7, .inl (cT.2.1, 480, .inr (.inl (fun _ => 0))))]) H := hP
  have hD : va_D A (w0 ++ [(a, .inr (6, [.ref q1, .ref q2, .ref q4, .ref q5, .null, .null, .int 0, .int 0, .int 0])), (q1, .inl (cT.2.2, 8, .inr (.inr (.inr (.inr (fun _ => none)))))), (q2, .inr (2, [.ref q3])), (q3, .inl (cT.1, 28, .inl (fun _ => nI 0))), (q4, .inr (5, [.int (nI 25088), .int (nI 5)])), (q5, .inr (1, [.ref q6, .ref q7])), (q6, .inl (cT.2.1, 480, .inr (.inl (fun _ => 0)))), (q7, .inl (cT.2.1, 480, .inr (.inl (fun _ => 0))))]) := hD
  refine lv_aload_n S.1 S.2.1 dX8_init_46 rfl (lv_at hl 0 rfl) ?_
  refine n_new (C := RX0) (T := TX0) (N := 0) S 0 in_X8_init_X0 tyX0 tyX0_ok ⟨k_X8_init_20, k_X8_init_21, k_X8_init_22⟩ hK hP hD hS hA rfl [] (fun j hj => absurd hj (Nat.not_lt_zero j)) (by decide) dX8_init_47 (fun q8 H hP hD hS => ?_)
  refine lv_dup S.1 S.2.1 dX8_init_50 rfl ?_
  refine n_callI S (w_X0_init l D cT _ (w0 ++ [(a, .inr (6, [.ref q1, .ref q2, .ref q4, .ref q5, .null, .null, .int 0, .int 0, .int 0])), (q1, .inl (cT.2.2, 8, .inr (.inr (.inr (.inr (fun _ => none)))))), (q2, .inr (2, [.ref q3])), (q3, .inl (cT.1, 28, .inl (fun _ => nI 0))), (q4, .inr (5, [.int (nI 25088), .int (nI 5)])), (q5, .inr (1, [.ref q6, .ref q7])), (q6, .inl (cT.2.1, 480, .inr (.inl (fun _ => 0)))), (q7, .inl (cT.2.1, 480, .inr (.inl (fun _ => 0))))]) q8) gX8_init_X0_init_n38 rfl (by decide +kernel) ⟨k_X8_init_22, k_X8_init_23, rfl⟩ ⟨by decide +kernel, by decide +kernel, rfl⟩ ⟨rfl, rfl, by decide, by decide⟩ hP hK hD hS hA hl rfl rfl (Nat.le_of_ble_eq_true rfl) (by decide) dX8_init_51 (fun _ H locs _ hP hD hS => ?_)
  rw [List.append_assoc] at hP hD
  have hP : va_P D vwCl (w0 ++ [(a, .inr (6, [.ref q1, .ref q2, .ref q4, .ref q5, .null, .null, .int 0, .int 0, .int 0])), (q1, .inl (cT.2.2, 8, .inr (.inr (.inr (.inr (fun _ => none)))))), (q2, .inr (2, [.ref q3])), (q3, .inl (cT.1, 28, .inl (fun _ => nI 0))), (q4, .inr (5, [.int (nI 25088), .int (nI 5)])), (q5, .inr (1, [.ref q6, .ref q7])), (q6, .inl (cT.2.1, 480, .inr (.inl (fun _ => 0)))), (q7, .inl (cT.2.1, 480, .inr (.inl (fun _ => 0)))), (q8, .inr (0, []))]) H := hP
  have hD : va_D A (w0 ++ [(a, .inr (6, [.ref q1, .ref q2, .ref q4, .ref q5, .null, .null, .int 0, .int 0, .int 0])), (q1, .inl (cT.2.2, 8, .inr (.inr (.inr (.inr (fun _ => none)))))), (q2, .inr (2, [.ref q3])), (q3, .inl (cT.1, 28, .inl (fun _ => nI 0))), (q4, .inr (5, [.int (nI 25088), .int (nI 5)])), (q5, .inr (1, [.ref q6, .ref q7])), (q6, .inl (cT.2.1, 480, .inr (.inl (fun _ => 0)))), (q7, .inl (cT.2.1, 480, .inr (.inl (fun _ => 0)))), (q8, .inr (0, []))]) := hD
  refine n_putF (C := RX8) (T := TX8) (N := 9) (v := .ref q8) (ty := .object "CoverSheet$Counting") S 0 6 4 in_X8_init_X8 tyX8 tyX8_ok nmX8 hK hP hD hS rfl rfl (by decide) k_X8_init_24 rfl (hin rfl) rfl (by decide +kernel) rfl rfl (Nat.le_of_ble_eq_true rfl) dX8_init_54 (fun H locs hP hD hS => ?_)
  have hP : va_P D vwCl (w0 ++ [(a, .inr (6, [.ref q1, .ref q2, .ref q4, .ref q5, .ref q8, .null, .int 0, .int 0, .int 0])), (q1, .inl (cT.2.2, 8, .inr (.inr (.inr (.inr (fun _ => none)))))), (q2, .inr (2, [.ref q3])), (q3, .inl (cT.1, 28, .inl (fun _ => nI 0))), (q4, .inr (5, [.int (nI 25088), .int (nI 5)])), (q5, .inr (1, [.ref q6, .ref q7])), (q6, .inl (cT.2.1, 480, .inr (.inl (fun _ => 0)))), (q7, .inl (cT.2.1, 480, .inr (.inl (fun _ => 0)))), (q8, .inr (0, []))]) H := hP
  have hD : va_D A (w0 ++ [(a, .inr (6, [.ref q1, .ref q2, .ref q4, .ref q5, .ref q8, .null, .int 0, .int 0, .int 0])), (q1, .inl (cT.2.2, 8, .inr (.inr (.inr (.inr (fun _ => none)))))), (q2, .inr (2, [.ref q3])), (q3, .inl (cT.1, 28, .inl (fun _ => nI 0))), (q4, .inr (5, [.int (nI 25088), .int (nI 5)])), (q5, .inr (1, [.ref q6, .ref q7])), (q6, .inl (cT.2.1, 480, .inr (.inl (fun _ => 0)))), (q7, .inl (cT.2.1, 480, .inr (.inl (fun _ => 0)))), (q8, .inr (0, []))]) := hD
  refine lv_aload_n S.1 S.2.1 dX8_init_57 rfl (lv_at hl 0 rfl) ?_
  refine n_new (C := RX5) (T := TX5) (N := 1) S 4 in_X8_init_X5 tyX5 tyX5_ok ⟨k_X8_init_25, k_X8_init_26, k_X8_init_27⟩ hK hP hD hS hA rfl [.null] (fun j hj => match j, hj with | 0, _ => rfl | n + 1, h => absurd h (by omega)) (by decide) dX8_init_58 (fun q9 H hP hD hS => ?_)
  refine lv_dup S.1 S.2.1 dX8_init_61 rfl ?_
  refine n_callI S (w_X5_init l D cT _ (w0 ++ [(a, .inr (6, [.ref q1, .ref q2, .ref q4, .ref q5, .ref q8, .null, .int 0, .int 0, .int 0])), (q1, .inl (cT.2.2, 8, .inr (.inr (.inr (.inr (fun _ => none)))))), (q2, .inr (2, [.ref q3])), (q3, .inl (cT.1, 28, .inl (fun _ => nI 0))), (q4, .inr (5, [.int (nI 25088), .int (nI 5)])), (q5, .inr (1, [.ref q6, .ref q7])), (q6, .inl (cT.2.1, 480, .inr (.inl (fun _ => 0)))), (q7, .inl (cT.2.1, 480, .inr (.inl (fun _ => 0)))), (q8, .inr (0, []))]) q9) gX8_init_X5_init_n45 rfl (by decide +kernel) ⟨k_X8_init_27, k_X8_init_28, rfl⟩ ⟨by decide +kernel, by decide +kernel, rfl⟩ ⟨rfl, rfl, by decide, by decide⟩ hP hK hD hS hA hl rfl rfl (Nat.le_of_ble_eq_true rfl) (by decide) dX8_init_62 (fun q10 H locs _ hP hD hS => ?_)
  rw [List.append_assoc] at hP hD
  have hP : va_P D vwCl (w0 ++ [(a, .inr (6, [.ref q1, .ref q2, .ref q4, .ref q5, .ref q8, .null, .int 0, .int 0, .int 0])), (q1, .inl (cT.2.2, 8, .inr (.inr (.inr (.inr (fun _ => none)))))), (q2, .inr (2, [.ref q3])), (q3, .inl (cT.1, 28, .inl (fun _ => nI 0))), (q4, .inr (5, [.int (nI 25088), .int (nI 5)])), (q5, .inr (1, [.ref q6, .ref q7])), (q6, .inl (cT.2.1, 480, .inr (.inl (fun _ => 0)))), (q7, .inl (cT.2.1, 480, .inr (.inl (fun _ => 0)))), (q8, .inr (0, [])), (q9, .inr (4, [.ref q10])), (q10, .inl (cT.2.1, 28, .inr (.inl (fun _ => 0))))]) H := hP
  have hD : va_D A (w0 ++ [(a, .inr (6, [.ref q1, .ref q2, .ref q4, .ref q5, .ref q8, .null, .int 0, .int 0, .int 0])), (q1, .inl (cT.2.2, 8, .inr (.inr (.inr (.inr (fun _ => none)))))), (q2, .inr (2, [.ref q3])), (q3, .inl (cT.1, 28, .inl (fun _ => nI 0))), (q4, .inr (5, [.int (nI 25088), .int (nI 5)])), (q5, .inr (1, [.ref q6, .ref q7])), (q6, .inl (cT.2.1, 480, .inr (.inl (fun _ => 0)))), (q7, .inl (cT.2.1, 480, .inr (.inl (fun _ => 0)))), (q8, .inr (0, [])), (q9, .inr (4, [.ref q10])), (q10, .inl (cT.2.1, 28, .inr (.inl (fun _ => 0))))]) := hD
  refine n_putF (C := RX8) (T := TX8) (N := 9) (v := .ref q9) (ty := .object "CoverSheet$Pricing") S 0 6 5 in_X8_init_X8 tyX8 tyX8_ok nmX8 hK hP hD hS rfl rfl (by decide) k_X8_init_29 rfl (hin rfl) rfl (by decide +kernel) rfl rfl (Nat.le_of_ble_eq_true rfl) dX8_init_65 (fun H locs hP hD hS => ?_)
  have hP : va_P D vwCl (w0 ++ [(a, .inr (6, [.ref q1, .ref q2, .ref q4, .ref q5, .ref q8, .ref q9, .int 0, .int 0, .int 0])), (q1, .inl (cT.2.2, 8, .inr (.inr (.inr (.inr (fun _ => none)))))), (q2, .inr (2, [.ref q3])), (q3, .inl (cT.1, 28, .inl (fun _ => nI 0))), (q4, .inr (5, [.int (nI 25088), .int (nI 5)])), (q5, .inr (1, [.ref q6, .ref q7])), (q6, .inl (cT.2.1, 480, .inr (.inl (fun _ => 0)))), (q7, .inl (cT.2.1, 480, .inr (.inl (fun _ => 0)))), (q8, .inr (0, [])), (q9, .inr (4, [.ref q10])), (q10, .inl (cT.2.1, 28, .inr (.inl (fun _ => 0))))]) H := hP
  have hD : va_D A (w0 ++ [(a, .inr (6, [.ref q1, .ref q2, .ref q4, .ref q5, .ref q8, .ref q9, .int 0, .int 0, .int 0])), (q1, .inl (cT.2.2, 8, .inr (.inr (.inr (.inr (fun _ => none)))))), (q2, .inr (2, [.ref q3])), (q3, .inl (cT.1, 28, .inl (fun _ => nI 0))), (q4, .inr (5, [.int (nI 25088), .int (nI 5)])), (q5, .inr (1, [.ref q6, .ref q7])), (q6, .inl (cT.2.1, 480, .inr (.inl (fun _ => 0)))), (q7, .inl (cT.2.1, 480, .inr (.inl (fun _ => 0)))), (q8, .inr (0, [])), (q9, .inr (4, [.ref q10])), (q10, .inl (cT.2.1, 28, .inr (.inl (fun _ => 0))))]) := hD
  rw [← tm_0 (pa := fun _ => 0)] at hP hD
  have hP : va_P D vwCl (w0 ++ cX cT (fun k => [a, q1, q2, q3, q4, q5, q6, q7, q8, q9, q10].getD k 0) q6 q7 0 0 0 25088 5 (fun _ => 0) (fun _ => 0) (fun _ => 0) (fun _ => 0) (fun _ => 0)) H := hP
  have hD : va_D A (w0 ++ cX cT (fun k => [a, q1, q2, q3, q4, q5, q6, q7, q8, q9, q10].getD k 0) q6 q7 0 0 0 25088 5 (fun _ => 0) (fun _ => 0) (fun _ => 0) (fun _ => 0) (fun _ => 0)) := hD
  exact wr_vret S ((fun k => [a, q1, q2, q3, q4, q5, q6, q7, q8, q9, q10].getD k 0), q6, q7) hr hlocks rfl hP hD hS dX8_init_68
theorem pd_X8_addPerson : yX8_addPerson.cls = RX8 ∧ yX8_addPerson.cls ≠ "java/lang/invoke/MethodHandle" ∧ yX8_addPerson.cls ≠ "java/lang/invoke/VarHandle" ∧ (parseMethodDescriptor yX8_addPerson.desc).map (fun d => d.parameters.length) = some 2 := by decide +kernel
theorem tm_up {n q : Nat} {pa : Nat → Nat} : va_up (tm n pa) n (some q) = tm (n + 1) (va_up pa n q) := by
  funext k
  show (if k = n then some q else tm n pa k) = _
  by_cases h : k = n
  · subst h; rw [if_pos rfl, tm_in (Nat.lt_succ_self k), vu_s]
  · rw [if_neg h]
    by_cases h2 : k < n
    · rw [tm_in h2, tm_in (by omega), vu_n h]
    · rw [tm_out (by omega), tm_out (by omega)]
theorem pool_snoc {n q v m : Nat} {pa sk mo wk fx wi la da we : Nat → Nat} (h0 : wk n = 0 ∧ wi n = 0 ∧ la n = 0 ∧ da n = 0 ∧ we n = 0) : pool n pa (per sk mo wk fx wi la da we) ++ [(q, .inr (3, [.int (nI v), .int (nI m), .int 0, .int 0, .int 0, .int 0, .int 0, .int 0]))] = pool (n + 1) (va_up pa n q) (per (va_up sk n v) (va_up mo n m) wk (va_up fx n 0) wi la da we) := by
  show (List.range n).map _ ++ _ = (List.range (n + 1)).map _
  rw [List.range_succ, List.map_append]
  refine congr (congrArg _ (List.map_congr_left (fun k hk => ?_))) ?_
  · have hk := List.mem_range.mp hk
    simp only [per, vu_n (show k ≠ n by omega)]
  · simp only [List.map_cons, List.map_nil, per, vu_s, h0.1, h0.2.1, h0.2.2.1, h0.2.2.2.1, h0.2.2.2.2]
    rfl
theorem sk_and : ∀ v, v < 15 → v % 2 = 0 → nI v &&& (-15) = nI 0 := by decide +kernel
theorem apx_team : Cond.fieldLink RX8 11 "CoverSheet" "team" "[LCoverSheet$Person;" ∈ wsX8_addPerson := by decide +kernel
theorem apx_size : Cond.fieldLink RX8 59 "CoverSheet" "teamSize" "I" ∈ wsX8_addPerson := by decide +kernel
theorem apx_inX4 : ∀ w ∈ u_ws RX4 TX4 8, w ∈ wsX8_addPerson := by decide +kernel
theorem apx_new : Cond.classLink RX8 9 RX4 ∈ wsX8_addPerson := by decide +kernel
theorem apx_inst : Cond.instantiable RX4 8 ∈ wsX8_addPerson := by decide +kernel
theorem apx_init : Cond.initialized RX4 ∈ wsX8_addPerson := by decide +kernel
theorem apx_im : Cond.instanceMethod yX4_init ∈ wsX8_addPerson := by decide +kernel
theorem w_X8_addPerson_0 : Cond.fieldLink RX8 59 "CoverSheet" "teamSize" "I" ∈ wsX8_addPerson := by decide +kernel
theorem w_X8_addPerson_1 : Cond.fieldLink RX8 11 "CoverSheet" "team" "[LCoverSheet$Person;" ∈ wsX8_addPerson := by decide +kernel
theorem in_X8_addPerson_X8 : ∀ w ∈ u_ws RX8 TX8 9, w ∈ wsX8_addPerson := by decide +kernel
set_option maxHeartbeats 4000000 in
set_option maxRecDepth 100000 in
theorem w_X8_addPerson (l : Launch) (D : va_G) (cT : ClassId × ClassId × ClassId) (sz : Nat) (c pa : Nat → Nat) (bd a6 a7 n ro cl fb rn : Nat) (nd sk mo wk fx wi la da we : Nat → Nat) (V V2 PR : Nat → Int64) (v m : Nat) (hwf : wfC n bd fb rn nd sk mo wk fx wi la da we) (hv : 2 ≤ v ∧ v ≤ 14 ∧ v % 2 = 0) (hm : m ≤ 7) (hn8 : n < 8) (hn0 : wk n = 0 ∧ wi n = 0 ∧ la n = 0 ∧ da n = 0 ∧ we n = 0) : Met l yX8_addPerson wsX8_addPerson ({ frames := 2, cells := 1, slots := 8, locals := 34 } : Room) (va_Pc [.ref (c 0), .int (nI v), .int (nI m)] (wr_R D (TY cT) (cX cT c a6 a7 n ro cl fb rn nd V V2 PR pa ++ pool n pa (per sk mo wk fx wi la da we)) sz)) (wQi (fun (r_ : Int32) (_ : Nat) => r_ = nI n) D (fun (q : Nat) => cX cT c a6 a7 (n + 1) ro cl fb rn nd V V2 PR (va_up pa n q) ++ pool (n + 1) (va_up pa n q) (per (va_up sk n v) (va_up mo n m) wk (va_up fx n 0) wi la da we)) (va_A (cX cT c a6 a7 n ro cl fb rn nd V V2 PR pa ++ pool n pa (per sk mo wk fx wi la da we)) sz)) 1 8 (va_A (cX cT c a6 a7 n ro cl fb rn nd V V2 PR pa ++ pool n pa (per sk mo wk fx wi la da we)) sz) := by
  refine wr_start (cc := cX8_addPerson) (maxL := 3) (ret := (some .int)) RX8 ⟨by decide +kernel, rfl⟩ rfl (Nat.le_of_ble_eq_true rfl) ?_
  intro p0 e0 s0 m0 a0 b0 t0 c0 S hr hlocks hin hP hK hA hD hS ls hl
  generalize va_A (cX cT c a6 a7 n ro cl fb rn nd V V2 PR pa ++ pool n pa (per sk mo wk fx wi la da we)) sz = A at hA hD hS ⊢
  have hl : lv_has ls 3 [(0, .ref (c 0)), (1, .int (nI v)), (2, .int (nI m))] := hl
  obtain ⟨hn, hcl, hfb, hrn, hnd, hper⟩ := id hwf
  refine lv_iload_n S.1 S.2.1 dX8_addPerson_0 rfl (lv_at hl 1 rfl) ?_
  refine n_zle S (tgt := 11) (by omega) dX8_addPerson_1 (by decide) (fun c1 => ?_) (fun c1 => ?_)
  · exact absurd c1 (by omega)
  refine lv_iload_n S.1 S.2.1 dX8_addPerson_4 rfl (lv_at hl 1 rfl) ?_
  refine lv_bipush (v := (-15)) S.1 S.2.1 dX8_addPerson_5 (by decide) ?_
  refine lv_iand S.1 S.2.1 dX8_addPerson_7 ?_
  refine n_top (show ((nI v) &&& (-15)) = (nI 0) from sk_and v (by omega) hv.2.2) ?_
  refine n_zeq S (tgt := 21) (by decide) dX8_addPerson_8 (by decide) (fun _ => ?_) (fun q => absurd q (by decide))
  refine lv_iload_n S.1 S.2.1 dX8_addPerson_21 rfl (lv_at hl 2 rfl) ?_
  refine n_zlt S (tgt := 31) (by omega) dX8_addPerson_22 (by decide) ?_
  refine lv_iload_n S.1 S.2.1 dX8_addPerson_25 rfl (lv_at hl 2 rfl) ?_
  refine lv_bipush (v := (nI 7)) S.1 S.2.1 dX8_addPerson_26 (by decide) ?_
  refine n_cle S (tgt := 41) (by omega) dX8_addPerson_28 (by decide) (fun c28 => ?_) (fun c28 => ?_)
  rotate_left
  · exact absurd c28 (by omega)
  refine lv_aload_n S.1 S.2.1 dX8_addPerson_41 rfl (lv_at hl 0 rfl) ?_
  refine g_get (C := RX8) (T := TX8) (N := 9) (v := .int (nI n)) S 0 6 6 in_X8_addPerson_X8 hK hP rfl rfl (by decide) w_X8_addPerson_0 rfl dX8_addPerson_42 ?_
  refine n_zlt S (tgt := 60) (by omega) dX8_addPerson_45 (by decide) ?_
  refine lv_aload_n S.1 S.2.1 dX8_addPerson_48 rfl (lv_at hl 0 rfl) ?_
  refine g_get (C := RX8) (T := TX8) (N := 9) (v := .int (nI n)) S 0 6 6 in_X8_addPerson_X8 hK hP rfl rfl (by decide) w_X8_addPerson_0 rfl dX8_addPerson_49 ?_
  refine lv_aload_n S.1 S.2.1 dX8_addPerson_52 rfl (lv_at hl 0 rfl) ?_
  refine g_get (C := RX8) (T := TX8) (N := 9) (v := .ref (c 1)) S 0 6 0 in_X8_addPerson_X8 hK hP rfl rfl (by decide) w_X8_addPerson_1 rfl dX8_addPerson_53 ?_
  refine g_alen S 1 2 hK hP rfl rfl dX8_addPerson_56 ?_
  refine n_clt S (tgt := 70) (by omega) dX8_addPerson_57 (by decide) (fun c57 => ?_) (fun c57 => ?_)
  rotate_left
  · exact absurd c57 (by omega)
  refine lv_aload_n S.1 S.2.1 dX8_addPerson_70 rfl (lv_at hl 0 rfl) ?_
  refine g_get (C := RX8) (T := TX8) (N := 9) (v := .ref (c 1)) S 0 6 0 in_X8_addPerson_X8 hK hP rfl rfl (by decide) apx_team rfl dX8_addPerson_71 ?_
  refine lv_aload_n S.1 S.2.1 dX8_addPerson_74 rfl (lv_at hl 0 rfl) ?_
  refine g_get (C := RX8) (T := TX8) (N := 9) (v := .int (nI n)) S 0 6 6 in_X8_addPerson_X8 hK hP rfl rfl (by decide) apx_size rfl dX8_addPerson_75 ?_
  refine n_new (C := RX4) (T := TX4) (N := 8) S 3 apx_inX4 tyX4 tyX4_ok ⟨apx_new, apx_inst, apx_init⟩ hK hP hD hS hA rfl [.int 0, .int 0, .int 0, .int 0, .int 0, .int 0, .int 0, .int 0] (fun j hj => match j, hj with | 0, _ => rfl | 1, _ => rfl | 2, _ => rfl | 3, _ => rfl | 4, _ => rfl | 5, _ => rfl | 6, _ => rfl | 7, _ => rfl | n + 8, h => absurd h (by omega)) (by decide) dX8_addPerson_78 (fun q H hP hD hS => ?_)
  refine lv_dup S.1 S.2.1 dX8_addPerson_81 rfl ?_
  refine lv_iload_n S.1 S.2.1 dX8_addPerson_82 rfl (lv_at hl 1 rfl) ?_
  refine lv_iload_n S.1 S.2.1 dX8_addPerson_83 rfl (lv_at hl 2 rfl) ?_
  refine n_callI (As := [.int (nI v), .int (nI m)]) (rest := [.ref q, .int (nI n), .ref (c 1)]) S (w_X4_init l D cT _ (cX cT c a6 a7 n ro cl fb rn nd V V2 PR pa ++ pool n pa (per sk mo wk fx wi la da we)) q v m) gX8_addPerson_X4_init_n68 rfl (by decide +kernel) ⟨apx_init, apx_im, rfl⟩ ⟨by decide +kernel, by decide +kernel, rfl⟩ ⟨rfl, rfl, by decide, by decide⟩ hP hK hD hS hA hl rfl rfl (Nat.le_of_ble_eq_true rfl) (by decide) dX8_addPerson_84 (fun _ H locs _ hP hD hS => ?_)
  have ew : (cX cT c a6 a7 n ro cl fb rn nd V V2 PR pa ++ pool n pa (per sk mo wk fx wi la da we)) ++ [(q, .inr (3, [.int (nI v), .int (nI m), .int 0, .int 0, .int 0, .int 0, .int 0, .int 0]))] = cX cT c a6 a7 n ro cl fb rn nd V V2 PR pa ++ pool (n + 1) (va_up pa n q) (per (va_up sk n v) (va_up mo n m) wk (va_up fx n 0) wi la da we) := by rw [List.append_assoc, pool_snoc hn0]
  rw [ew] at hP hD
  have hat : (cX cT c a6 a7 n ro cl fb rn nd V V2 PR pa ++ pool (n + 1) (va_up pa n q) (per (va_up sk n v) (va_up mo n m) wk (va_up fx n 0) wi la da we))[11 + n]? = some (q, .inr (3, [.int (nI (va_up sk n v n)), .int (nI (va_up mo n m n)), .int (nI (wk n)), .int (nI (va_up fx n 0 n)), .int (nI (wi n)), .int (nI (la n)), .int (nI (da n)), .int (nI (we n))])) := (pool_at (X := cX cT c a6 a7 n ro cl fb rn nd V V2 PR pa) (n := n + 1) (k := n) (pa := (va_up pa n q)) (P := per (va_up sk n v) (va_up mo n m) wk (va_up fx n 0) wi la da we) (by omega)).trans (by rw [vu_s])
  refine w_aast (ci := 0) S 1 (11 + n) hK hP hD hS rfl hat ⟨by omega, by omega⟩ dX8_addPerson_87 (fun H locs hP hD hS => ?_)
  rw [tm_up] at hP hD
  have hP : va_P D vwCl ([(c 0, .inr (6, [.ref (c 1), .ref (c 2), .ref (c 4), .ref (c 5), .ref (c 8), .ref (c 9), .int (nI n), .int (nI ro), .int (nI cl)])), (c 1, .inl (cT.2.2, 8, .inr (.inr (.inr (.inr (tm (n + 1) (va_up pa n q))))))), (c 2, .inr (2, [.ref (c 3)])), (c 3, .inl (cT.1, 28, .inl (fun k => nI (nd k)))), (c 4, .inr (5, [.int (nI fb), .int (nI rn)])), (c 5, .inr (1, [.ref a6, .ref a7])), (a6, .inl (cT.2.1, 480, .inr (.inl V))), (a7, .inl (cT.2.1, 480, .inr (.inl V2))), (c 8, .inr (0, [])), (c 9, .inr (4, [.ref (c 10)])), (c 10, .inl (cT.2.1, 28, .inr (.inl PR)))] ++ pool (n + 1) (va_up pa n q) (per (va_up sk n v) (va_up mo n m) wk (va_up fx n 0) wi la da we)) H := hP
  have hD : va_D A ([(c 0, .inr (6, [.ref (c 1), .ref (c 2), .ref (c 4), .ref (c 5), .ref (c 8), .ref (c 9), .int (nI n), .int (nI ro), .int (nI cl)])), (c 1, .inl (cT.2.2, 8, .inr (.inr (.inr (.inr (tm (n + 1) (va_up pa n q))))))), (c 2, .inr (2, [.ref (c 3)])), (c 3, .inl (cT.1, 28, .inl (fun k => nI (nd k)))), (c 4, .inr (5, [.int (nI fb), .int (nI rn)])), (c 5, .inr (1, [.ref a6, .ref a7])), (a6, .inl (cT.2.1, 480, .inr (.inl V))), (a7, .inl (cT.2.1, 480, .inr (.inl V2))), (c 8, .inr (0, [])), (c 9, .inr (4, [.ref (c 10)])), (c 10, .inl (cT.2.1, 28, .inr (.inl PR)))] ++ pool (n + 1) (va_up pa n q) (per (va_up sk n v) (va_up mo n m) wk (va_up fx n 0) wi la da we)) := hD
  refine lv_aload_n S.1 S.2.1 dX8_addPerson_88 rfl (lv_at hl 0 rfl) ?_
  refine lv_dup S.1 S.2.1 dX8_addPerson_89 rfl ?_
  refine g_get (C := RX8) (T := TX8) (N := 9) (v := .int (nI n)) S 0 6 6 in_X8_addPerson_X8 hK hP rfl rfl (by decide) apx_size rfl dX8_addPerson_90 ?_
  refine lv_dup_x1 S.1 S.2.1 dX8_addPerson_93 rfl rfl ?_
  refine lv_iconst (v := (nI 1)) S.1 S.2.1 dX8_addPerson_94 (by decide) ?_
  refine n_add S dX8_addPerson_95 ?_
  refine w_put (C := RX8) (T := TX8) (N := 9) (v := .int (nI (n + 1))) (ty := .int) S 0 6 6 in_X8_addPerson_X8 tyX8 tyX8_ok nmX8 hK hP hD hS rfl rfl (by decide) apx_size rfl (by decide +kernel) rfl rfl (Nat.le_of_ble_eq_true rfl) dX8_addPerson_96 (fun H locs hP hD hS => ?_)
  have hP : va_P D vwCl (cX cT c a6 a7 (n + 1) ro cl fb rn nd V V2 PR (va_up pa n q) ++ pool (n + 1) (va_up pa n q) (per (va_up sk n v) (va_up mo n m) wk (va_up fx n 0) wi la da we)) H := hP
  have hD : va_D A (cX cT c a6 a7 (n + 1) ro cl fb rn nd V V2 PR (va_up pa n q) ++ pool (n + 1) (va_up pa n q) (per (va_up sk n v) (va_up mo n m) wk (va_up fx n 0) wi la da we)) := hD
  exact wr_iret S q hr rfl hlocks rfl hP hD hS dX8_addPerson_99

