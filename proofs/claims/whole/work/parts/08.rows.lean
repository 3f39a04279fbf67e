/-! rows of this claim's own: whole numbers as nI of naturals, methods that only read -/
theorem sx_tn (n : Nat) : (nI n).toBitVec = BitVec.ofNat 32 n := rfl
theorem sx_inj {x y : Int32} (h : x.toBitVec = y.toBitVec) : x = y := Int32.toBitVec_inj.mp h
theorem sx_sub {a b : Nat} (h : b ≤ a) : nI a - nI b = nI (a - b) := pk_sub h
theorem sx_mul (a b : Nat) : nI a * nI b = nI (a * b) := pk_mul a b
theorem sx_and (a b : Nat) : nI a &&& nI b = nI (a &&& b) := by
  apply sx_inj
  show BitVec.ofNat 32 a &&& BitVec.ofNat 32 b = BitVec.ofNat 32 (a &&& b)
  rw [BitVec.ofNat_and]
theorem sx_or (a b : Nat) : nI a ||| nI b = nI (a ||| b) := by
  apply sx_inj
  show BitVec.ofNat 32 a ||| BitVec.ofNat 32 b = BitVec.ofNat 32 (a ||| b)
  rw [BitVec.ofNat_or]
theorem sx_sm : ∀ k, k < 32 → ((nI k &&& 31).toBitVec.smod 32).toNat = k := by decide +kernel
theorem sx_shl {a k : Nat} (hk : k < 32) : nI a <<< (nI k &&& 31) = nI (a * 2 ^ k) := by
  apply sx_inj
  apply BitVec.eq_of_toNat_eq
  rw [pk_shl _ _ k (sx_sm k hk), sx_tn, sx_tn, BitVec.toNat_ofNat, BitVec.toNat_ofNat, Nat.mod_mul_mod]
theorem sx_shr {a k : Nat} (hk : k < 32) (ha : a < 2 ^ 31) : nI a >>> (nI k &&& 31) = nI (a / 2 ^ k) := pk_shrN ha _ k (sx_sm k hk)
theorem sx_ud (g : Nat → Nat) (i v : Nat) : upd (fun k => nI (g k)) i (nI v) = (fun k => nI (va_up g i v k)) := by
  funext k
  show (if k = i then nI v else nI (g k)) = nI (if k = i then v else g k)
  split <;> rfl
theorem sx_bt (b : Bool) : narrow .boolean (.int (nI b.toNat)) = .int (nI b.toNat) := by cases b <;> rfl
/-- the words on what a nest mate may reach -/
def nw_all : List Cond := [.methodLinkNest "CoverSheet" 17 ⟨"CoverSheet$Needs", "<init>", "()V"⟩ "CoverSheet", .methodLinkNest "CoverSheet" 24 ⟨"CoverSheet$Rules", "<init>", "()V"⟩ "CoverSheet", .fieldLinkNest "CoverSheet" 101 "CoverSheet$Rules" "longestRun" "I" "CoverSheet", .methodLinkNest "CoverSheet" 31 ⟨"CoverSheet$DayTable", "<init>", "()V"⟩ "CoverSheet", .methodLinkNest "CoverSheet" 38 ⟨"CoverSheet$Counting", "<init>", "()V"⟩ "CoverSheet", .methodLinkNest "CoverSheet$Counting" 1 ⟨"CoverSheet$Measure", "<init>", "()V"⟩ "CoverSheet", .methodLinkNest "CoverSheet" 45 ⟨"CoverSheet$Pricing", "<init>", "()V"⟩ "CoverSheet", .methodLinkNest "CoverSheet$Pricing" 9 ⟨"CoverSheet$Measure", "<init>", "()V"⟩ "CoverSheet", .methodLinkNest "CoverSheet" 68 ⟨"CoverSheet$Person", "<init>", "(II)V"⟩ "CoverSheet", .fieldLinkNest "CoverSheet" 204 "CoverSheet$Person" "skills" "I" "CoverSheet", .fieldLinkNest "CoverSheet$DayTable" 60 "CoverSheet$Person" "most" "I" "CoverSheet", .fieldLinkNest "CoverSheet" 128 "CoverSheet$Person" "week" "I" "CoverSheet", .fieldLinkNest "CoverSheet$DayTable" 42 "CoverSheet$Person" "lastEntry" "I" "CoverSheet", .fieldLinkNest "CoverSheet$DayTable" 30 "CoverSheet$Person" "daysInARow" "I" "CoverSheet", .fieldLinkNest "CoverSheet" 186 "CoverSheet$Person" "daysInARow" "I" "CoverSheet", .fieldLinkNest "CoverSheet$Pricing" 29 "CoverSheet$Person" "weekendShifts" "I" "CoverSheet", .fieldLinkNest "CoverSheet" 183 "CoverSheet$Person" "weekendShifts" "I" "CoverSheet"]
theorem nw_tab : ∀ w ∈ nw_all, w.onTables = true := List.forall_mem_cons.mpr ⟨rfl, List.forall_mem_cons.mpr ⟨rfl, List.forall_mem_cons.mpr ⟨rfl, List.forall_mem_cons.mpr ⟨rfl, List.forall_mem_cons.mpr ⟨rfl, List.forall_mem_cons.mpr ⟨rfl, List.forall_mem_cons.mpr ⟨rfl, List.forall_mem_cons.mpr ⟨rfl, List.forall_mem_cons.mpr ⟨rfl, List.forall_mem_cons.mpr ⟨rfl, List.forall_mem_cons.mpr ⟨rfl, List.forall_mem_cons.mpr ⟨rfl, List.forall_mem_cons.mpr ⟨rfl, List.forall_mem_cons.mpr ⟨rfl, List.forall_mem_cons.mpr ⟨rfl, List.forall_mem_cons.mpr ⟨rfl, List.forall_mem_cons.mpr ⟨rfl, fun _ h => absurd h List.not_mem_nil⟩⟩⟩⟩⟩⟩⟩⟩⟩⟩⟩⟩⟩⟩⟩⟩⟩
theorem nw_in : ∀ w ∈ nw_all, w ∈ tables_1 := by decide +kernel
theorem nw_warm {s U : State} (hW : s.WarmedH U.vm) (h : ∀ w ∈ nw_all, va_Nw w s) : ∀ w ∈ nw_all, va_Nw w U := List.forall_mem_cons.mpr ⟨va_Nw.warmM hW (h _ (List.mem_of_getElem? (i := 0) rfl)), List.forall_mem_cons.mpr ⟨va_Nw.warmM hW (h _ (List.mem_of_getElem? (i := 1) rfl)), List.forall_mem_cons.mpr ⟨va_Nw.warmF hW (h _ (List.mem_of_getElem? (i := 2) rfl)), List.forall_mem_cons.mpr ⟨va_Nw.warmM hW (h _ (List.mem_of_getElem? (i := 3) rfl)), List.forall_mem_cons.mpr ⟨va_Nw.warmM hW (h _ (List.mem_of_getElem? (i := 4) rfl)), List.forall_mem_cons.mpr ⟨va_Nw.warmM hW (h _ (List.mem_of_getElem? (i := 5) rfl)), List.forall_mem_cons.mpr ⟨va_Nw.warmM hW (h _ (List.mem_of_getElem? (i := 6) rfl)), List.forall_mem_cons.mpr ⟨va_Nw.warmM hW (h _ (List.mem_of_getElem? (i := 7) rfl)), List.forall_mem_cons.mpr ⟨va_Nw.warmM hW (h _ (List.mem_of_getElem? (i := 8) rfl)), List.forall_mem_cons.mpr ⟨va_Nw.warmF hW (h _ (List.mem_of_getElem? (i := 9) rfl)), List.forall_mem_cons.mpr ⟨va_Nw.warmF hW (h _ (List.mem_of_getElem? (i := 10) rfl)), List.forall_mem_cons.mpr ⟨va_Nw.warmF hW (h _ (List.mem_of_getElem? (i := 11) rfl)), List.forall_mem_cons.mpr ⟨va_Nw.warmF hW (h _ (List.mem_of_getElem? (i := 12) rfl)), List.forall_mem_cons.mpr ⟨va_Nw.warmF hW (h _ (List.mem_of_getElem? (i := 13) rfl)), List.forall_mem_cons.mpr ⟨va_Nw.warmF hW (h _ (List.mem_of_getElem? (i := 14) rfl)), List.forall_mem_cons.mpr ⟨va_Nw.warmF hW (h _ (List.mem_of_getElem? (i := 15) rfl)), List.forall_mem_cons.mpr ⟨va_Nw.warmF hW (h _ (List.mem_of_getElem? (i := 16) rfl)), fun _ h => absurd h List.not_mem_nil⟩⟩⟩⟩⟩⟩⟩⟩⟩⟩⟩⟩⟩⟩⟩⟩⟩
/-- the classes as they are known, the arrays' classes, the nest's words -/
def KN (D : va_G) (tys : List (ClassId × FieldType)) (U : State) : Prop := va_K D vwCl tys U ∧ ∀ w ∈ nw_all, va_Nw w U
theorem KN.warm {D : va_G} {tys : List (ClassId × FieldType)} {s U : State} (hW : s.WarmedH U.vm) (h : KN D tys s) : KN D tys U := ⟨va_K.moved hW.alike h.1, nw_warm hW h.2⟩
/-- what a method that reads needs of the machine: cells and classes -/
abbrev sx_R (D : va_G) (tys : List (ClassId × FieldType)) (ws : va_W) : State → Prop := fun U => va_P D vwCl ws U.heap ∧ KN D tys U
theorem sx_blind (av : List Value) (D : va_G) (tys : List (ClassId × FieldType)) (ws : va_W) : FrameBlind (va_Pc av (sx_R D tys ws)) := fun a U g mk q => ⟨q.1, q.2.1, va_K.moved (u := U) (U := U.calling g mk a) (Vm.Alike.refl U.vm) q.2.2.1, fun w hw => va_Nw.same (u := U) (U := U.calling g mk a) (nw_tab w hw) rfl (q.2.2.2 w hw)⟩
section SXA
variable {p : Program} {l : Launch} {e : Env} {R : Room} {s : State} {m : MethodId} {args : Array Value} {below : List Frame} {meth : Method} {c : Code} {H : Heap} {locs : List Loc} {cells slots : Nat} {Q : State → Prop}
variable {cc : ByteArray} {nL : Nat} {Ts : List Cond} {own : String} {pc : Nat} {ls : Array Slot} {rest : List Value}
theorem n_add (S : CallFix p m c cc nL s args Ts own) {a b : Nat} (d : decode cc pc = .ok (.iadd, 1)) (k : W p l e R s m args below meth c H locs cells slots Q (F0 m (pc + 1) ls (.int (nI (a + b)) :: rest))) : W p l e R s m args below meth c H locs cells slots Q (F0 m pc ls (.int (nI b) :: .int (nI a) :: rest)) := lv_iadd S.1 S.2.1 d (by rw [nI_add]; exact k)
theorem n_sub (S : CallFix p m c cc nL s args Ts own) {a b : Nat} (h : b ≤ a) (d : decode cc pc = .ok (.isub, 1)) (k : W p l e R s m args below meth c H locs cells slots Q (F0 m (pc + 1) ls (.int (nI (a - b)) :: rest))) : W p l e R s m args below meth c H locs cells slots Q (F0 m pc ls (.int (nI b) :: .int (nI a) :: rest)) := lv_isub S.1 S.2.1 d (by rw [sx_sub h]; exact k)
theorem n_mul (S : CallFix p m c cc nL s args Ts own) {a b : Nat} (d : decode cc pc = .ok (.imul, 1)) (k : W p l e R s m args below meth c H locs cells slots Q (F0 m (pc + 1) ls (.int (nI (a * b)) :: rest))) : W p l e R s m args below meth c H locs cells slots Q (F0 m pc ls (.int (nI b) :: .int (nI a) :: rest)) := lv_imul S.1 S.2.1 d (by rw [sx_mul]; exact k)
theorem n_and (S : CallFix p m c cc nL s args Ts own) {a b : Nat} (d : decode cc pc = .ok (.iand, 1)) (k : W p l e R s m args below meth c H locs cells slots Q (F0 m (pc + 1) ls (.int (nI (a &&& b)) :: rest))) : W p l e R s m args below meth c H locs cells slots Q (F0 m pc ls (.int (nI b) :: .int (nI a) :: rest)) := lv_iand S.1 S.2.1 d (by rw [sx_and]; exact k)
theorem n_or (S : CallFix p m c cc nL s args Ts own) {a b : Nat} (d : decode cc pc = .ok (.ior, 1)) (k : W p l e R s m args below meth c H locs cells slots Q (F0 m (pc + 1) ls (.int (nI (a ||| b)) :: rest))) : W p l e R s m args below meth c H locs cells slots Q (F0 m pc ls (.int (nI b) :: .int (nI a) :: rest)) := lv_ior S.1 S.2.1 d (by rw [sx_or]; exact k)
theorem n_shl (S : CallFix p m c cc nL s args Ts own) {a b : Nat} (h : b < 32) (d : decode cc pc = .ok (.ishl, 1)) (k : W p l e R s m args below meth c H locs cells slots Q (F0 m (pc + 1) ls (.int (nI (a * 2 ^ b)) :: rest))) : W p l e R s m args below meth c H locs cells slots Q (F0 m pc ls (.int (nI b) :: .int (nI a) :: rest)) := lv_ishl S.1 S.2.1 d (by rw [sx_shl h]; exact k)
theorem n_shr (S : CallFix p m c cc nL s args Ts own) {a b : Nat} (h : b < 32 ∧ a < 2 ^ 31) (d : decode cc pc = .ok (.ishr, 1)) (k : W p l e R s m args below meth c H locs cells slots Q (F0 m (pc + 1) ls (.int (nI (a / 2 ^ b)) :: rest))) : W p l e R s m args below meth c H locs cells slots Q (F0 m pc ls (.int (nI b) :: .int (nI a) :: rest)) := lv_ishr S.1 S.2.1 d (by rw [sx_shr h.1 h.2]; exact k)
/-- a computed value is written otherwise -/
theorem n_top {x y : Int32} (h : x = y) (k : W p l e R s m args below meth c H locs cells slots Q (F0 m pc ls (.int y :: rest))) : W p l e R s m args below meth c H locs cells slots Q (F0 m pc ls (.int x :: rest)) := h ▸ k
theorem n_topl {x y : Int64} (h : x = y) (k : W p l e R s m args below meth c H locs cells slots Q (F0 m pc ls (.long y :: rest))) : W p l e R s m args below meth c H locs cells slots Q (F0 m pc ls (.long x :: rest)) := h ▸ k
theorem n_topv {x y : Value} (h : x = y) (k : W p l e R s m args below meth c H locs cells slots Q (F0 m pc ls (y :: rest))) : W p l e R s m args below meth c H locs cells slots Q (F0 m pc ls (x :: rest)) := h ▸ k
theorem n_ceq (S : CallFix p m c cc nL s args Ts own) {a b tgt : Nat} {off : Int} (h : a < 2 ^ 31 ∧ b < 2 ^ 31) (d : decode cc pc = .ok (.if_icmp .eq off, 3)) (ht : (pc : Int) + off = (tgt : Int)) (kt : a = b → W p l e R s m args below meth c H locs cells slots Q (F0 m tgt ls rest)) (kf : a ≠ b → W p l e R s m args below meth c H locs cells slots Q (F0 m (pc + 3) ls rest)) : W p l e R s m args below meth c H locs cells slots Q (F0 m pc ls (.int (nI b) :: .int (nI a) :: rest)) := by
  have e1 := nI_eq h.1 h.2
  have e2 := nI_leI h.1 h.2
  have e3 := nI_ltI h.1 h.2
  have e4 := nI_leI h.2 h.1
  have e5 := nI_ltI h.2 h.1
  refine lv_icmp_eq S.1 S.2.1 d ht (fun q => kt ?_) (fun q => kf ?_) <;> first | exact e1.mp q | exact fun z => q (e1.mpr z) | exact e2.mp q | exact e3.mp q | exact e4.mp q | exact e5.mp q | exact Nat.lt_of_not_le fun z => q (e2.mpr z) | exact Nat.lt_of_not_le fun z => q (e4.mpr z) | exact Nat.le_of_not_lt fun z => q (e3.mpr z) | exact Nat.le_of_not_lt fun z => q (e5.mpr z) | exact Decidable.byContradiction fun z => q fun y => z (e1.mp y)
theorem n_cne (S : CallFix p m c cc nL s args Ts own) {a b tgt : Nat} {off : Int} (h : a < 2 ^ 31 ∧ b < 2 ^ 31) (d : decode cc pc = .ok (.if_icmp .ne off, 3)) (ht : (pc : Int) + off = (tgt : Int)) (kt : a ≠ b → W p l e R s m args below meth c H locs cells slots Q (F0 m tgt ls rest)) (kf : a = b → W p l e R s m args below meth c H locs cells slots Q (F0 m (pc + 3) ls rest)) : W p l e R s m args below meth c H locs cells slots Q (F0 m pc ls (.int (nI b) :: .int (nI a) :: rest)) := by
  have e1 := nI_eq h.1 h.2
  have e2 := nI_leI h.1 h.2
  have e3 := nI_ltI h.1 h.2
  have e4 := nI_leI h.2 h.1
  have e5 := nI_ltI h.2 h.1
  refine lv_icmp_ne S.1 S.2.1 d ht (fun q => kt ?_) (fun q => kf ?_) <;> first | exact e1.mp q | exact fun z => q (e1.mpr z) | exact e2.mp q | exact e3.mp q | exact e4.mp q | exact e5.mp q | exact Nat.lt_of_not_le fun z => q (e2.mpr z) | exact Nat.lt_of_not_le fun z => q (e4.mpr z) | exact Nat.le_of_not_lt fun z => q (e3.mpr z) | exact Nat.le_of_not_lt fun z => q (e5.mpr z) | exact Decidable.byContradiction fun z => q fun y => z (e1.mp y)
theorem n_clt (S : CallFix p m c cc nL s args Ts own) {a b tgt : Nat} {off : Int} (h : a < 2 ^ 31 ∧ b < 2 ^ 31) (d : decode cc pc = .ok (.if_icmp .lt off, 3)) (ht : (pc : Int) + off = (tgt : Int)) (kt : a < b → W p l e R s m args below meth c H locs cells slots Q (F0 m tgt ls rest)) (kf : b ≤ a → W p l e R s m args below meth c H locs cells slots Q (F0 m (pc + 3) ls rest)) : W p l e R s m args below meth c H locs cells slots Q (F0 m pc ls (.int (nI b) :: .int (nI a) :: rest)) := by
  have e1 := nI_eq h.1 h.2
  have e2 := nI_leI h.1 h.2
  have e3 := nI_ltI h.1 h.2
  have e4 := nI_leI h.2 h.1
  have e5 := nI_ltI h.2 h.1
  refine lv_icmp_lt S.1 S.2.1 d ht (fun q => kt ?_) (fun q => kf ?_) <;> first | exact e1.mp q | exact fun z => q (e1.mpr z) | exact e2.mp q | exact e3.mp q | exact e4.mp q | exact e5.mp q | exact Nat.lt_of_not_le fun z => q (e2.mpr z) | exact Nat.lt_of_not_le fun z => q (e4.mpr z) | exact Nat.le_of_not_lt fun z => q (e3.mpr z) | exact Nat.le_of_not_lt fun z => q (e5.mpr z) | exact Decidable.byContradiction fun z => q fun y => z (e1.mp y)
theorem n_cge (S : CallFix p m c cc nL s args Ts own) {a b tgt : Nat} {off : Int} (h : a < 2 ^ 31 ∧ b < 2 ^ 31) (d : decode cc pc = .ok (.if_icmp .ge off, 3)) (ht : (pc : Int) + off = (tgt : Int)) (kt : b ≤ a → W p l e R s m args below meth c H locs cells slots Q (F0 m tgt ls rest)) (kf : a < b → W p l e R s m args below meth c H locs cells slots Q (F0 m (pc + 3) ls rest)) : W p l e R s m args below meth c H locs cells slots Q (F0 m pc ls (.int (nI b) :: .int (nI a) :: rest)) := by
  have e1 := nI_eq h.1 h.2
  have e2 := nI_leI h.1 h.2
  have e3 := nI_ltI h.1 h.2
  have e4 := nI_leI h.2 h.1
  have e5 := nI_ltI h.2 h.1
  refine lv_icmp_ge S.1 S.2.1 d ht (fun q => kt ?_) (fun q => kf ?_) <;> first | exact e1.mp q | exact fun z => q (e1.mpr z) | exact e2.mp q | exact e3.mp q | exact e4.mp q | exact e5.mp q | exact Nat.lt_of_not_le fun z => q (e2.mpr z) | exact Nat.lt_of_not_le fun z => q (e4.mpr z) | exact Nat.le_of_not_lt fun z => q (e3.mpr z) | exact Nat.le_of_not_lt fun z => q (e5.mpr z) | exact Decidable.byContradiction fun z => q fun y => z (e1.mp y)
theorem n_cgt (S : CallFix p m c cc nL s args Ts own) {a b tgt : Nat} {off : Int} (h : a < 2 ^ 31 ∧ b < 2 ^ 31) (d : decode cc pc = .ok (.if_icmp .gt off, 3)) (ht : (pc : Int) + off = (tgt : Int)) (kt : b < a → W p l e R s m args below meth c H locs cells slots Q (F0 m tgt ls rest)) (kf : a ≤ b → W p l e R s m args below meth c H locs cells slots Q (F0 m (pc + 3) ls rest)) : W p l e R s m args below meth c H locs cells slots Q (F0 m pc ls (.int (nI b) :: .int (nI a) :: rest)) := by
  have e1 := nI_eq h.1 h.2
  have e2 := nI_leI h.1 h.2
  have e3 := nI_ltI h.1 h.2
  have e4 := nI_leI h.2 h.1
  have e5 := nI_ltI h.2 h.1
  refine lv_icmp_gt S.1 S.2.1 d ht (fun q => kt ?_) (fun q => kf ?_) <;> first | exact e1.mp q | exact fun z => q (e1.mpr z) | exact e2.mp q | exact e3.mp q | exact e4.mp q | exact e5.mp q | exact Nat.lt_of_not_le fun z => q (e2.mpr z) | exact Nat.lt_of_not_le fun z => q (e4.mpr z) | exact Nat.le_of_not_lt fun z => q (e3.mpr z) | exact Nat.le_of_not_lt fun z => q (e5.mpr z) | exact Decidable.byContradiction fun z => q fun y => z (e1.mp y)
theorem n_cle (S : CallFix p m c cc nL s args Ts own) {a b tgt : Nat} {off : Int} (h : a < 2 ^ 31 ∧ b < 2 ^ 31) (d : decode cc pc = .ok (.if_icmp .le off, 3)) (ht : (pc : Int) + off = (tgt : Int)) (kt : a ≤ b → W p l e R s m args below meth c H locs cells slots Q (F0 m tgt ls rest)) (kf : b < a → W p l e R s m args below meth c H locs cells slots Q (F0 m (pc + 3) ls rest)) : W p l e R s m args below meth c H locs cells slots Q (F0 m pc ls (.int (nI b) :: .int (nI a) :: rest)) := by
  have e1 := nI_eq h.1 h.2
  have e2 := nI_leI h.1 h.2
  have e3 := nI_ltI h.1 h.2
  have e4 := nI_leI h.2 h.1
  have e5 := nI_ltI h.2 h.1
  refine lv_icmp_le S.1 S.2.1 d ht (fun q => kt ?_) (fun q => kf ?_) <;> first | exact e1.mp q | exact fun z => q (e1.mpr z) | exact e2.mp q | exact e3.mp q | exact e4.mp q | exact e5.mp q | exact Nat.lt_of_not_le fun z => q (e2.mpr z) | exact Nat.lt_of_not_le fun z => q (e4.mpr z) | exact Nat.le_of_not_lt fun z => q (e3.mpr z) | exact Nat.le_of_not_lt fun z => q (e5.mpr z) | exact Decidable.byContradiction fun z => q fun y => z (e1.mp y)
theorem n_zeq (S : CallFix p m c cc nL s args Ts own) {a tgt : Nat} {off : Int} (h : a < 2 ^ 31) (d : decode cc pc = .ok (.ifCond .eq off, 3)) (ht : (pc : Int) + off = (tgt : Int)) (kt : a = 0 → W p l e R s m args below meth c H locs cells slots Q (F0 m tgt ls rest)) (kf : a ≠ 0 → W p l e R s m args below meth c H locs cells slots Q (F0 m (pc + 3) ls rest)) : W p l e R s m args below meth c H locs cells slots Q (F0 m pc ls (.int (nI a) :: rest)) := by
  have e1 : nI a = 0 ↔ a = 0 := nI_eq h (by decide)
  have e2 : nI a ≤ 0 ↔ a ≤ 0 := nI_leI h (by decide)
  have e3 : 0 < nI a ↔ 0 < a := nI_ltI (by decide) h
  refine lv_if_eq S.1 S.2.1 d ht (fun q => kt ?_) (fun q => kf ?_) <;> first | exact e1.mp q | exact fun z => q (e1.mpr z) | exact e3.mp q | exact Nat.le_zero.mp (e2.mp q) | exact Nat.eq_zero_of_not_pos fun z => q (e3.mpr z) | exact Nat.pos_of_ne_zero fun z => q (e2.mpr (Nat.le_of_eq z)) | exact Decidable.byContradiction fun z => q fun y => z (e1.mp y)
theorem n_zne (S : CallFix p m c cc nL s args Ts own) {a tgt : Nat} {off : Int} (h : a < 2 ^ 31) (d : decode cc pc = .ok (.ifCond .ne off, 3)) (ht : (pc : Int) + off = (tgt : Int)) (kt : a ≠ 0 → W p l e R s m args below meth c H locs cells slots Q (F0 m tgt ls rest)) (kf : a = 0 → W p l e R s m args below meth c H locs cells slots Q (F0 m (pc + 3) ls rest)) : W p l e R s m args below meth c H locs cells slots Q (F0 m pc ls (.int (nI a) :: rest)) := by
  have e1 : nI a = 0 ↔ a = 0 := nI_eq h (by decide)
  have e2 : nI a ≤ 0 ↔ a ≤ 0 := nI_leI h (by decide)
  have e3 : 0 < nI a ↔ 0 < a := nI_ltI (by decide) h
  refine lv_if_ne S.1 S.2.1 d ht (fun q => kt ?_) (fun q => kf ?_) <;> first | exact e1.mp q | exact fun z => q (e1.mpr z) | exact e3.mp q | exact Nat.le_zero.mp (e2.mp q) | exact Nat.eq_zero_of_not_pos fun z => q (e3.mpr z) | exact Nat.pos_of_ne_zero fun z => q (e2.mpr (Nat.le_of_eq z)) | exact Decidable.byContradiction fun z => q fun y => z (e1.mp y)
theorem n_zgt (S : CallFix p m c cc nL s args Ts own) {a tgt : Nat} {off : Int} (h : a < 2 ^ 31) (d : decode cc pc = .ok (.ifCond .gt off, 3)) (ht : (pc : Int) + off = (tgt : Int)) (kt : 0 < a → W p l e R s m args below meth c H locs cells slots Q (F0 m tgt ls rest)) (kf : a = 0 → W p l e R s m args below meth c H locs cells slots Q (F0 m (pc + 3) ls rest)) : W p l e R s m args below meth c H locs cells slots Q (F0 m pc ls (.int (nI a) :: rest)) := by
  have e1 : nI a = 0 ↔ a = 0 := nI_eq h (by decide)
  have e2 : nI a ≤ 0 ↔ a ≤ 0 := nI_leI h (by decide)
  have e3 : 0 < nI a ↔ 0 < a := nI_ltI (by decide) h
  refine lv_if_gt S.1 S.2.1 d ht (fun q => kt ?_) (fun q => kf ?_) <;> first | exact e1.mp q | exact fun z => q (e1.mpr z) | exact e3.mp q | exact Nat.le_zero.mp (e2.mp q) | exact Nat.eq_zero_of_not_pos fun z => q (e3.mpr z) | exact Nat.pos_of_ne_zero fun z => q (e2.mpr (Nat.le_of_eq z)) | exact Decidable.byContradiction fun z => q fun y => z (e1.mp y)
theorem n_zle (S : CallFix p m c cc nL s args Ts own) {a tgt : Nat} {off : Int} (h : a < 2 ^ 31) (d : decode cc pc = .ok (.ifCond .le off, 3)) (ht : (pc : Int) + off = (tgt : Int)) (kt : a = 0 → W p l e R s m args below meth c H locs cells slots Q (F0 m tgt ls rest)) (kf : 0 < a → W p l e R s m args below meth c H locs cells slots Q (F0 m (pc + 3) ls rest)) : W p l e R s m args below meth c H locs cells slots Q (F0 m pc ls (.int (nI a) :: rest)) := by
  have e1 : nI a = 0 ↔ a = 0 := nI_eq h (by decide)
  have e2 : nI a ≤ 0 ↔ a ≤ 0 := nI_leI h (by decide)
  have e3 : 0 < nI a ↔ 0 < a := nI_ltI (by decide) h
  refine lv_if_le S.1 S.2.1 d ht (fun q => kt ?_) (fun q => kf ?_) <;> first | exact e1.mp q | exact fun z => q (e1.mpr z) | exact e3.mp q | exact Nat.le_zero.mp (e2.mp q) | exact Nat.eq_zero_of_not_pos fun z => q (e3.mpr z) | exact Nat.pos_of_ne_zero fun z => q (e2.mpr (Nat.le_of_eq z)) | exact Decidable.byContradiction fun z => q fun y => z (e1.mp y)
theorem n_zlt (S : CallFix p m c cc nL s args Ts own) {a tgt : Nat} {off : Int} (h : a < 2 ^ 31) (d : decode cc pc = .ok (.ifCond .lt off, 3)) (ht : (pc : Int) + off = (tgt : Int)) (kf : W p l e R s m args below meth c H locs cells slots Q (F0 m (pc + 3) ls rest)) : W p l e R s m args below meth c H locs cells slots Q (F0 m pc ls (.int (nI a) :: rest)) := lv_if_lt S.1 S.2.1 d ht (fun q => absurd q (nI_pos h)) (fun _ => kf)
theorem n_zge (S : CallFix p m c cc nL s args Ts own) {a tgt : Nat} {off : Int} (h : a < 2 ^ 31) (d : decode cc pc = .ok (.ifCond .ge off, 3)) (ht : (pc : Int) + off = (tgt : Int)) (kt : W p l e R s m args below meth c H locs cells slots Q (F0 m tgt ls rest)) : W p l e R s m args below meth c H locs cells slots Q (F0 m pc ls (.int (nI a) :: rest)) := lv_if_ge S.1 S.2.1 d ht (fun _ => kt) (fun q => absurd (nI_pos' h) q)
theorem n_beq (S : CallFix p m c cc nL s args Ts own) {b : Bool} {tgt : Nat} {off : Int} (d : decode cc pc = .ok (.ifCond .eq off, 3)) (ht : (pc : Int) + off = (tgt : Int)) (kt : b = false → W p l e R s m args below meth c H locs cells slots Q (F0 m tgt ls rest)) (kf : b = true → W p l e R s m args below meth c H locs cells slots Q (F0 m (pc + 3) ls rest)) : W p l e R s m args below meth c H locs cells slots Q (F0 m pc ls (.int (nI b.toNat) :: rest)) := n_zeq S (by cases b <;> decide) d ht (fun q => kt (by cases b <;> simp_all)) (fun q => kf (by cases b <;> simp_all))
theorem n_bne (S : CallFix p m c cc nL s args Ts own) {b : Bool} {tgt : Nat} {off : Int} (d : decode cc pc = .ok (.ifCond .ne off, 3)) (ht : (pc : Int) + off = (tgt : Int)) (kt : b = true → W p l e R s m args below meth c H locs cells slots Q (F0 m tgt ls rest)) (kf : b = false → W p l e R s m args below meth c H locs cells slots Q (F0 m (pc + 3) ls rest)) : W p l e R s m args below meth c H locs cells slots Q (F0 m pc ls (.int (nI b.toNat) :: rest)) := n_zne S (by cases b <;> decide) d ht (fun q => kt (by cases b <;> simp_all)) (fun q => kf (by cases b <;> simp_all))
theorem rd_iret (S : CallFix p m c cc nL s args Ts own) {v w : Int32} {ty : FieldType} (hr : meth.sig.returnType = some ty) (hn : narrow ty (.int v) = .int v) (hlocks : meth.locks = false) (hv : v = w) (d : decode cc pc = .ok (.ireturn, 1)) : W p l e R s m args below meth c s.heap [] 0 0 (MQ below (vp_Si (fun r => r = w)) args s 0 0 (fun _ => False)) (F0 m pc ls [.int v]) :=
  W.zret S.1 S.2.1 hr hn (fun t ht _ => ⟨v, rfl, hv, ht⟩) (fun q h => absurd h List.not_mem_nil) d hlocks
theorem rd_lret (S : CallFix p m c cc nL s args Ts own) {v w : Int64} (hr : meth.sig.returnType = some .long) (hlocks : meth.locks = false) (hv : v = w) (d : decode cc pc = .ok (.lreturn, 1)) : W p l e R s m args below meth c s.heap [] 0 0 (MQ below (vp_Sl (fun r => r = w)) args s 0 0 (fun _ => False)) (F0 m pc ls [.long v]) :=
  W.lret S.1 S.2.1 hr (fun t ht _ => ⟨v, rfl, hv, ht⟩) (fun q h => absurd h List.not_mem_nil) d hlocks
end SXA
/-- a method that only reads: from its entry -/
theorem rd_start {l : Launch} {y : MethodName} {ws ws' : List Cond} {rm : Room} {Qc : Array Value → State → Outcome → State → Prop} {cc : ByteArray} {maxL : Nat} {ret : Option FieldType} {D : va_G} {tys : List (ClassId × FieldType)} {w0 : va_W} {av : List Value} {free : Addr → Prop} (own : String) (hy : plainName y.cls = true ∧ y.cls = own) (hw : ws = Cond.code y cc maxL ret :: ws') (hlen : (lg_sl av).length ≤ maxL)
    (body : ∀ p e s m args below meth c, CallFix p m c cc maxL s args ws own → meth.sig.returnType = ret → meth.locks = false → va_P D vwCl w0 s.heap → KN D tys s → ∀ ls : Array Slot, lv_has ls maxL (lv_args 0 av) →
      W p l e rm s m args below meth c s.heap [] 0 0 (MQ below Qc args s 0 0 free) (F0 m 0 ls [])) : Met l y ws rm (va_Pc av (sx_R D tys w0)) Qc 0 0 free := by
  refine Met.ofW (cc := cc) (maxL := maxL) (ret := ret) hy.1 hw ?_
  intro p e s m args below meth c s₁ B hml hv
  obtain ⟨hv0, hP, hK⟩ := hv
  subst hv0
  have hl := lv_entry av (n := maxL) hlen
  rw [lg_entry_eq]
  have hn := findClass_of_methodNamed B.named
  rw [hy.2] at hn
  exact body p e s m _ below meth c ⟨B.exec, B.bytes, hml, hn, atoms_spec (ws := ws) B.pre⟩ B.returns B.notSynchronized hP hK _ hl
section SXB
variable {p : Program} {l : Launch} {e : Env} {R : Room} {s : State} {m : MethodId} {args : Array Value} {below : List Frame} {meth : Method} {c : Code} {H : Heap} {locs : List Loc} {cells slots : Nat} {Q : State → Prop}
variable {cc bytes : ByteArray} {nL maxL n index : Nat} {Ts ws ws' : List Cond} {own : String} {pc : Nat} {ls : Array Slot} {st rest As : List Value} {y : MethodName} {ret : Option FieldType} {rm : Room} {D : va_G} {tys : List (ClassId × FieldType)} {wc : va_W} {lv : List (Nat × Value)}
/-- a static call of a method that only reads -/
theorem rd_callS {v : Int32} (S : CallFix p m c cc nL s args Ts own) (hM : Met l y ws rm (va_Pc As (sx_R D tys wc)) (vp_Si (fun r => r = v)) 0 0 (fun _ => False)) (hT : GoodIn Ts (va_wsS own index y ws)) (hw : ws = Cond.code y bytes maxL ret :: ws')
    (hd : y.cls ≠ "java/lang/invoke/MethodHandle" ∧ y.cls ≠ "java/lang/invoke/VarHandle" ∧ (parseMethodDescriptor y.desc).map (fun d => d.parameters.length) = some n) (hR : rm.cells = 0 ∧ rm.slots = 0 ∧ rm.frames + 1 ≤ R.frames ∧ 8 + (maxL + 11) + rm.locals ≤ R.locals)
    (hP : va_P D vwCl wc H) (hK : KN D tys s) (hl : lv_has ls nL lv) (hst : st = As.reverse ++ rest) (hn : As.length = n) (hroom : (rest.map fun v => v.category).sum ≤ 8) (hcs : cells ≤ R.cells ∧ slots ≤ R.slots) (d : decode cc pc = .ok (.invokestatic index, 3))
    (kk : W p l e R s m args below meth c H locs cells slots Q (F0 m (pc + 3) ls (.int v :: rest))) : W p l e R s m args below meth c H locs cells slots Q (F0 m pc ls st) :=
  vp_callSi (va_runS (As := As) (rest := rest) S hM (va_cwS n S.2.2.2.2 hT hw hR.1 hR.2.1 hd ⟨hR.2.2.1, hR.2.2.2⟩) ⟨sx_blind _ _ _ _, fun U hU hW => ⟨rfl, by rw [hU]; exact hP, hK.warm hW⟩⟩ rfl hn hl.1 hst (lv_room hroom) d hcs).run (fun r hr => by rw [hr]; exact kk)
theorem rd_callV {v : Int32} {C : String} {b : Nat} (S : CallFix p m c cc nL s args Ts own) (hM : Met l y ws rm (va_Pc (.ref b :: As) (sx_R D tys wc)) (vp_Si (fun r => r = v)) 0 0 (fun _ => False)) (hT : GoodIn Ts (wsV own index C y ws)) (hw : ws = Cond.code y bytes maxL ret :: ws')
    (hd : y.cls = C ∧ y.cls ≠ "java/lang/invoke/MethodHandle" ∧ y.cls ≠ "java/lang/invoke/VarHandle" ∧ (parseMethodDescriptor y.desc).map (fun d => d.parameters.length) = some n) (hR : rm.cells = 0 ∧ rm.slots = 0 ∧ rm.frames + 1 ≤ R.frames ∧ 8 + (maxL + 11) + rm.locals ≤ R.locals)
    (hP : va_P D vwCl wc H) (hK : KN D tys s) (hrecv : ∃ cell : Cell, H[b]? = some cell ∧ cell.vm.isStatics = false ∧ s.vm.findClass C = some cell.cls) (hl : lv_has ls nL lv) (hst : st = As.reverse ++ .ref b :: rest) (hn : As.length = n) (hroom : (rest.map fun v => v.category).sum ≤ 8) (hcs : cells ≤ R.cells ∧ slots ≤ R.slots) (d : decode cc pc = .ok (.invokevirtual index, 3))
    (kk : W p l e R s m args below meth c H locs cells slots Q (F0 m (pc + 3) ls (.int v :: rest))) : W p l e R s m args below meth c H locs cells slots Q (F0 m pc ls st) :=
  vp_callSi (va_runV (As := As) (rest := rest) S hM (cwV n S.2.2.2.2 hT hw hR.1 hR.2.1 hd ⟨hR.2.2.1, hR.2.2.2⟩) ⟨sx_blind _ _ _ _, hrecv, fun U hU hW => ⟨rfl, by rw [hU]; exact hP, hK.warm hW⟩⟩ rfl hn hl.1 hst (lv_room hroom) d hcs).run (fun r hr => by rw [hr]; exact kk)
/-- a static call of a method that only reads -/
theorem rd_callSl {v : Int64} (S : CallFix p m c cc nL s args Ts own) (hM : Met l y ws rm (va_Pc As (sx_R D tys wc)) (vp_Sl (fun r => r = v)) 0 0 (fun _ => False)) (hT : GoodIn Ts (va_wsS own index y ws)) (hw : ws = Cond.code y bytes maxL ret :: ws')
    (hd : y.cls ≠ "java/lang/invoke/MethodHandle" ∧ y.cls ≠ "java/lang/invoke/VarHandle" ∧ (parseMethodDescriptor y.desc).map (fun d => d.parameters.length) = some n) (hR : rm.cells = 0 ∧ rm.slots = 0 ∧ rm.frames + 1 ≤ R.frames ∧ 8 + (maxL + 11) + rm.locals ≤ R.locals)
    (hP : va_P D vwCl wc H) (hK : KN D tys s) (hl : lv_has ls nL lv) (hst : st = As.reverse ++ rest) (hn : As.length = n) (hroom : (rest.map fun v => v.category).sum ≤ 8) (hcs : cells ≤ R.cells ∧ slots ≤ R.slots) (d : decode cc pc = .ok (.invokestatic index, 3))
    (kk : W p l e R s m args below meth c H locs cells slots Q (F0 m (pc + 3) ls (.long v :: rest))) : W p l e R s m args below meth c H locs cells slots Q (F0 m pc ls st) :=
  vp_callSl (va_runS (As := As) (rest := rest) S hM (va_cwS n S.2.2.2.2 hT hw hR.1 hR.2.1 hd ⟨hR.2.2.1, hR.2.2.2⟩) ⟨sx_blind _ _ _ _, fun U hU hW => ⟨rfl, by rw [hU]; exact hP, hK.warm hW⟩⟩ rfl hn hl.1 hst (lv_room hroom) d hcs).run (fun r hr => by rw [hr]; exact kk)
theorem rd_callVl {v : Int64} {C : String} {b : Nat} (S : CallFix p m c cc nL s args Ts own) (hM : Met l y ws rm (va_Pc (.ref b :: As) (sx_R D tys wc)) (vp_Sl (fun r => r = v)) 0 0 (fun _ => False)) (hT : GoodIn Ts (wsV own index C y ws)) (hw : ws = Cond.code y bytes maxL ret :: ws')
    (hd : y.cls = C ∧ y.cls ≠ "java/lang/invoke/MethodHandle" ∧ y.cls ≠ "java/lang/invoke/VarHandle" ∧ (parseMethodDescriptor y.desc).map (fun d => d.parameters.length) = some n) (hR : rm.cells = 0 ∧ rm.slots = 0 ∧ rm.frames + 1 ≤ R.frames ∧ 8 + (maxL + 11) + rm.locals ≤ R.locals)
    (hP : va_P D vwCl wc H) (hK : KN D tys s) (hrecv : ∃ cell : Cell, H[b]? = some cell ∧ cell.vm.isStatics = false ∧ s.vm.findClass C = some cell.cls) (hl : lv_has ls nL lv) (hst : st = As.reverse ++ .ref b :: rest) (hn : As.length = n) (hroom : (rest.map fun v => v.category).sum ≤ 8) (hcs : cells ≤ R.cells ∧ slots ≤ R.slots) (d : decode cc pc = .ok (.invokevirtual index, 3))
    (kk : W p l e R s m args below meth c H locs cells slots Q (F0 m (pc + 3) ls (.long v :: rest))) : W p l e R s m args below meth c H locs cells slots Q (F0 m pc ls st) :=
  vp_callSl (va_runV (As := As) (rest := rest) S hM (cwV n S.2.2.2.2 hT hw hR.1 hR.2.1 hd ⟨hR.2.2.1, hR.2.2.2⟩) ⟨sx_blind _ _ _ _, hrecv, fun U hU hW => ⟨rfl, by rw [hU]; exact hP, hK.warm hW⟩⟩ rfl hn hl.1 hst (lv_room hroom) d hcs).run (fun r hr => by rw [hr]; exact kk)

theorem g_get (S : CallFix p m c cc nL s args Ts own) {C : String} {T : u_T} {N a : Nat} {fs : List Value} {v : Value} (q0 ci k : Nat) (hin : ∀ w ∈ u_ws C T N, w ∈ Ts) (hK : KN D tys s) (hP : va_P D vwCl wc H) (he : wc[q0]? = some (a, .inr (ci, fs))) (hc : vwCl[ci]? = some (C, T, N)) (hk : k < N) (hlink : Cond.fieldLink own index (T k).1 (T k).2.1 (T k).2.2.1 ∈ Ts) (hv : fs[k]? = some v) (d : decode cc pc = .ok (.getfield index, 3))
    (kk : W p l e R s m args below meth c H locs cells slots Q (F0 m (pc + 3) ls (v :: rest))) : W p l e R s m args below meth c H locs cells slots Q (F0 m pc ls (.ref a :: rest)) := va_get (D := D) S.1 S.2.1 S.2.2.2.2 hin S.2.2.2.1 hK.1 hP q0 he hc k hk (S.2.2.2.2 _ hlink) (fun _ h => h) hv d kk
theorem g_getN (S : CallFix p m c cc nL s args Ts own) {C : String} {T : u_T} {N a : Nat} {fs : List Value} {v : Value} (q0 ci k : Nat) (hin : ∀ w ∈ u_ws C T N, w ∈ Ts) (hK : KN D tys s) (hP : va_P D vwCl wc H) (he : wc[q0]? = some (a, .inr (ci, fs))) (hc : vwCl[ci]? = some (C, T, N)) (hk : k < N) (hlink : Cond.fieldLinkNest own index (T k).1 (T k).2.1 (T k).2.2.1 "CoverSheet" ∈ nw_all) (hv : fs[k]? = some v) (d : decode cc pc = .ok (.getfield index, 3))
    (kk : W p l e R s m args below meth c H locs cells slots Q (F0 m (pc + 3) ls (v :: rest))) : W p l e R s m args below meth c H locs cells slots Q (F0 m pc ls (.ref a :: rest)) := va_getN (D := D) S.1 S.2.1 S.2.2.2.2 hin S.2.2.2.1 hK.1 hP q0 he hc k hk (va_Nw.use rfl (hK.2 _ hlink)) (fun _ h => h) hv d kk
end SXB
/-- the three kinds of arrays -/
abbrev TY (cT : ClassId × ClassId × ClassId) : List (ClassId × FieldType) := [(cT.1, .int), (cT.2.1, .long), (cT.2.2, .object RX4)]
section SXC
variable {p : Program} {l : Launch} {e : Env} {R : Room} {s : State} {m : MethodId} {args : Array Value} {below : List Frame} {meth : Method} {c : Code} {H : Heap} {locs : List Loc} {cells slots : Nat} {Q : State → Prop}
variable {cc : ByteArray} {nL : Nat} {Ts : List Cond} {own : String} {pc : Nat} {ls : Array Slot} {rest : List Value} {D : va_G} {cT : ClassId × ClassId × ClassId} {wc : va_W}
theorem sx_in {i n : Nat} (h : i < n ∧ n < 2 ^ 31) : vp_in (nI i) n := vp_in_nI h.1 h.2
theorem g_iald (S : CallFix p m c cc nL s args Ts own) {a i n : Nat} {g : Nat → Nat} (q0 : Nat) (hK : KN D (TY cT) s) (hP : va_P D vwCl wc H) (ha : wc[q0]? = some (a, .inl (cT.1, n, .inl (fun k => nI (g k))))) (h : i < n ∧ n < 2 ^ 31) (d : decode cc pc = .ok (.iaload, 1)) (kk : W p l e R s m args below meth c H locs cells slots Q (F0 m (pc + 1) ls (.int (nI (g i)) :: rest))) : W p l e R s m args below meth c H locs cells slots Q (F0 m pc ls (.int (nI i) :: .ref a :: rest)) :=
  va_iald (D := D) S.1 S.2.1 hK.1 hP q0 0 ha rfl (sx_in h) d (by rw [nI_clamp (Nat.lt_trans h.1 h.2)]; exact kk)
theorem g_ialdR (S : CallFix p m c cc nL s args Ts own) {a i n : Nat} {g : Nat → Int32} (q0 : Nat) (hK : KN D (TY cT) s) (hP : va_P D vwCl wc H) (ha : wc[q0]? = some (a, .inl (cT.1, n, .inl g))) (h : i < n ∧ n < 2 ^ 31) (d : decode cc pc = .ok (.iaload, 1)) (kk : W p l e R s m args below meth c H locs cells slots Q (F0 m (pc + 1) ls (.int (g i) :: rest))) : W p l e R s m args below meth c H locs cells slots Q (F0 m pc ls (.int (nI i) :: .ref a :: rest)) :=
  va_iald (D := D) S.1 S.2.1 hK.1 hP q0 0 ha rfl (sx_in h) d (by rw [nI_clamp (Nat.lt_trans h.1 h.2)]; exact kk)
theorem g_lald (S : CallFix p m c cc nL s args Ts own) {a i n : Nat} {g : Nat → Int64} (q0 : Nat) (hK : KN D (TY cT) s) (hP : va_P D vwCl wc H) (ha : wc[q0]? = some (a, .inl (cT.2.1, n, .inr (.inl g)))) (h : i < n ∧ n < 2 ^ 31) (d : decode cc pc = .ok (.laload, 1)) (kk : W p l e R s m args below meth c H locs cells slots Q (F0 m (pc + 1) ls (.long (g i) :: rest))) : W p l e R s m args below meth c H locs cells slots Q (F0 m pc ls (.int (nI i) :: .ref a :: rest)) :=
  va_lald (D := D) S.1 S.2.1 hK.1 hP q0 1 ha rfl (sx_in h) d (by rw [nI_clamp (Nat.lt_trans h.1 h.2)]; exact kk)
theorem g_aald (S : CallFix p m c cc nL s args Ts own) {a i n : Nat} {g : Nat → Option Nat} (q0 : Nat) (hK : KN D (TY cT) s) (hP : va_P D vwCl wc H) (ha : wc[q0]? = some (a, .inl (cT.2.2, n, .inr (.inr (.inr (.inr g)))))) (h : i < n ∧ n < 2 ^ 31) (d : decode cc pc = .ok (.aaload, 1)) (kk : W p l e R s m args below meth c H locs cells slots Q (F0 m (pc + 1) ls (va_rf (g i) :: rest))) : W p l e R s m args below meth c H locs cells slots Q (F0 m pc ls (.int (nI i) :: .ref a :: rest)) :=
  va_aldq (D := D) S.1 S.2.1 hK.1 hP q0 2 ha rfl (sx_in h) d (by rw [nI_clamp (Nat.lt_trans h.1 h.2)]; exact kk)
theorem g_alen (S : CallFix p m c cc nL s args Ts own) {a : Nat} {cA : ClassId} {x : vp_A} {ty : FieldType} (q0 t0 : Nat) (hK : KN D (TY cT) s) (hP : va_P D vwCl wc H) (ha : wc[q0]? = some (a, .inl (cA, x))) (ht : (TY cT)[t0]? = some (cA, ty)) (d : decode cc pc = .ok (.arraylength, 1)) (kk : W p l e R s m args below meth c H locs cells slots Q (F0 m (pc + 1) ls (.int (nI x.1) :: rest))) : W p l e R s m args below meth c H locs cells slots Q (F0 m pc ls (.ref a :: rest)) :=
  va_alen (D := D) S.1 S.2.1 hK.1 hP q0 t0 ha ht rfl d kk
end SXC
theorem sx_P0 (D : va_G) (H : Heap) : va_P D vwCl [] H := fun k q h => by simp at h
