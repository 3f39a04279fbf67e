section
-- ===== PART A: goes FIRST, ahead of the names: the tables' words, and 'selects' of the private methods out of them =====
/-- a private method of a class that the tables say can be made, by its rows of tables_1 -/
def lw_okq (q : MethodName × Nat) : Prop := (q.1.cls ≠ "java/lang/invoke/MethodHandle" ∧ q.1.cls ≠ "java/lang/invoke/VarHandle") ∧ Cond.instantiable q.1.cls q.2 ∈ tables_1 ∧ Cond.privateMethod q.1 ∈ tables_1 ∧ Cond.instanceMethod q.1 ∈ tables_1
theorem lw_p0 : lw_okq (⟨"CoverSheet", "planRound", "()Z"⟩, 9) := ⟨⟨by decide +kernel, by decide +kernel⟩, List.mem_of_getElem? (i := 20) (by decide +kernel), List.mem_of_getElem? (i := 124) (by decide +kernel), List.mem_of_getElem? (i := 125) (by decide +kernel)⟩
theorem lw_p1 : lw_okq (⟨"CoverSheet", "chosenWeek", "(LCoverSheet$Person;)I"⟩, 9) := ⟨⟨by decide +kernel, by decide +kernel⟩, List.mem_of_getElem? (i := 20) (by decide +kernel), List.mem_of_getElem? (i := 128) (by decide +kernel), List.mem_of_getElem? (i := 129) (by decide +kernel)⟩
theorem lw_p2 : lw_okq (⟨"CoverSheet", "gapWithout", "(LCoverSheet$Person;II)I"⟩, 9) := ⟨⟨by decide +kernel, by decide +kernel⟩, List.mem_of_getElem? (i := 20) (by decide +kernel), List.mem_of_getElem? (i := 132) (by decide +kernel), List.mem_of_getElem? (i := 133) (by decide +kernel)⟩
theorem lw_p3 : lw_okq (⟨"CoverSheet$DayTable", "goOn", "(LCoverSheet$Person;LCoverSheet$Rules;LCoverSheet$Measure;I)V"⟩, 2) := ⟨⟨by decide +kernel, by decide +kernel⟩, List.mem_of_getElem? (i := 58) (by decide +kernel), List.mem_of_getElem? (i := 199) (by decide +kernel), List.mem_of_getElem? (i := 200) (by decide +kernel)⟩
theorem lw_p4 : lw_okq (⟨"CoverSheet", "allGaps", "()I"⟩, 9) := ⟨⟨by decide +kernel, by decide +kernel⟩, List.mem_of_getElem? (i := 20) (by decide +kernel), List.mem_of_getElem? (i := 240) (by decide +kernel), List.mem_of_getElem? (i := 241) (by decide +kernel)⟩
theorem lw_p5 : lw_okq (⟨"CoverSheet", "leastGapsOf", "(I)I"⟩, 9) := ⟨⟨by decide +kernel, by decide +kernel⟩, List.mem_of_getElem? (i := 20) (by decide +kernel), List.mem_of_getElem? (i := 273) (by decide +kernel), List.mem_of_getElem? (i := 274) (by decide +kernel)⟩
theorem lw_p6 : lw_okq (⟨"CoverSheet", "peopleWithOneOf", "(I)I"⟩, 9) := ⟨⟨by decide +kernel, by decide +kernel⟩, List.mem_of_getElem? (i := 20) (by decide +kernel), List.mem_of_getElem? (i := 277) (by decide +kernel), List.mem_of_getElem? (i := 278) (by decide +kernel)⟩
theorem lw_p7 : lw_okq (⟨"java/lang/Throwable", "fillInStackTrace", "(I)Ljava/lang/Throwable;"⟩, 6) := ⟨⟨by decide +kernel, by decide +kernel⟩, List.mem_of_getElem? (i := 328) (by decide +kernel), List.mem_of_getElem? (i := 326) (by decide +kernel), List.mem_of_getElem? (i := 327) (by decide +kernel)⟩
theorem lw_p8 : lw_okq (⟨"CoverSheet", "personAt", "(I)LCoverSheet$Person;"⟩, 9) := ⟨⟨by decide +kernel, by decide +kernel⟩, List.mem_of_getElem? (i := 20) (by decide +kernel), List.mem_of_getElem? (i := 475) (by decide +kernel), List.mem_of_getElem? (i := 476) (by decide +kernel)⟩
theorem lw_p9 : lw_okq (⟨"CoverSheet", "couldSwap", "(LCoverSheet$Person;LCoverSheet$Person;I)Z"⟩, 9) := ⟨⟨by decide +kernel, by decide +kernel⟩, List.mem_of_getElem? (i := 20) (by decide +kernel), List.mem_of_getElem? (i := 524) (by decide +kernel), List.mem_of_getElem? (i := 525) (by decide +kernel)⟩
theorem lw_p10 : lw_okq (⟨"CoverSheetModel", "fails", "(I)I"⟩, 15) := ⟨⟨by decide +kernel, by decide +kernel⟩, List.mem_of_getElem? (i := 613) (by decide +kernel), List.mem_of_getElem? (i := 676) (by decide +kernel), List.mem_of_getElem? (i := 677) (by decide +kernel)⟩
theorem lw_p11 : lw_okq (⟨"CoverSheetModel", "isPerson", "(I)Z"⟩, 15) := ⟨⟨by decide +kernel, by decide +kernel⟩, List.mem_of_getElem? (i := 613) (by decide +kernel), List.mem_of_getElem? (i := 702) (by decide +kernel), List.mem_of_getElem? (i := 703) (by decide +kernel)⟩
theorem lw_p12 : lw_okq (⟨"CoverSheetModel", "choice", "(I)I"⟩, 15) := ⟨⟨by decide +kernel, by decide +kernel⟩, List.mem_of_getElem? (i := 613) (by decide +kernel), List.mem_of_getElem? (i := 714) (by decide +kernel), List.mem_of_getElem? (i := 715) (by decide +kernel)⟩
theorem lw_p13 : lw_okq (⟨"CoverSheetModel", "fills", "(I)I"⟩, 15) := ⟨⟨by decide +kernel, by decide +kernel⟩, List.mem_of_getElem? (i := 613) (by decide +kernel), List.mem_of_getElem? (i := 718) (by decide +kernel), List.mem_of_getElem? (i := 719) (by decide +kernel)⟩
theorem lw_p14 : lw_okq (⟨"CoverSheetModel", "gapOf", "(III)I"⟩, 15) := ⟨⟨by decide +kernel, by decide +kernel⟩, List.mem_of_getElem? (i := 613) (by decide +kernel), List.mem_of_getElem? (i := 722) (by decide +kernel), List.mem_of_getElem? (i := 723) (by decide +kernel)⟩
theorem lw_p15 : lw_okq (⟨"CoverSheetModel", "countEntries", "(III)I"⟩, 15) := ⟨⟨by decide +kernel, by decide +kernel⟩, List.mem_of_getElem? (i := 613) (by decide +kernel), List.mem_of_getElem? (i := 726) (by decide +kernel), List.mem_of_getElem? (i := 727) (by decide +kernel)⟩
def lw_privs_1 : List (MethodName × Nat) := [(⟨"CoverSheet", "planRound", "()Z"⟩, 9), (⟨"CoverSheet", "chosenWeek", "(LCoverSheet$Person;)I"⟩, 9), (⟨"CoverSheet", "gapWithout", "(LCoverSheet$Person;II)I"⟩, 9), (⟨"CoverSheet$DayTable", "goOn", "(LCoverSheet$Person;LCoverSheet$Rules;LCoverSheet$Measure;I)V"⟩, 2), (⟨"CoverSheet", "allGaps", "()I"⟩, 9), (⟨"CoverSheet", "leastGapsOf", "(I)I"⟩, 9), (⟨"CoverSheet", "peopleWithOneOf", "(I)I"⟩, 9), (⟨"java/lang/Throwable", "fillInStackTrace", "(I)Ljava/lang/Throwable;"⟩, 6), (⟨"CoverSheet", "personAt", "(I)LCoverSheet$Person;"⟩, 9), (⟨"CoverSheet", "couldSwap", "(LCoverSheet$Person;LCoverSheet$Person;I)Z"⟩, 9), (⟨"CoverSheetModel", "fails", "(I)I"⟩, 15), (⟨"CoverSheetModel", "isPerson", "(I)Z"⟩, 15), (⟨"CoverSheetModel", "choice", "(I)I"⟩, 15), (⟨"CoverSheetModel", "fills", "(I)I"⟩, 15), (⟨"CoverSheetModel", "gapOf", "(III)I"⟩, 15), (⟨"CoverSheetModel", "countEntries", "(III)I"⟩, 15)]
theorem lw_r1 : ∀ q ∈ lw_privs_1, lw_okq q := List.forall_mem_cons.mpr ⟨lw_p0, List.forall_mem_cons.mpr ⟨lw_p1, List.forall_mem_cons.mpr ⟨lw_p2, List.forall_mem_cons.mpr ⟨lw_p3, List.forall_mem_cons.mpr ⟨lw_p4, List.forall_mem_cons.mpr ⟨lw_p5, List.forall_mem_cons.mpr ⟨lw_p6, List.forall_mem_cons.mpr ⟨lw_p7, List.forall_mem_cons.mpr ⟨lw_p8, List.forall_mem_cons.mpr ⟨lw_p9, List.forall_mem_cons.mpr ⟨lw_p10, List.forall_mem_cons.mpr ⟨lw_p11, List.forall_mem_cons.mpr ⟨lw_p12, List.forall_mem_cons.mpr ⟨lw_p13, List.forall_mem_cons.mpr ⟨lw_p14, List.forall_mem_cons.mpr ⟨lw_p15, fun _ h => absurd h List.not_mem_nil⟩⟩⟩⟩⟩⟩⟩⟩⟩⟩⟩⟩⟩⟩⟩⟩
theorem lw_p16 : lw_okq (⟨"CoverSheetModel", "isPossible", "(II)Z"⟩, 15) := ⟨⟨by decide +kernel, by decide +kernel⟩, List.mem_of_getElem? (i := 613) (by decide +kernel), List.mem_of_getElem? (i := 730) (by decide +kernel), List.mem_of_getElem? (i := 731) (by decide +kernel)⟩
theorem lw_p17 : lw_okq (⟨"CoverSheetModel", "price", "(III)I"⟩, 15) := ⟨⟨by decide +kernel, by decide +kernel⟩, List.mem_of_getElem? (i := 613) (by decide +kernel), List.mem_of_getElem? (i := 740) (by decide +kernel), List.mem_of_getElem? (i := 741) (by decide +kernel)⟩
theorem lw_p18 : lw_okq (⟨"CoverSheetModel", "brokenBy", "(II)I"⟩, 15) := ⟨⟨by decide +kernel, by decide +kernel⟩, List.mem_of_getElem? (i := 613) (by decide +kernel), List.mem_of_getElem? (i := 748) (by decide +kernel), List.mem_of_getElem? (i := 749) (by decide +kernel)⟩
theorem lw_p19 : lw_okq (⟨"CoverSheetModel", "weekOf", "(I)I"⟩, 15) := ⟨⟨by decide +kernel, by decide +kernel⟩, List.mem_of_getElem? (i := 613) (by decide +kernel), List.mem_of_getElem? (i := 752) (by decide +kernel), List.mem_of_getElem? (i := 753) (by decide +kernel)⟩
theorem lw_p20 : lw_okq (⟨"CoverSheetModel", "enter", "(II)V"⟩, 15) := ⟨⟨by decide +kernel, by decide +kernel⟩, List.mem_of_getElem? (i := 613) (by decide +kernel), List.mem_of_getElem? (i := 756) (by decide +kernel), List.mem_of_getElem? (i := 757) (by decide +kernel)⟩
theorem lw_p21 : lw_okq (⟨"CoverSheetModel", "allGaps", "()I"⟩, 15) := ⟨⟨by decide +kernel, by decide +kernel⟩, List.mem_of_getElem? (i := 613) (by decide +kernel), List.mem_of_getElem? (i := 760) (by decide +kernel), List.mem_of_getElem? (i := 761) (by decide +kernel)⟩
theorem lw_p22 : lw_okq (⟨"CoverSheetModel", "canSwap", "(III)Z"⟩, 15) := ⟨⟨by decide +kernel, by decide +kernel⟩, List.mem_of_getElem? (i := 613) (by decide +kernel), List.mem_of_getElem? (i := 779) (by decide +kernel), List.mem_of_getElem? (i := 780) (by decide +kernel)⟩
theorem lw_p23 : lw_okq (⟨"CoverSheetModel", "isAsked", "(I)Z"⟩, 15) := ⟨⟨by decide +kernel, by decide +kernel⟩, List.mem_of_getElem? (i := 613) (by decide +kernel), List.mem_of_getElem? (i := 807) (by decide +kernel), List.mem_of_getElem? (i := 808) (by decide +kernel)⟩
theorem lw_p24 : lw_okq (⟨"CoverSheetModel", "countWeeks", "(I)I"⟩, 15) := ⟨⟨by decide +kernel, by decide +kernel⟩, List.mem_of_getElem? (i := 613) (by decide +kernel), List.mem_of_getElem? (i := 831) (by decide +kernel), List.mem_of_getElem? (i := 832) (by decide +kernel)⟩
theorem lw_p25 : lw_okq (⟨"CoverSheetModel", "lacking", "(I)I"⟩, 15) := ⟨⟨by decide +kernel, by decide +kernel⟩, List.mem_of_getElem? (i := 613) (by decide +kernel), List.mem_of_getElem? (i := 851) (by decide +kernel), List.mem_of_getElem? (i := 852) (by decide +kernel)⟩
def lw_privs_2 : List (MethodName × Nat) := [(⟨"CoverSheetModel", "isPossible", "(II)Z"⟩, 15), (⟨"CoverSheetModel", "price", "(III)I"⟩, 15), (⟨"CoverSheetModel", "brokenBy", "(II)I"⟩, 15), (⟨"CoverSheetModel", "weekOf", "(I)I"⟩, 15), (⟨"CoverSheetModel", "enter", "(II)V"⟩, 15), (⟨"CoverSheetModel", "allGaps", "()I"⟩, 15), (⟨"CoverSheetModel", "canSwap", "(III)Z"⟩, 15), (⟨"CoverSheetModel", "isAsked", "(I)Z"⟩, 15), (⟨"CoverSheetModel", "countWeeks", "(I)I"⟩, 15), (⟨"CoverSheetModel", "lacking", "(I)I"⟩, 15)]
theorem lw_r2 : ∀ q ∈ lw_privs_2, lw_okq q := List.forall_mem_cons.mpr ⟨lw_p16, List.forall_mem_cons.mpr ⟨lw_p17, List.forall_mem_cons.mpr ⟨lw_p18, List.forall_mem_cons.mpr ⟨lw_p19, List.forall_mem_cons.mpr ⟨lw_p20, List.forall_mem_cons.mpr ⟨lw_p21, List.forall_mem_cons.mpr ⟨lw_p22, List.forall_mem_cons.mpr ⟨lw_p23, List.forall_mem_cons.mpr ⟨lw_p24, List.forall_mem_cons.mpr ⟨lw_p25, fun _ h => absurd h List.not_mem_nil⟩⟩⟩⟩⟩⟩⟩⟩⟩⟩
def lw_privs : List (MethodName × Nat) := lw_privs_1 ++ (lw_privs_2)
def lw_tbl : List Cond := k2_sels lw_privs ++ tables_1
theorem lw_privs_ok : ∀ q ∈ lw_privs, lw_okq q := by
  show ∀ q ∈ lw_privs_1 ++ (lw_privs_2), lw_okq q
  exact List.forall_mem_append.mpr ⟨lw_r1, lw_r2⟩
-- ===== end of PART A; then your names; then what follows =====
end
section
/-! ===== BEGIN words of one list among another's, by their places ===== -/
theorem goodIn_r {big : List Cond} (ws : List Cond) (ps : List Nat) (hp : ws = ps.filterMap (fun i => big[i]?)) (h : ws.all goodWord = true) : GoodIn big ws := by
  intro w hw
  have h1 := List.all_eq_true.mp h w hw
  rw [hp] at hw
  obtain ⟨i, -, hi⟩ := List.mem_filterMap.mp hw
  have hm : w ∈ big := by first | exact List.mem_of_getElem? hi | exact List.getElem?_mem hi
  exact ⟨hm, good_of_word h1⟩
theorem goodIn_app {big a b : List Cond} (ha : GoodIn big a) (hb : GoodIn big b) : GoodIn big (a ++ b) := fun w h => (List.mem_append.mp h).elim (ha w) (hb w)
theorem goodIn_ca {big a b : List Cond} {c : Cond} (ha : GoodIn big (c :: a)) (hb : GoodIn big b) : GoodIn big (c :: (a ++ b)) := fun w h => (List.mem_cons.mp h).elim (fun e => ha w (List.mem_cons.mpr (Or.inl e))) (fun h => (List.mem_append.mp h).elim (fun h => ha w (List.mem_cons.mpr (Or.inr h))) (hb w))
theorem goodIn_sub {big ws : List Cond} (hm : ∀ w ∈ ws, w ∈ big) (h : ws.all goodWord = true) : GoodIn big ws := fun w hw => ⟨hm w hw, good_of_word (List.all_eq_true.mp h w hw)⟩
/-! ===== END ===== -/

/-! ===== BEGIN exceptions that leave a method, and their catching by the caller (launches without stack traces) ===== -/
section VXA
/-! The laws vx_back, vx_callV, vx_callS, vx_callSW, vx_throw0, vx_throwS follow proofs of the library, with one case more: JvmDerived/Free/Laws.lean (Back.of_free), Shelf42/LK1.lean (callV, callS), Shelf/KitTraced.lean (throwNew0V, throwNewS). -/
/-- where a method has thrown q: the class by its name, the cell, what was written, the world -/
def vx_T (XC : String → State → State → Prop) (st : State) (q : Addr) (t : State) (mc ms : Nat) (free : Addr → Prop) : Prop :=
  ∃ (E : String) (ce : Cell) (L : List Loc), XC E st t ∧ t.heap[q]? = some ce ∧ ce.vm = .none ∧ st.vm.findClass E = some ce.cls ∧ st.WarmedH t.vm ∧ st.sameButNew ({ t with vm := st.vm } : State) L mc ms ∧ ∀ z ∈ L, free z.base
def vx_Q (Qc : Array Value → State → Outcome → State → Prop) (XC : String → State → State → Prop) (mc ms : Nat) (free : Addr → Prop) : Array Value → State → Outcome → State → Prop := fun a st o t =>
  (Qc a st o t ∧ ∃ L, FrameEnd st o t L mc ms ∧ ∀ q ∈ L, free q.base) ∨ ∃ q, o = .threw q ∧ vx_T XC st q t mc ms free
/-- a callee that returns or throws -/
def vx_Met (l : Launch) (y : MethodName) (ws : List Cond) (rm : Room) (Pc : Array Value → State → Prop) (Qc : Array Value → State → Outcome → State → Prop) (XC : String → State → State → Prop) (mc ms : Nat) (free : Addr → Prop) : Prop :=
  MetFree l y (headSpec ws rm) Pc (fun _ _ _ _ _ => True) (vx_Q Qc XC mc ms free)
def vx_Post (XC : String → State → State → Prop) (mc ms : Nat) (free : Addr → Prop) : Pt → Array Value → Addr → Pt → Prop := fun A a q B =>
  ∃ (g : JFrame) (mk : MethodId) (t : State) (L : List Loc) (E : String) (ce : Cell), B.U.heap = t.heap ∧ B.U.vm = t.vm ∧ XC E (A.U.calling g mk a) t ∧ t.heap[q]? = some ce ∧ ce.vm = .none ∧ A.U.vm.findClass E = some ce.cls ∧ B.locs = A.locs ++ L ∧ (∀ z ∈ L, free z.base) ∧ B.cells = A.cells + mc ∧ B.slots = A.slots + ms
def vx_Back (l : Launch) (R : Room) (p : Program) (e : Env) (below : List Frame) (s : State) (sargs : Array Value) (y : MethodName) (len W9 : Nat)
    (Pre : Pt → Array Value → Prop) (Post : Pt → Array Value → Option Value → Pt → Prop) (PostX : Pt → Array Value → Addr → Pt → Prop) : Prop :=
  ∀ (m : MethodId) (meth : Method) (c : Code) (A : Pt) (g : JFrame) (ig : Instr) (mk : MethodId) (a : Array Value),
    Stand p l e R s m sargs below meth c A.U A.locs A.cells A.slots → g.method = m → g.locals.size = c.maxLocals → decode c.code g.pc = .ok (ig, len) →
    2 * g.monitorRoom + (g.stack.map fun v => v.category).sum ≤ W9 → A.U.methodNamed? y = some mk → Pre A a →
    (∃ (v : Option Value) (B : Pt), Stand p l e R s m sargs below meth c B.U B.locs B.cells B.slots ∧ Post A a v B ∧
      Steps p.tables e below (doInvoke e (A.U.setTop g) [] mk a).1 (B.U.setTop { g with pc := g.pc + len, stack := v.toList ++ g.stack })) ∨
    (∃ (q : Addr) (B : Pt), Stand p l e R s m sargs below meth c B.U B.locs B.cells B.slots ∧ PostX A a q B ∧
      Steps p.tables e below (doInvoke e (A.U.setTop g) [] mk a).1 ((B.U.setTop g).pushFrame (.throwing q)))
section Payer
variable {l : Launch} {R : Room} {p : Program} {e : Env} {below : List Frame} {s : State} {sargs : Array Value} {y : MethodName} {len W9 : Nat}
theorem vx_back {ws : List Cond} {rm : Room} {Pc : Array Value → State → Prop} {Qc : Array Value → State → Outcome → State → Prop} {XC : String → State → State → Prop} {mc ms : Nat} {free : Addr → Prop} {bytes : ByteArray} {maxL : Nat} {ret : Option FieldType}
    (hM : vx_Met l y ws rm Pc Qc XC mc ms free) (hblind : FrameBlind Pc) (hrc : rm.cells = mc) (hrs : rm.slots = ms)
    (hframes : rm.frames + 1 ≤ R.frames) (hlocals : W9 + (maxL + 11) + rm.locals ≤ R.locals)
    (hws : ∀ w ∈ ws, ∀ a' U, s.WarmedH U.vm → w.before a' U = true) (hcode : Cond.code y bytes maxL ret ∈ ws) (hinit : ∀ a' U, s.WarmedH U.vm → (Cond.initialized y.cls).before a' U = true) :
    vx_Back l R p e below s sargs y len W9 (PreOf R mc ms Pc) (PostOf Qc mc ms free) (vx_Post XC mc ms free) := by
  intro m meth c A g ig mk a X hg hsize hdg hW hn hp
  have h1 : (headSpec ws rm).pre.before a A.U = true := atoms_intro fun w hw => hws w hw _ _ X.warmed
  have h2 : (Cond.code y bytes maxL ret).before a A.U = true := hws _ hcode _ _ X.warmed
  have h3 : (Cond.initialized y.cls).before a A.U = true := hinit _ _ X.warmed
  have h4 : A.cells + (headSpec ws rm).room.cells ≤ R.cells := by rw [show (headSpec ws rm).room.cells = mc from hrc]; exact hp.1
  have h5 : A.slots + (headSpec ws rm).room.slots ≤ R.slots := by rw [show (headSpec ws rm).room.slots = ms from hrs]; exact hp.2.1
  have hPc : Pc a (A.U.calling g mk a) := hblind _ _ _ _ hp.2.2
  obtain ⟨U, Ls, c0, s0⟩ := A
  dsimp only [Pt.U, Pt.locs, Pt.cells, Pt.slots] at h1 h2 h3 h4 h5 X hn hPc ⊢
  obtain ⟨methY, cY, hmY, hcY, -, hlY, -, -, -, -⟩ := Cond.code_spec hn h2
  obtain ⟨kY, hkY, -⟩ := className_of_methodNamed hn
  have hinitY : kY.init = .initialized := Cond.initialized_spec (findClass_of_methodNamed hn) hkY h3
  have h : At U g.method c below := by rw [hg]; exact X.here
  have hlocals9 : W9 + (maxL + 11) + (headSpec ws rm).room.locals ≤ R.locals := hlocals
  have happ : (headSpec ws rm).appliesLoose y e.platform (U.calling g mk a) = true :=
    Spec.appliesLoose_calling (g := g) h hdg hn hkY hinitY
      (X.room_calling (g := g) (R' := (headSpec ws rm).room) hsize hmY hcY hframes (by rw [hlY]; omega) h4 h5) h1
  obtain ⟨mid, hmid⟩ := h.above
  have hfr : (U.setTop g).frames = (.java g :: mid) ++ below := by rw [State.frames_setTop' g h.top, hmid]; rfl
  obtain ⟨o, s₂, hsteps, -, hend, hq⟩ := Steps.callFree hM p X.admits X.cas X.clock (acts := []) hfr happ hPc trivial
  have hq' : vx_Q Qc XC mc ms free a (U.calling g mk a) o s₂ := hq
  rw [State.frames_setTop' g h.top] at hend
  obtain ⟨g₀, hg0⟩ := Option.isSome_iff_exists.mp h.top
  obtain ⟨r, hr⟩ := State.topJava?_eq_some.mp hg0
  have hr' : (({ U with heap := s₂.heap, slotsUsed := s₂.slotsUsed } : State).setVm s₂.vm).frames = .java g₀ :: r := hr
  rcases hq' with ⟨hqc, L, hfe, hL⟩ | ⟨q, rfl, E, ce, L, hx, hce, hcv, hcl, hW₂, hsm, hL⟩
  · obtain ⟨⟨v, rfl⟩, hW₂, e2, q2, q3, q4, q5, q6⟩ := id hfe
    have e3 : s₂ = ({ (U.calling g mk a).setFrames s₂.frames with heap := s₂.heap, slotsUsed := s₂.slotsUsed } : State).setVm s₂.vm := by
      have : s₂ = ({ s₂ with vm := (U.calling g mk a).vm } : State).setVm s₂.vm := rfl
      rw [e2] at this
      exact this
    obtain ⟨c₂, i₂, len₂, hc₂, hd₂, hf₂⟩ := hend
    have hW' : U.WarmedH s₂.vm := hW₂
    have hcc : c₂ = c := by
      have h1 : s₂.code? g.method = U.code? g.method := by
        rw [State.code?_eq, State.code?_eq, hW'.alike.method?]
      exact Option.some.inj (hc₂.symm.trans (h1.trans h.code))
    subst hcc
    have hlen : len₂ = len := by rw [hdg] at hd₂; cases hd₂; rfl
    subst hlen
    have hs₂ : s₂ = (({ U with heap := s₂.heap, slotsUsed := s₂.slotsUsed } : State).setVm s₂.vm).setTop { g with pc := g.pc + len₂, stack := v.toList ++ g.stack } := by
      refine e3.trans ?_
      rw [hf₂, State.calling_eq h.top, State.setFrames_setFrames, State.setTop_of_frames _ hr', hr]
      rfl
    have hsame : U.sameButNew ({ U with heap := s₂.heap, slotsUsed := s₂.slotsUsed } : State) L mc ms := by
      refine ⟨?_, q2, q3, q4, q5, q6⟩
      obtain ⟨t, ht, -⟩ := State.frames_cons hr
      show ({ U with heap := s₂.heap, slotsUsed := s₂.slotsUsed } : State) = { U.setFrames U.frames with heap := s₂.heap, slotsUsed := s₂.slotsUsed }
      rw [State.setFrames_self ht]
    subst hg
    refine Or.inl ⟨v, ⟨(({ U with heap := s₂.heap, slotsUsed := s₂.slotsUsed } : State).setVm s₂.vm), Ls ++ L, c0 + mc, s0 + ms⟩,
      ⟨X.admits, X.cas, X.clock, X.frames, X.room, X.hears, X.method, X.code, (X.here.setHeapUsed s₂.heap s₂.slotsUsed).setVm hW'.alike, X.tail, State.WarmedH.trans X.warmed hW', X.limits, X.bytes, X.same.trans (hsame.setVm s.vm)⟩,
      ⟨g, mk, s₂, L, rfl, rfl, hqc, rfl, hL, rfl, rfl⟩, ?_⟩
    show Steps p.tables e below _ ((({ U with heap := s₂.heap, slotsUsed := s₂.slotsUsed } : State).setVm s₂.vm).setTop { g with pc := g.pc + len₂, stack := v.toList ++ g.stack })
    rw [← hs₂]
    exact hsteps
  · obtain ⟨e2, q2, q3, q4, q5, q6⟩ := id hsm
    have e3 : s₂ = ({ (U.calling g mk a).setFrames s₂.frames with heap := s₂.heap, slotsUsed := s₂.slotsUsed } : State).setVm s₂.vm := by
      have : s₂ = ({ s₂ with vm := (U.calling g mk a).vm } : State).setVm s₂.vm := rfl
      rw [e2] at this
      exact this
    have hf₂ : s₂.frames = .throwing q :: .java g :: U.frames.tail := hend
    have hW' : U.WarmedH s₂.vm := hW₂
    have hs₂ : s₂ = ((({ U with heap := s₂.heap, slotsUsed := s₂.slotsUsed } : State).setVm s₂.vm).setTop g).pushFrame (.throwing q) := by
      refine e3.trans ?_
      rw [hf₂, State.calling_eq h.top, State.setFrames_setFrames, State.pushFrame, State.frames_setTop _ hr', State.setTop_of_frames _ hr', State.setFrames_setFrames, hr]
      rfl
    have hsame : U.sameButNew ({ U with heap := s₂.heap, slotsUsed := s₂.slotsUsed } : State) L mc ms := by
      refine ⟨?_, q2, q3, q4, q5, q6⟩
      obtain ⟨t, ht, -⟩ := State.frames_cons hr
      show ({ U with heap := s₂.heap, slotsUsed := s₂.slotsUsed } : State) = { U.setFrames U.frames with heap := s₂.heap, slotsUsed := s₂.slotsUsed }
      rw [State.setFrames_self ht]
    subst hg
    refine Or.inr ⟨q, ⟨(({ U with heap := s₂.heap, slotsUsed := s₂.slotsUsed } : State).setVm s₂.vm), Ls ++ L, c0 + mc, s0 + ms⟩,
      ⟨X.admits, X.cas, X.clock, X.frames, X.room, X.hears, X.method, X.code, (X.here.setHeapUsed s₂.heap s₂.slotsUsed).setVm hW'.alike, X.tail, State.WarmedH.trans X.warmed hW', X.limits, X.bytes, X.same.trans (hsame.setVm s.vm)⟩,
      ⟨g, mk, s₂, L, E, ce, rfl, rfl, hx, hce, hcv, hcl, rfl, hL, rfl, rfl⟩, ?_⟩
    show Steps p.tables e below _ (((({ U with heap := s₂.heap, slotsUsed := s₂.slotsUsed } : State).setVm s₂.vm).setTop g).pushFrame (.throwing q))
    rw [← hs₂]
    exact hsteps
end Payer
section Calls
variable {p : Program} {l : Launch} {e : Env} {R : Room} {s : State} {m : MethodId} {args : Array Value} {below : List Frame} {meth : Method} {c : Code} {T : State} {locs : List Loc} {cells slots : Nat}
theorem vx_callV (X : Stand p l e R s m args below meth c T locs cells slots) (hexec : p.tables.exec = Jvm.exec) {own C : String} {index : Nat} {y : MethodName} {bytes : ByteArray} {maxL : Nat} {ret : Option FieldType}
    (hown : s.vm.findClass own = some m.cls) (hlink : (Cond.methodLink own index y).before args s = true) (hinst : (Cond.instanceMethod y).before args s = true) (hsel : (Cond.selects C y y).before args s = true)
    (hcode : (Cond.code y bytes maxL ret).before args s = true) (hy : y.cls ≠ "java/lang/invoke/MethodHandle" ∧ y.cls ≠ "java/lang/invoke/VarHandle")
    {W9 : Nat} {Pre : Pt → Array Value → Prop} {Post : Pt → Array Value → Option Value → Pt → Prop} {PostX : Pt → Array Value → Addr → Pt → Prop} (hK : vx_Back l R p e below s args y 3 W9 Pre Post PostX)
    {b : Addr} {cellB : Cell} (hcell : T.heap[b]? = some cellB) (hobj : cellB.vm.isStatics = false) (hcls : s.vm.findClass C = some cellB.cls)
    {g : JFrame} (hg : g.method = m) (hsize : g.locals.size = c.maxLocals) {argsL rest : List Value} (hlen : ∀ sig, parseMethodDescriptor y.desc = some sig → argsL.length = sig.parameters.length)
    (hstack : g.stack = argsL.reverse ++ .ref b :: rest) (hW : 2 * g.monitorRoom + (rest.map fun v => v.category).sum ≤ W9) (hdg : decode c.code g.pc = .ok (.invokevirtual index, 3))
    (hpre : ∀ vm₁, s.WarmedH vm₁ → Pre ⟨T.setVm vm₁, locs, cells, slots⟩ (Value.ref b :: argsL).toArray) :
    (∃ (v : Option Value) (vm₁ : Vm) (B : Pt), s.WarmedH vm₁ ∧ Stand p l e R s m args below meth c B.U B.locs B.cells B.slots ∧ Post ⟨T.setVm vm₁, locs, cells, slots⟩ (Value.ref b :: argsL).toArray v B ∧
      ∀ target, Steps p.tables e below (B.U.setTop { g with pc := g.pc + 3, stack := v.toList ++ rest }) target → Steps p.tables e below (T.setTop g) target) ∨
    (∃ (q : Addr) (vm₁ : Vm) (B : Pt), s.WarmedH vm₁ ∧ Stand p l e R s m args below meth c B.U B.locs B.cells B.slots ∧ PostX ⟨T.setVm vm₁, locs, cells, slots⟩ (Value.ref b :: argsL).toArray q B ∧
      Steps p.tables e below (T.setTop g) ((B.U.setTop { g with stack := rest }).pushFrame (.throwing q))) := by
  obtain ⟨mk, methM, hnamed, hmethM, hstM, habM⟩ := Cond.instanceMethod_spec hinst
  obtain ⟨methM', cM, hmethM', -, -, -, -, -, -, hsigM⟩ := Cond.code_spec hnamed hcode
  cases hmethM.symm.trans hmethM'
  obtain ⟨c2, r2, m2, q1, q2, q3, q4, kP, hkP, hkPi⟩ := Cond.selects_spec hsel
  cases hcls.symm.trans q1
  cases (State.methodFound?_of_named hnamed hy).symm.trans q2
  cases hnamed.symm.trans q3
  have hselP : selectMethod e.platform s.vm cellB.cls mk = .method mk := by rw [Launch.admits_selectMethod X.admits]; exact q4
  obtain ⟨vm₁, X₁, hstep₁⟩ := X.invokevirtual hexec hown hlink hnamed hmethM hstM hkP hkPi hy (a := b) (cell := cellB) hcell
    (fun z h => by rw [h] at hobj; cases hobj) hselP hmethM habM hkP hkPi (g := g) hg (argsL := argsL) (rest := rest) (hlen _ hsigM) hstack hdg
  rcases hK m meth c ⟨T.setVm vm₁, locs, cells, slots⟩ { g with stack := rest } (.invokevirtual index) mk (Value.ref b :: argsL).toArray X₁ hg hsize hdg hW (X₁.named hnamed) (hpre vm₁ X₁.warmed) with ⟨v, B, X', hpost, hsteps⟩ | ⟨q, B, X', hpost, hsteps⟩
  · exact Or.inl ⟨v, vm₁, B, X₁.warmed, X', hpost, fun target h => hstep₁ _ fun acts => by rw [doInvoke_state]; exact hsteps.trans h⟩
  · exact Or.inr ⟨q, vm₁, B, X₁.warmed, X', hpost, hstep₁ _ fun acts => by rw [doInvoke_state]; exact hsteps⟩
theorem vx_callS (X : Stand p l e R s m args below meth c T locs cells slots) (hexec : p.tables.exec = Jvm.exec) {own : String} {index : Nat} {y : MethodName} {bytes : ByteArray} {maxL : Nat} {ret : Option FieldType}
    (hown : s.vm.findClass own = some m.cls) (hlink : (Cond.methodLink own index y).before args s = true) (hstat : (Cond.static y).before args s = true) (hinit : (Cond.initialized y.cls).before args s = true)
    (hcode : (Cond.code y bytes maxL ret).before args s = true) (hy : y.cls ≠ "java/lang/invoke/MethodHandle" ∧ y.cls ≠ "java/lang/invoke/VarHandle")
    {W9 : Nat} {Pre : Pt → Array Value → Prop} {Post : Pt → Array Value → Option Value → Pt → Prop} {PostX : Pt → Array Value → Addr → Pt → Prop} (hK : vx_Back l R p e below s args y 3 W9 Pre Post PostX)
    {g : JFrame} (hg : g.method = m) (hsize : g.locals.size = c.maxLocals) {argsL rest : List Value} (hlen : ∀ sig, parseMethodDescriptor y.desc = some sig → argsL.length = sig.parameters.length)
    (hstack : g.stack = argsL.reverse ++ rest) (hW : 2 * g.monitorRoom + (rest.map fun v => v.category).sum ≤ W9) (hdg : decode c.code g.pc = .ok (.invokestatic index, 3))
    (hpre : ∀ vm₁, s.WarmedH vm₁ → Pre ⟨T.setVm vm₁, locs, cells, slots⟩ argsL.toArray) :
    (∃ (v : Option Value) (vm₁ : Vm) (B : Pt), s.WarmedH vm₁ ∧ Stand p l e R s m args below meth c B.U B.locs B.cells B.slots ∧ Post ⟨T.setVm vm₁, locs, cells, slots⟩ argsL.toArray v B ∧
      ∀ target, Steps p.tables e below (B.U.setTop { g with pc := g.pc + 3, stack := v.toList ++ rest }) target → Steps p.tables e below (T.setTop g) target) ∨
    (∃ (q : Addr) (vm₁ : Vm) (B : Pt), s.WarmedH vm₁ ∧ Stand p l e R s m args below meth c B.U B.locs B.cells B.slots ∧ PostX ⟨T.setVm vm₁, locs, cells, slots⟩ argsL.toArray q B ∧
      Steps p.tables e below (T.setTop g) ((B.U.setTop { g with stack := rest }).pushFrame (.throwing q))) := by
  obtain ⟨mk, hnamed⟩ := Cond.code_named hcode
  obtain ⟨methM, cM, hmethM, -, -, -, -, -, -, hsigM⟩ := Cond.code_spec hnamed hcode
  have hstatic : methM.isStatic = true := Cond.static_spec hnamed hmethM hstat
  obtain ⟨kP, hkP, -⟩ := className_of_methodNamed hnamed
  have hinitP : kP.init = .initialized := Cond.initialized_spec (findClass_of_methodNamed hnamed) hkP hinit
  obtain ⟨vm₁, X₁, hstep₁⟩ := X.invokestatic hexec hown hlink hnamed hmethM hstatic hkP hinitP hy (g := g) hg (argsL := argsL) (rest := rest) (hlen _ hsigM) hstack hdg
  rcases hK m meth c ⟨T.setVm vm₁, locs, cells, slots⟩ { g with stack := rest } (.invokestatic index) mk argsL.toArray X₁ hg hsize hdg hW (X₁.named hnamed) (hpre vm₁ X₁.warmed) with ⟨v, B, X', hpost, hsteps⟩ | ⟨q, B, X', hpost, hsteps⟩
  · exact Or.inl ⟨v, vm₁, B, X₁.warmed, X', hpost, fun target h => hstep₁ _ fun acts => by rw [doInvoke_state]; exact hsteps.trans h⟩
  · exact Or.inr ⟨q, vm₁, B, X₁.warmed, X', hpost, hstep₁ _ fun acts => by rw [doInvoke_state]; exact hsteps⟩
end Calls
theorem vx_cls {s : State} {T : State} {vm₁ : Vm} {E : String} {k : ClassId} (hW : s.WarmedH vm₁) (h : (T.setVm vm₁).vm.findClass E = some k) : s.vm.findClass E = some k := by
  have h1 : vm₁.findClass E = some k := h
  rw [hW.alike.findClass] at h1
  exact h1
/-- the method's frame g, with q thrown over it -/
def vx_W (p : Program) (l : Launch) (e : Env) (R : Room) (s : State) (m : MethodId) (args : Array Value) (below : List Frame) (meth : Method) (c : Code) (H : Heap) (locs : List Loc) (cells slots : Nat) (Q : State → Prop) (g : JFrame) (q : Addr) : Prop :=
  ∀ T : State, T.heap = H → Stand p l e R s m args below meth c T locs cells slots → ∃ t, Steps p.tables e below ((T.setTop g).pushFrame (.throwing q)) t ∧ Q t
def vx_Run (p : Program) (l : Launch) (e : Env) (R : Room) (s : State) (m : MethodId) (args : Array Value) (below : List Frame) (meth : Method) (c : Code) (H : Heap) (locs : List Loc) (cells slots mc ms : Nat) (g : JFrame) (rest : List Value) (Qa : State → Outcome → State → Prop) (XC : String → State → State → Prop) (free : Addr → Prop) : Prop :=
  ∀ T : State, T.heap = H → Stand p l e R s m args below meth c T locs cells slots →
    (∃ (v : Option Value) (st₀ t T' : State) (L : List Loc), st₀.heap = H ∧ Stand p l e R s m args below meth c T' (locs ++ L) (cells + mc) (slots + ms) ∧ (∀ q ∈ L, free q.base) ∧ T'.heap = t.heap ∧ T'.vm = t.vm ∧ Qa st₀ (.returned v) t ∧
      Goes p e below T g T' { g with pc := g.pc + 3, stack := v.toList ++ rest }) ∨
    (∃ (q : Addr) (st₀ t T' : State) (L : List Loc) (E : String) (ce : Cell), st₀.heap = H ∧ Stand p l e R s m args below meth c T' (locs ++ L) (cells + mc) (slots + ms) ∧ (∀ z ∈ L, free z.base) ∧ T'.heap = t.heap ∧ T'.vm = t.vm ∧ XC E st₀ t ∧ t.heap[q]? = some ce ∧ ce.vm = .none ∧ s.vm.findClass E = some ce.cls ∧
      Steps p.tables e below (T.setTop g) ((T'.setTop { g with stack := rest }).pushFrame (.throwing q)))
def vx_X {S : Type} (px : S → Prop) (B : String → S → State → Prop) (A : Nat → Prop) : String → State → State → Prop := fun E st t => ∃ u : S, px u ∧ B E u t ∧ va_F A st t
section Runs
variable {p : Program} {l : Launch} {e : Env} {R : Room} {s : State} {m : MethodId} {args : Array Value} {below : List Frame} {meth : Method} {c : Code} {H : Heap} {locs : List Loc} {cells slots : Nat}
variable {y : MethodName} {bytes cc : ByteArray} {maxL nL mc ms n index : Nat} {ret : Option FieldType} {ws : List Cond} {rm : Room} {Pc : Array Value → State → Prop} {Qc : Array Value → State → Outcome → State → Prop} {XC : String → State → State → Prop} {free : Addr → Prop} {Ts : List Cond} {own C : String} {b : Addr} {As rest : List Value} {g : JFrame}
theorem vx_callBack (cb : CallB R s args own index y bytes maxL ret ws rm mc ms n) (hM : vx_Met l y ws rm Pc Qc XC mc ms free) (hbl : FrameBlind Pc) : vx_Back l R p e below s args y 3 8 (PreOf R mc ms Pc) (PostOf Qc mc ms free) (vx_Post XC mc ms free) := by
  obtain ⟨hrc, hrs, hfr, hlo, hws, hcw, -, hini, -⟩ := cb
  exact vx_back (bytes := bytes) (maxL := maxL) (ret := ret) hM hbl hrc hrs hfr hlo hws hcw (fun a' U hW => word_at hW (Or.inl (by first | rfl | simp [Cond.onTables, Cond.keeps, Cond.steady])) hini)
theorem vx_runV (S : CallFix p m c cc nL s args Ts own) (hM : vx_Met l y ws rm Pc Qc XC mc ms free) (cw : CallW R s args own C index y bytes maxL ret ws rm mc ms n) (hp : PreV s H C b Pc As)
    (hg : g.method = m) (hn : As.length = n) (hsize : g.locals.size = nL) (hstack : g.stack = As.reverse ++ .ref b :: rest) (hW : 2 * g.monitorRoom + (rest.map fun v => v.category).sum ≤ 8) (hdg : decode cc g.pc = .ok (.invokevirtual index, 3)) (hf : cells + mc ≤ R.cells ∧ slots + ms ≤ R.slots) :
    vx_Run p l e R s m args below meth c H locs cells slots mc ms g rest (Qc (Value.ref b :: As).toArray) XC free := by
  have hK : vx_Back l R p e below s args y 3 8 (PreOf R mc ms Pc) (PostOf Qc mc ms free) (vx_Post XC mc ms free) := vx_callBack cw.1 hM hp.1
  obtain ⟨⟨-, -, -, -, -, -, hcode, -, hy, hlen, hl⟩, hin, hse⟩ := cw
  obtain ⟨hx, hb, hml, ho, -⟩ := S
  obtain ⟨-, ⟨cellB, hcB, hoB, hclB⟩, hPc⟩ := hp
  intro T hT X
  rcases vx_callV X hx (C := C) (bytes := bytes) (maxL := maxL) (ret := ret) ho hl hin hse hcode hy hK (by rw [hT]; exact hcB) hoB hclB hg (hsize.trans hml.symm) (argsL := As) (rest := rest) (fun sig h => hn.trans (hlen sig h)) hstack hW (by rw [hb]; exact hdg)
    (fun vm₁ hW₁ => ⟨hf.1, hf.2, hPc (T.setVm vm₁) hT hW₁⟩) with ⟨v, vm₁, ⟨U', l2, c2, s2⟩, hW₁, X', ⟨g', mk, t, L, e1, e2, hq, h1, hL, h2, h3⟩, st⟩ | ⟨q, vm₁, ⟨U', l2, c2, s2⟩, hW₁, X', ⟨g', mk, t, L, E, ce, e1, e2, hq, hce, hcv, hcl, h1, hL, h2, h3⟩, st⟩
  · dsimp only [Pt.U, Pt.locs, Pt.cells, Pt.slots] at X' e1 e2 h1 h2 h3 st
    subst h1; subst h2; subst h3
    exact Or.inl ⟨v, (T.setVm vm₁).calling g' mk (Value.ref b :: As).toArray, t, U', L, hT, X', hL, e1, e2, hq, st⟩
  · dsimp only [Pt.U, Pt.locs, Pt.cells, Pt.slots] at X' e1 e2 h1 h2 h3 st hcl
    subst h1; subst h2; subst h3
    exact Or.inr ⟨q, (T.setVm vm₁).calling g' mk (Value.ref b :: As).toArray, t, U', L, E, ce, hT, X', hL, e1, e2, hq, hce, hcv, vx_cls hW₁ hcl, st⟩
theorem vx_runS (S : CallFix p m c cc nL s args Ts own) (hM : vx_Met l y ws rm Pc Qc XC mc ms free) (cw : CallB R s args own index y bytes maxL ret ws rm mc ms n ∧ (Cond.static y).before args s = true) (hp : PreS s H Pc As)
    (hg : g.method = m) (hn : As.length = n) (hsize : g.locals.size = nL) (hstack : g.stack = As.reverse ++ rest) (hW : 2 * g.monitorRoom + (rest.map fun v => v.category).sum ≤ 8) (hdg : decode cc g.pc = .ok (.invokestatic index, 3)) (hf : cells + mc ≤ R.cells ∧ slots + ms ≤ R.slots) :
    vx_Run p l e R s m args below meth c H locs cells slots mc ms g rest (Qc As.toArray) XC free := by
  have hK : vx_Back l R p e below s args y 3 8 (PreOf R mc ms Pc) (PostOf Qc mc ms free) (vx_Post XC mc ms free) := vx_callBack cw.1 hM hp.1
  obtain ⟨⟨-, -, -, -, -, -, hcode, hini, hy, hlen, hl⟩, hstt⟩ := cw
  obtain ⟨hx, hb, hml, ho, -⟩ := S
  intro T hT X
  rcases vx_callS X hx (bytes := bytes) (maxL := maxL) (ret := ret) ho hl hstt hini hcode hy hK hg (hsize.trans hml.symm) (argsL := As) (rest := rest) (fun sig h => hn.trans (hlen sig h)) hstack hW (by rw [hb]; exact hdg)
    (fun vm₁ hW₁ => ⟨hf.1, hf.2, hp.2 (T.setVm vm₁) hT hW₁⟩) with ⟨v, vm₁, ⟨U', l2, c2, s2⟩, hW₁, X', ⟨g', mk, t, L, e1, e2, hq, h1, hL, h2, h3⟩, st⟩ | ⟨q, vm₁, ⟨U', l2, c2, s2⟩, hW₁, X', ⟨g', mk, t, L, E, ce, e1, e2, hq, hce, hcv, hcl, h1, hL, h2, h3⟩, st⟩
  · dsimp only [Pt.U, Pt.locs, Pt.cells, Pt.slots] at X' e1 e2 h1 h2 h3 st
    subst h1; subst h2; subst h3
    exact Or.inl ⟨v, (T.setVm vm₁).calling g' mk As.toArray, t, U', L, hT, X', hL, e1, e2, hq, st⟩
  · dsimp only [Pt.U, Pt.locs, Pt.cells, Pt.slots] at X' e1 e2 h1 h2 h3 st hcl
    subst h1; subst h2; subst h3
    exact Or.inr ⟨q, (T.setVm vm₁).calling g' mk As.toArray, t, U', L, E, ce, hT, X', hL, e1, e2, hq, hce, hcv, vx_cls hW₁ hcl, st⟩
end Runs
section Rows
variable {p : Program} {l : Launch} {e : Env} {R : Room} {s : State} {m : MethodId} {args : Array Value} {below : List Frame} {meth : Method} {c : Code} {H : Heap} {locs : List Loc} {cells slots : Nat} {Q : State → Prop}
variable {mc ms : Nat} {free : Addr → Prop} {A0 A1 : Nat → Prop} {H0 : Heap} {a : Array Value} {pc : Nat} {ls : Array Slot} {st0 rest : List Value}
theorem vx_keep {st₀ t T' : State} {L : List Loc} (h0 : st₀.heap = H) (e1 : T'.heap = t.heap) (hS : va_S A0 H0 H locs) (hA : ∀ q, q < H.size → A1 q → A0 q) (hf : ∀ q, free q → A0 q) (hL : ∀ q ∈ L, free q.base) (hF : va_F A1 st₀ t) :
    H.size ≤ T'.heap.size ∧ (∀ q : Nat, q < H.size → ¬ A1 q → T'.heap[q]? = H[q]?) ∧ va_S A0 H0 T'.heap (locs ++ L) := by
  obtain ⟨hz, hk⟩ := hF
  rw [h0] at hz hk
  exact ⟨by rw [e1]; exact hz, fun q h1 h2 => by rw [e1]; exact hk q h1 h2,
    ⟨Nat.le_trans hS.1 (by rw [e1]; exact hz), fun q h1 h2 => by rw [e1, hk q (Nat.lt_of_lt_of_le h1 hS.1) (fun z => h2 (hA q (Nat.lt_of_lt_of_le h1 hS.1) z))]; exact hS.2.1 q h1 h2, fun q hq => by
      rcases List.mem_append.mp hq with h | h
      · exact hS.2.2 q h
      · exact hf _ (hL q h)⟩⟩
theorem vx_calli {S SX : Type} {post : Int32 → S → Prop} {px : SX → Prop} {B : S → State → Prop} {BX : String → SX → State → Prop} {AX : Nat → Prop} (hr : vx_Run p l e R s m args below meth c H locs cells slots mc ms (F0 m pc ls st0) rest (va_Qi post B A1 a) (vx_X px BX AX) free) (hS : va_S A0 H0 H locs) (hA : ∀ q, q < H.size → A1 q → A0 q) (hf : ∀ q, free q → A0 q) (hAX : ∀ q, q < H.size → AX q → A0 q)
    (kx : ∀ (E : String) (ce : Cell) (q9 : Addr) (u : SX) (t : State) (H1 : Heap) (locs1 : List Loc), t.heap = H1 → s.vm.Alike t.vm → px u → BX E u t → H.size ≤ H1.size → (∀ q : Nat, q < H.size → ¬ AX q → H1[q]? = H[q]?) → va_S A0 H0 H1 locs1 → H1[q9]? = some ce → ce.vm = .none → s.vm.findClass E = some ce.cls → vx_W p l e R s m args below meth c H1 locs1 (cells + mc) (slots + ms) Q (F0 m pc ls rest) q9)
    (kk : ∀ (r : Int32) (u : S) (t : State) (H1 : Heap) (locs1 : List Loc), t.heap = H1 → s.vm.Alike t.vm → post r u → B u t → H.size ≤ H1.size → (∀ q : Nat, q < H.size → ¬ A1 q → H1[q]? = H[q]?) → va_S A0 H0 H1 locs1 → W p l e R s m args below meth c H1 locs1 (cells + mc) (slots + ms) Q (F0 m (pc + 3) ls (.int r :: rest))) : W p l e R s m args below meth c H locs cells slots Q (F0 m pc ls st0) := by
  intro T hT X
  rcases hr T hT X with ⟨v, st₀, t, T', L, h0, X', hL, e1, e2, ⟨⟨r, u, hv, hp, hb⟩, hF⟩, st⟩ | ⟨q, st₀, t, T', L, E, ce, h0, X', hL, e1, e2, ⟨u, hp, hb, hF⟩, hce, hcv, hcl, st⟩
  · cases hv
    obtain ⟨k1, k2, k3⟩ := vx_keep h0 e1 hS hA hf hL hF
    obtain ⟨t2, a1, b1⟩ := kk r u t T'.heap (locs ++ L) e1.symm (by rw [← e2]; exact X'.warmed.alike) hp hb k1 k2 k3 T' rfl X'
    exact ⟨t2, st t2 a1, b1⟩
  · obtain ⟨k1, k2, k3⟩ := vx_keep h0 e1 hS hAX hf hL hF
    obtain ⟨t2, a1, b1⟩ := kx E ce q u t T'.heap (locs ++ L) e1.symm (by rw [← e2]; exact X'.warmed.alike) hp hb k1 k2 k3 (by rw [e1]; exact hce) hcv hcl T' rfl X'
    exact ⟨t2, st.trans a1, b1⟩
theorem vx_calll {S SX : Type} {post : Int64 → S → Prop} {px : SX → Prop} {B : S → State → Prop} {BX : String → SX → State → Prop} {AX : Nat → Prop} (hr : vx_Run p l e R s m args below meth c H locs cells slots mc ms (F0 m pc ls st0) rest (va_Ql post B A1 a) (vx_X px BX AX) free) (hS : va_S A0 H0 H locs) (hA : ∀ q, q < H.size → A1 q → A0 q) (hf : ∀ q, free q → A0 q) (hAX : ∀ q, q < H.size → AX q → A0 q)
    (kx : ∀ (E : String) (ce : Cell) (q9 : Addr) (u : SX) (t : State) (H1 : Heap) (locs1 : List Loc), t.heap = H1 → s.vm.Alike t.vm → px u → BX E u t → H.size ≤ H1.size → (∀ q : Nat, q < H.size → ¬ AX q → H1[q]? = H[q]?) → va_S A0 H0 H1 locs1 → H1[q9]? = some ce → ce.vm = .none → s.vm.findClass E = some ce.cls → vx_W p l e R s m args below meth c H1 locs1 (cells + mc) (slots + ms) Q (F0 m pc ls rest) q9)
    (kk : ∀ (r : Int64) (u : S) (t : State) (H1 : Heap) (locs1 : List Loc), t.heap = H1 → s.vm.Alike t.vm → post r u → B u t → H.size ≤ H1.size → (∀ q : Nat, q < H.size → ¬ A1 q → H1[q]? = H[q]?) → va_S A0 H0 H1 locs1 → W p l e R s m args below meth c H1 locs1 (cells + mc) (slots + ms) Q (F0 m (pc + 3) ls (.long r :: rest))) : W p l e R s m args below meth c H locs cells slots Q (F0 m pc ls st0) := by
  intro T hT X
  rcases hr T hT X with ⟨v, st₀, t, T', L, h0, X', hL, e1, e2, ⟨⟨r, u, hv, hp, hb⟩, hF⟩, st⟩ | ⟨q, st₀, t, T', L, E, ce, h0, X', hL, e1, e2, ⟨u, hp, hb, hF⟩, hce, hcv, hcl, st⟩
  · cases hv
    obtain ⟨k1, k2, k3⟩ := vx_keep h0 e1 hS hA hf hL hF
    obtain ⟨t2, a1, b1⟩ := kk r u t T'.heap (locs ++ L) e1.symm (by rw [← e2]; exact X'.warmed.alike) hp hb k1 k2 k3 T' rfl X'
    exact ⟨t2, st t2 a1, b1⟩
  · obtain ⟨k1, k2, k3⟩ := vx_keep h0 e1 hS hAX hf hL hF
    obtain ⟨t2, a1, b1⟩ := kx E ce q u t T'.heap (locs ++ L) e1.symm (by rw [← e2]; exact X'.warmed.alike) hp hb k1 k2 k3 (by rw [e1]; exact hce) hcv hcl T' rfl X'
    exact ⟨t2, st.trans a1, b1⟩
theorem vx_callf {S SX : Type} {post : UInt32 → S → Prop} {px : SX → Prop} {B : S → State → Prop} {BX : String → SX → State → Prop} {AX : Nat → Prop} (hr : vx_Run p l e R s m args below meth c H locs cells slots mc ms (F0 m pc ls st0) rest (va_Qf post B A1 a) (vx_X px BX AX) free) (hS : va_S A0 H0 H locs) (hA : ∀ q, q < H.size → A1 q → A0 q) (hf : ∀ q, free q → A0 q) (hAX : ∀ q, q < H.size → AX q → A0 q)
    (kx : ∀ (E : String) (ce : Cell) (q9 : Addr) (u : SX) (t : State) (H1 : Heap) (locs1 : List Loc), t.heap = H1 → s.vm.Alike t.vm → px u → BX E u t → H.size ≤ H1.size → (∀ q : Nat, q < H.size → ¬ AX q → H1[q]? = H[q]?) → va_S A0 H0 H1 locs1 → H1[q9]? = some ce → ce.vm = .none → s.vm.findClass E = some ce.cls → vx_W p l e R s m args below meth c H1 locs1 (cells + mc) (slots + ms) Q (F0 m pc ls rest) q9)
    (kk : ∀ (r : UInt32) (u : S) (t : State) (H1 : Heap) (locs1 : List Loc), t.heap = H1 → s.vm.Alike t.vm → post r u → B u t → H.size ≤ H1.size → (∀ q : Nat, q < H.size → ¬ A1 q → H1[q]? = H[q]?) → va_S A0 H0 H1 locs1 → W p l e R s m args below meth c H1 locs1 (cells + mc) (slots + ms) Q (F0 m (pc + 3) ls (.float r :: rest))) : W p l e R s m args below meth c H locs cells slots Q (F0 m pc ls st0) := by
  intro T hT X
  rcases hr T hT X with ⟨v, st₀, t, T', L, h0, X', hL, e1, e2, ⟨⟨r, u, hv, hp, hb⟩, hF⟩, st⟩ | ⟨q, st₀, t, T', L, E, ce, h0, X', hL, e1, e2, ⟨u, hp, hb, hF⟩, hce, hcv, hcl, st⟩
  · cases hv
    obtain ⟨k1, k2, k3⟩ := vx_keep h0 e1 hS hA hf hL hF
    obtain ⟨t2, a1, b1⟩ := kk r u t T'.heap (locs ++ L) e1.symm (by rw [← e2]; exact X'.warmed.alike) hp hb k1 k2 k3 T' rfl X'
    exact ⟨t2, st t2 a1, b1⟩
  · obtain ⟨k1, k2, k3⟩ := vx_keep h0 e1 hS hAX hf hL hF
    obtain ⟨t2, a1, b1⟩ := kx E ce q u t T'.heap (locs ++ L) e1.symm (by rw [← e2]; exact X'.warmed.alike) hp hb k1 k2 k3 (by rw [e1]; exact hce) hcv hcl T' rfl X'
    exact ⟨t2, st.trans a1, b1⟩
theorem vx_calld {S SX : Type} {post : UInt64 → S → Prop} {px : SX → Prop} {B : S → State → Prop} {BX : String → SX → State → Prop} {AX : Nat → Prop} (hr : vx_Run p l e R s m args below meth c H locs cells slots mc ms (F0 m pc ls st0) rest (va_Qd post B A1 a) (vx_X px BX AX) free) (hS : va_S A0 H0 H locs) (hA : ∀ q, q < H.size → A1 q → A0 q) (hf : ∀ q, free q → A0 q) (hAX : ∀ q, q < H.size → AX q → A0 q)
    (kx : ∀ (E : String) (ce : Cell) (q9 : Addr) (u : SX) (t : State) (H1 : Heap) (locs1 : List Loc), t.heap = H1 → s.vm.Alike t.vm → px u → BX E u t → H.size ≤ H1.size → (∀ q : Nat, q < H.size → ¬ AX q → H1[q]? = H[q]?) → va_S A0 H0 H1 locs1 → H1[q9]? = some ce → ce.vm = .none → s.vm.findClass E = some ce.cls → vx_W p l e R s m args below meth c H1 locs1 (cells + mc) (slots + ms) Q (F0 m pc ls rest) q9)
    (kk : ∀ (r : UInt64) (u : S) (t : State) (H1 : Heap) (locs1 : List Loc), t.heap = H1 → s.vm.Alike t.vm → post r u → B u t → H.size ≤ H1.size → (∀ q : Nat, q < H.size → ¬ A1 q → H1[q]? = H[q]?) → va_S A0 H0 H1 locs1 → W p l e R s m args below meth c H1 locs1 (cells + mc) (slots + ms) Q (F0 m (pc + 3) ls (.double r :: rest))) : W p l e R s m args below meth c H locs cells slots Q (F0 m pc ls st0) := by
  intro T hT X
  rcases hr T hT X with ⟨v, st₀, t, T', L, h0, X', hL, e1, e2, ⟨⟨r, u, hv, hp, hb⟩, hF⟩, st⟩ | ⟨q, st₀, t, T', L, E, ce, h0, X', hL, e1, e2, ⟨u, hp, hb, hF⟩, hce, hcv, hcl, st⟩
  · cases hv
    obtain ⟨k1, k2, k3⟩ := vx_keep h0 e1 hS hA hf hL hF
    obtain ⟨t2, a1, b1⟩ := kk r u t T'.heap (locs ++ L) e1.symm (by rw [← e2]; exact X'.warmed.alike) hp hb k1 k2 k3 T' rfl X'
    exact ⟨t2, st t2 a1, b1⟩
  · obtain ⟨k1, k2, k3⟩ := vx_keep h0 e1 hS hAX hf hL hF
    obtain ⟨t2, a1, b1⟩ := kx E ce q u t T'.heap (locs ++ L) e1.symm (by rw [← e2]; exact X'.warmed.alike) hp hb k1 k2 k3 (by rw [e1]; exact hce) hcv hcl T' rfl X'
    exact ⟨t2, st.trans a1, b1⟩
theorem vx_callv {S SX : Type} {post : S → Prop} {px : SX → Prop} {B : S → State → Prop} {BX : String → SX → State → Prop} {AX : Nat → Prop} (hr : vx_Run p l e R s m args below meth c H locs cells slots mc ms (F0 m pc ls st0) rest (va_Qv post B A1 a) (vx_X px BX AX) free) (hS : va_S A0 H0 H locs) (hA : ∀ q, q < H.size → A1 q → A0 q) (hf : ∀ q, free q → A0 q) (hAX : ∀ q, q < H.size → AX q → A0 q)
    (kx : ∀ (E : String) (ce : Cell) (q9 : Addr) (u : SX) (t : State) (H1 : Heap) (locs1 : List Loc), t.heap = H1 → s.vm.Alike t.vm → px u → BX E u t → H.size ≤ H1.size → (∀ q : Nat, q < H.size → ¬ AX q → H1[q]? = H[q]?) → va_S A0 H0 H1 locs1 → H1[q9]? = some ce → ce.vm = .none → s.vm.findClass E = some ce.cls → vx_W p l e R s m args below meth c H1 locs1 (cells + mc) (slots + ms) Q (F0 m pc ls rest) q9)
    (kk : ∀ (u : S) (t : State) (H1 : Heap) (locs1 : List Loc), t.heap = H1 → s.vm.Alike t.vm → post u → B u t → H.size ≤ H1.size → (∀ q : Nat, q < H.size → ¬ A1 q → H1[q]? = H[q]?) → va_S A0 H0 H1 locs1 → W p l e R s m args below meth c H1 locs1 (cells + mc) (slots + ms) Q (F0 m (pc + 3) ls (rest))) : W p l e R s m args below meth c H locs cells slots Q (F0 m pc ls st0) := by
  intro T hT X
  rcases hr T hT X with ⟨v, st₀, t, T', L, h0, X', hL, e1, e2, ⟨⟨u, hv, hp, hb⟩, hF⟩, st⟩ | ⟨q, st₀, t, T', L, E, ce, h0, X', hL, e1, e2, ⟨u, hp, hb, hF⟩, hce, hcv, hcl, st⟩
  · cases hv
    obtain ⟨k1, k2, k3⟩ := vx_keep h0 e1 hS hA hf hL hF
    obtain ⟨t2, a1, b1⟩ := kk u t T'.heap (locs ++ L) e1.symm (by rw [← e2]; exact X'.warmed.alike) hp hb k1 k2 k3 T' rfl X'
    exact ⟨t2, st t2 a1, b1⟩
  · obtain ⟨k1, k2, k3⟩ := vx_keep h0 e1 hS hAX hf hL hF
    obtain ⟨t2, a1, b1⟩ := kx E ce q u t T'.heap (locs ++ L) e1.symm (by rw [← e2]; exact X'.warmed.alike) hp hb k1 k2 k3 (by rw [e1]; exact hce) hcv hcl T' rfl X'
    exact ⟨t2, st.trans a1, b1⟩
/-- caught by the row x of this method's table; the rows ahead don't take it -/
theorem vx_catch {own name : String} {E : String} {ce : Cell} {q : Addr} (hown : s.vm.findClass own = some m.cls) (pre : List ExceptionTableEntry) (x : ExceptionTableEntry) (suf : List ExceptionTableEntry) (hsplit : c.exceptionTable.toList = pre ++ x :: suf)
    (hpass : ∀ z ∈ pre, covers z pc = false ∨ (z.catchType ≠ 0 ∧ ∃ nm : String, (Cond.classLink own z.catchType nm).before args s = true ∧ va_Nc E nm s)) (hx : covers x pc = true) (h0 : x.catchType ≠ 0)
    (hlink : (Cond.classLink own x.catchType name).before args s = true) (hcast : (Cond.castable E name).before args s = true) (hcell : H[q]? = some ce) (hv : ce.vm = .none) (hcl : s.vm.findClass E = some ce.cls)
    (kk : W p l e R s m args below meth c H locs cells slots Q (F0 m x.handlerPc ls [.ref q])) : vx_W p l e R s m args below meth c H locs cells slots Q (F0 m pc ls rest) q := by
  intro T hT X
  have hpl : e.platform.magicAccessors = ({} : Platform).magicAccessors := by rw [X.admits.platform]
  obtain ⟨c3, c4, hc3, hc4, hasg⟩ := Cond.castable_spec hcast
  cases Option.some.inj (hc3.symm.trans hcl)
  obtain ⟨c5, hc5, hcl5⟩ := Cond.classLink_spec hown hlink e.platform hpl
  cases Option.some.inj (hc4.symm.trans hc5)
  obtain ⟨vm', X', st⟩ := X.thenCaughtThrough q (g := F0 m pc ls rest) rfl (Steps.refl _) (by rw [hT]; exact hcell) (by rw [hv]; rfl) (by obtain ⟨k9, h9, -⟩ := Vm.findClass_spec hcl; exact ⟨k9, h9⟩) pre x suf hsplit
    (fun z hz => by
      rcases hpass z hz with h | ⟨hz0, nm, hl1, hn1⟩
      · exact Or.inl h
      · obtain ⟨c6, hc6, hcl6⟩ := Cond.classLink_spec hown hl1 e.platform hpl
        obtain ⟨a8, b8, h1, h2, h3⟩ := hn1
        cases Option.some.inj (h1.symm.trans hcl)
        cases Option.some.inj (h2.symm.trans hc6)
        exact Or.inr ⟨hz0, _, hcl6, h3⟩) hx (Or.inr ⟨h0, c4, hcl5, hasg⟩)
  obtain ⟨t, a1, b1⟩ := kk (T.setVm vm') hT X'
  exact ⟨t, st.trans a1, b1⟩
end Rows
section Ends
variable {p : Program} {l : Launch} {e : Env} {R : Room} {s : State} {m : MethodId} {args : Array Value} {below : List Frame} {meth : Method} {c : Code} {H : Heap} {locs : List Loc} {cells slots : Nat} {Q : State → Prop}
variable {mc ms : Nat} {free : Addr → Prop} {A0 A1 : Nat → Prop} {H0 : Heap} {a : Array Value} {ls : Array Slot} {st0 rest : List Value}
variable {Qc : Array Value → State → Outcome → State → Prop} {XC : String → State → State → Prop}
/-- what a body that may throw owes at its end -/
def vx_MQ (below : List Frame) (Qc : Array Value → State → Outcome → State → Prop) (XC : String → State → State → Prop) (a : Array Value) (s : State) (mc ms : Nat) (free : Addr → Prop) : State → Prop := fun t =>
  ∃ o, t.status = .running ∧ Ended t below o ∧ vx_Q Qc XC mc ms free a s o t
theorem vx_ret {g : JFrame} {mc ms : Nat} (k : W p l e R s m args below meth c H locs cells slots (MQ below Qc args s mc ms free) g) : W p l e R s m args below meth c H locs cells slots (vx_MQ below Qc XC args s mc ms free) g := by
  intro T hT X
  obtain ⟨t, a1, o, b1, b2, b3, b4⟩ := k T hT X
  exact ⟨t, a1, o, b1, b2, Or.inl ⟨b3, b4⟩⟩
/-- not caught here: it goes on to the caller -/
theorem vx_widen {g : JFrame} {q : Addr} {k n : Nat} (h1 : cells ≤ k) (h2 : slots ≤ n) (kk : vx_W p l e R s m args below meth c H locs k n Q g q) : vx_W p l e R s m args below meth c H locs cells slots Q g q := fun T hT X => kk T hT (stand_widen X h1 h2)
theorem vx_out {pc : Nat} {E : String} {ce : Cell} {q : Addr} {mc ms : Nat} (hout : ∀ x ∈ c.exceptionTable.toList, covers x pc = false) (hlocks : meth.locks = false) (hcell : H[q]? = some ce) (hv : ce.vm = .none) (hcl : s.vm.findClass E = some ce.cls)
    (hx : ∀ t : State, t.heap = H → s.vm.Alike t.vm → XC E s t) (hf : ∀ z ∈ locs, free z.base) (hc : cells ≤ mc) (hs : slots ≤ ms) :
    vx_W p l e R s m args below meth c H locs cells slots (vx_MQ below Qc XC args s mc ms free) (F0 m pc ls rest) q := by
  intro T hT X
  obtain ⟨st1, hrun, hend, hW, hsm⟩ := X.leaveThrown q (g := F0 m pc ls rest) rfl rfl rfl hout hlocks
  have hcell9 : (T.setFrames (.throwing q :: below)).heap[q]? = some ce := by
    show T.heap[q]? = some ce
    rw [hT]; exact hcell
  exact ⟨_, st1, .threw q, hrun, hend, Or.inr ⟨q, rfl, E, ce, locs, hx _ hT hW.alike, hcell9, hv, hcl, hW, hsm.mono hc hs, hf⟩⟩
theorem vx_frame {U : State} {k n : Nat} (h : s.sameButNew ({ U with vm := s.vm } : State) locs k n) : s.heap.size ≤ U.heap.size ∧ ∀ q : Nat, q < s.heap.size → (∀ z ∈ locs, z.base ≠ q) → U.heap[q]? = s.heap[q]? := by
  obtain ⟨-, h2, -, -, -, h6⟩ := h
  refine ⟨h2, fun q hq hz => ?_⟩
  obtain ⟨c9, e1, e2, e3, e4⟩ := h6 q _ (Array.getElem?_eq_getElem hq)
  have hs : c9.slots = (s.heap[q]).slots := Array.ext_getElem? fun i => e4 i fun hm => hz _ hm rfl
  have h9 : c9 = s.heap[q] := by
    rw [hs] at e2
    exact e2
  have e5 : U.heap[q]? = some c9 := e1
  rw [e5, h9, Array.getElem?_eq_getElem hq]
/-- the words of a throw but the four that speak of the heap -/
def vx_no (w : Cond) : Bool := decide (w ≠ .isRef (.static Bundle.tN "UNASSIGNED_STACK" Bundle.steD)) && decide (w ≠ .isRef (.static Bundle.tN "SUPPRESSED_SENTINEL" Bundle.listD)) && decide (w ≠ .laysStatic Bundle.tN "UNASSIGNED_STACK" Bundle.steD) && decide (w ≠ .laysStatic Bundle.tN "SUPPRESSED_SENTINEL" Bundle.listD)
def vx_at0 (own : String) (ic : Nat) (X : String) (names : List String) : List Cond := (Bundle.ownAtoms0 own ic X names).filter vx_no
def vx_atS (own : String) (ic : Nat) (X : String) (names : List String) : List Cond := (Bundle.ownAtoms own ic X names).filter vx_no
/-- a word that the tables alone decide, or a good one -/
def vx_ot (w : Cond) : Bool := w.onTables || goodWord w
theorem vx_ot_at {args a' : Array Value} {s U : State} {w : Cond} (hW : s.WarmedH U.vm) (hvm : s.vm = U.vm) (hg : vx_ot w = true) (h : w.before args s = true) : w.before a' U = true := by
  simp only [vx_ot, Bool.or_eq_true] at hg
  rcases hg with hg | hg
  · exact va_tabs hg hvm h
  · exact word_at hW (good_of_word hg) h
/-- a list's words: the good ones out of the method's own list, the others by premises of their own -/
theorem vx_hat {args : Array Value} {s : State} {L B : List Cond} (h1 : ∀ w ∈ L.filter goodWord, w.before args s = true) (h2 : ∀ w ∈ L.filter (fun w => !goodWord w), w ∈ B) (h3 : ∀ w ∈ B, w.before args s = true) : ∀ w ∈ L, w.before args s = true := by
  intro w hw
  by_cases g : goodWord w = true
  · exact h1 w (List.mem_filter.mpr ⟨hw, g⟩)
  · refine h3 w (h2 w (List.mem_filter.mpr ⟨hw, ?_⟩))
    show (!goodWord w) = true
    cases hgw : goodWord w
    · rfl
    · exact absurd hgw g
theorem vx_c {args : Array Value} {s : State} {w : Cond} {B : List Cond} (h : w.before args s = true) (t : ∀ w ∈ B, w.before args s = true) : ∀ w' ∈ w :: B, w'.before args s = true := fun w' h' => (List.mem_cons.mp h').elim (fun e => by rw [e]; exact h) (t w')
theorem vx_n {args : Array Value} {s : State} : ∀ w ∈ ([] : List Cond), w.before args s = true := fun _ h => nomatch h
theorem vx_own {args : Array Value} {s : State} {L : List Cond} (h1 : ∀ w ∈ L.filter vx_no, w.before args s = true)
    (hU : (Cond.isRef (.static Bundle.tN "UNASSIGNED_STACK" Bundle.steD)).before args s = true) (hN : (Cond.isRef (.static Bundle.tN "SUPPRESSED_SENTINEL" Bundle.listD)).before args s = true)
    (lU : (Cond.laysStatic Bundle.tN "UNASSIGNED_STACK" Bundle.steD).before args s = true) (lN : (Cond.laysStatic Bundle.tN "SUPPRESSED_SENTINEL" Bundle.listD).before args s = true) : ∀ w ∈ L, w.before args s = true := by
  intro w hw
  by_cases e1 : w = .isRef (.static Bundle.tN "UNASSIGNED_STACK" Bundle.steD)
  · rw [e1]; exact hU
  · by_cases e2 : w = .isRef (.static Bundle.tN "SUPPRESSED_SENTINEL" Bundle.listD)
    · rw [e2]; exact hN
    · by_cases e3 : w = .laysStatic Bundle.tN "UNASSIGNED_STACK" Bundle.steD
      · rw [e3]; exact lU
      · by_cases e4 : w = .laysStatic Bundle.tN "SUPPRESSED_SENTINEL" Bundle.listD
        · rw [e4]; exact lN
        · exact h1 w (List.mem_filter.mpr ⟨hw, by unfold vx_no; rw [decide_eq_true e1, decide_eq_true e2, decide_eq_true e3, decide_eq_true e4]; rfl⟩)
/-- where a static field lies, its class's statics cell in H -/
def vx_L (C n d : String) (A : Nat → Prop) (U : State) (H : Heap) : Prop := ∃ (c : ClassId) (k : Class) (i : Nat) (f : Field) (a : Nat) (cell : Cell), U.vm.findClass C = some c ∧ U.fieldFound? C n d = some (c, k, i, f) ∧ f.isStatic = true ∧ k.statics = some a ∧ H[a]? = some cell ∧ cell.vm.isStatics = true ∧ cell.cls = c ∧ f.slot < cell.slots.size ∧ k.staticTypes[f.slot]? = some f.type ∧ ¬ A a
theorem vx_L.moved {C n d : String} {A : Nat → Prop} {u U : State} {H : Heap} (hvm : u.vm.Alike U.vm) (h : vx_L C n d A u H) : vx_L C n d A U H := by
  obtain ⟨c, k, i, f, a, cell, h1, h2, h3, h4, h5, h6, h7, h8, h9, h10⟩ := h
  obtain ⟨k', hi', he⟩ := State.fieldFound?_setVm hvm h2
  exact ⟨c, k', i, f, a, cell, by rw [hvm.findClass]; exact h1, hi', h3, by rw [he]; exact h4, h5, h6, h7, h8, by rw [he]; exact h9, h10⟩
theorem vx_L.kept {C n d : String} {A : Nat → Prop} {U : State} {H H1 : Heap} (h : vx_L C n d A U H) (hq : ∀ a : Nat, a < H.size → ¬ A a → H1[a]? = H[a]?) : vx_L C n d A U H1 := by
  obtain ⟨c, k, i, f, a, cell, h1, h2, h3, h4, h5, h6, h7, h8, h9, h10⟩ := h
  exact ⟨c, k, i, f, a, cell, h1, h2, h3, h4, by rw [hq a (Array.getElem?_eq_some_iff.mp h5).1 h10]; exact h5, h6, h7, h8, h9, h10⟩
theorem vx_L.narrow {C n d : String} {A B : Nat → Prop} {U : State} {H : Heap} (h : vx_L C n d A U H) (hAB : ∀ q, B q → A q) : vx_L C n d B U H := by
  obtain ⟨c, k, i, f, a, cell, h1, h2, h3, h4, h5, h6, h7, h8, h9, h10⟩ := h
  exact ⟨c, k, i, f, a, cell, h1, h2, h3, h4, h5, h6, h7, h8, h9, fun z => h10 (hAB _ z)⟩
theorem vx_L.word {C n d : String} {A : Nat → Prop} {s : State} {args : Array Value} (h : vx_L C n d A s s.heap) : (Cond.laysStatic C n d).before args s = true := by
  obtain ⟨c, k, i, f, a, cell, h1, h2, h3, h4, h5, h6, h7, h8, h9, -⟩ := h
  show (Cond.laysStatic C n d).holds args s none s [] = true
  exact Cond.laysStatic_of h1 h2 h3 h4 h5 h6 h7 h8 h9
/-- .. and what it holds: null or some reference -/
def vx_Zq (C n d : String) (A : Nat → Prop) (U : State) (H : Heap) : Prop := va_Zq C n d A U H ∧ vx_L C n d A U H
theorem vx_Zq.moved {C n d : String} {A : Nat → Prop} {u U : State} {H : Heap} (hvm : u.vm.Alike U.vm) (h : vx_Zq C n d A u H) : vx_Zq C n d A U H := ⟨va_Zq.moved hvm h.1, vx_L.moved hvm h.2⟩
theorem vx_Zq.kept {C n d : String} {A : Nat → Prop} {U : State} {H H1 : Heap} (h : vx_Zq C n d A U H) (hq : ∀ a : Nat, a < H.size → ¬ A a → H1[a]? = H[a]?) : vx_Zq C n d A U H1 := ⟨va_Zq.kept h.1 hq, vx_L.kept h.2 hq⟩
theorem vx_Zq.narrow {C n d : String} {A B : Nat → Prop} {U : State} {H : Heap} (h : vx_Zq C n d A U H) (hAB : ∀ q, B q → A q) : vx_Zq C n d B U H := ⟨va_Zq.narrow h.1 hAB, vx_L.narrow h.2 hAB⟩
theorem vx_Zqof {args : Array Value} {s : State} {C n d : String} {A : Nat → Prop} (hl : (Cond.laysStatic C n d).before args s = true) (hini : (Cond.initialized C).before args s = true) (h : (Cond.isRef (.static C n d)).before args s = true) (hA : ∀ a : Nat, a < s.heap.size → ¬ A a) : vx_Zq C n d A s s.heap := by
  refine ⟨va_Zqof hl hini h hA, ?_⟩
  obtain ⟨c, k, i, f, a, cell, h1, h2, h3, h4, h5, h6, h7, h8, h9⟩ := Cond.laysStatic_spec hl
  exact ⟨c, k, i, f, a, cell, h1, h2, h3, h4, h5, h6, h7, h8, h9, hA a (Array.getElem?_eq_some_iff.mp h5).1⟩
theorem vx_isRef {C n d : String} {v : Value} {A : Nat → Prop} {s : State} {args : Array Value} (h : va_Z C n d v A s s.heap) (hv : v.isRef = true) : (Cond.isRef (.static C n d)).before args s = true := by
  obtain ⟨cf, kf, fi, f, a, cell, h1, h2, h3, h4, h5, h6, h7, -⟩ := h
  have he : (Term.static C n d).eval args s none [] s = some v := by
    simp [Term.eval, State.fieldNamed?, h1, h2, h4, h5, h6, h7]
  simp only [Cond.before, Cond.holds, Cond.value, he]
  cases v <;> simp_all [Value.isRef]
theorem vx_isRefq {C n d : String} {A : Nat → Prop} {s : State} {args : Array Value} (h : va_Zq C n d A s s.heap) : (Cond.isRef (.static C n d)).before args s = true := by
  rcases h with h | ⟨t, h⟩
  · exact vx_isRef h rfl
  · exact vx_isRef h rfl
/-- the same frame, seen from here: as if the method were called anew in this heap -/
theorem vx_rebase {T : State} (X : Stand p l e R s m args below meth c T locs cells slots) {R' : Room} (hf : R'.frames ≤ R.frames) (hl : R'.locals ≤ R.locals) (hc : cells + R'.cells ≤ R.cells) (hs : slots + R'.slots ≤ R.slots) :
    Stand p l e R' ((T.setVm s.vm).setFrames (.invoking m args :: below)) m args below meth c T [] 0 0 := by
  have htop : (T.setVm s.vm).topJava?.isSome := X.here.top
  have hF : ((T.setVm s.vm).setFrames (.invoking m args :: below)).frames = .invoking m args :: below := State.frames_setFrames _ (State.cur_lt_of_top htop)
  obtain ⟨g₀, hg0⟩ := Option.isSome_iff_exists.mp htop
  obtain ⟨r, hr⟩ := State.topJava?_eq_some.mp hg0
  have hl9 : e.platform.stackLimits (T.setVm s.vm).me = e.platform.stackLimits s.me := X.limits
  have hb9 : (T.setVm s.vm).me.stackBytes = s.me.stackBytes := X.bytes
  refine ⟨X.admits, X.cas, X.clock, hF, ?_, X.hears, X.method, X.code, X.here, X.tail, X.warmed, ?_, ?_, ?_⟩
  · have h := X.room
    have hU : ((T.setVm s.vm).setFrames (.invoking m args :: below)).localsInUse = s.localsInUse := by
      rw [State.localsInUse_invoking hF (meth := meth) (c := c) X.method X.code, State.localsInUse_invoking X.frames X.method X.code]
    simp only [State.hasRoom, Bool.and_eq_true, decide_eq_true_eq] at h ⊢
    obtain ⟨⟨⟨⟨h1, h2, h3, h4, h5, h6⟩, h7⟩, h8⟩, h9⟩ := h
    rw [X.frames, List.length_cons] at h2 h3
    have q1 := X.heapSize
    have q2 := X.used
    simp only [hF, hU, List.length_cons, State.stackLimits_setFrames, State.stackBytes_setFrames, hl9, hb9]
    refine ⟨⟨⟨⟨by omega, by omega, by omega, by omega, by omega, h6⟩, ?_⟩, ?_⟩, X.book⟩
    · show T.heap.size + R'.cells ≤ e.platform.maxCells
      omega
    · show T.slotsUsed + R'.slots ≤ e.platform.maxSlots
      omega
  · rw [State.stackLimits_setFrames]; rfl
  · rw [State.stackBytes_setFrames]; rfl
  · refine ⟨?_, Nat.le_refl _, Nat.le_refl _, ?_, ?_, fun a c9 h9 => ⟨c9, h9, rfl, rfl, fun _ _ => rfl⟩⟩
    · obtain ⟨t, ht, -⟩ := State.frames_cons hr
      show T.setVm s.vm = { ((T.setVm s.vm).setFrames (.invoking m args :: below)).setFrames (T.setVm s.vm).frames with heap := T.heap, slotsUsed := T.slotsUsed }
      rw [State.setFrames_setFrames, State.setFrames_self ht]
      rfl
    · show T.slotsUsed = T.slotsUsed + ((T.heap.toList.drop T.heap.size).map (·.slots.size)).sum
      rw [List.drop_eq_nil_of_le (Nat.le_of_eq Array.length_toList)]
      rfl
    · show ((T.heap.toList.drop T.heap.size).map (·.slots.size)).sum ≤ 0
      rw [List.drop_eq_nil_of_le (Nat.le_of_eq Array.length_toList)]
      exact Nat.le_refl _
/-- 'throw new E()': new; dup; invokespecial; athrow -/
theorem vx_throw0 {cc : ByteArray} {pc : Nat} (hexec : p.tables.exec = Jvm.exec) (hb : c.code = cc) (hl : l.stackTraces = false) {own cls : String} {names : List String} {ik ic mc ms : Nat} {A : Nat → Prop}
    (hown : s.vm.findClass own = some m.cls) (hcls : Bundle.fit cls = true) (hnames : ∀ n ∈ names, Bundle.fit n = true)
    (hk : (Cond.classLink own ik cls).before args s = true) (hini : (Cond.initialized cls).before args s = true) (hat : ∀ w ∈ vx_at0 own ic cls names, w.before args s = true)
    (hgood : ∀ w ∈ Cond.classLink own ik cls :: Cond.initialized cls :: vx_at0 own ic cls names, vx_ot w = true)
    (hU : vx_Zq Bundle.tN "UNASSIGNED_STACK" Bundle.steD A s s.heap) (hN : vx_Zq Bundle.tN "SUPPRESSED_SENTINEL" Bundle.listD A s s.heap) (hS : va_S A s.heap H locs) (hsize : ls.size = c.maxLocals)
    (d0 : decode cc pc = .ok (.new ik, 3)) (d3 : decode cc (pc + 3) = .ok (.dup, 1)) (d4 : decode cc (pc + 4) = .ok (.invokespecial ic, 3)) (d7 : decode cc (pc + 7) = .ok (.athrow, 1))
    (hout : ∀ x ∈ c.exceptionTable.toList, covers x (pc + 7) = false)
    (hRframes : names.length + 3 < R.frames) (hRlocals : (rest.map fun v => v.category).sum + (13 * (names.length + 1) + 42) ≤ R.locals) (hRcells : cells + 1 ≤ R.cells) (hRslots : slots + 6 ≤ R.slots) (hlocks : meth.locks = false)
    (hx : ∀ t : State, s.vm.Alike t.vm → H.size ≤ t.heap.size → (∀ q : Nat, q < H.size → t.heap[q]? = H[q]?) → XC cls s t)
    (hf : ∀ z ∈ locs, free z.base) (hc : cells + 1 ≤ mc) (hs : slots + 6 ≤ ms) :
    W p l e R s m args below meth c H locs cells slots (vx_MQ below Qc XC args s mc ms free) (F0 m pc ls rest) := by
  intro T hT X
  have htr : e.platform.stackTraces = false := (show e.platform.stackTraces = l.stackTraces by rw [X.admits.platform]).trans hl
  have Y := vx_rebase X (R' := { frames := R.frames, locals := R.locals, cells := 1, slots := 6 }) (Nat.le_refl _) (Nat.le_refl _) hRcells hRslots
  obtain ⟨s', hA⟩ : ∃ z, z = (T.setVm s.vm).setFrames (.invoking m args :: below) := ⟨_, rfl⟩
  rw [← hA] at Y
  have hvm : s'.vm = s.vm := by rw [hA]; rfl
  have hhp : s'.heap = H := by rw [hA]; exact hT
  have hW0 : s.WarmedH s'.vm := by rw [hvm]; exact State.WarmedH.refl s
  have hat' : ∀ w ∈ vx_at0 own ic cls names, w.before args s' = true := fun w hw => vx_ot_at hW0 hvm.symm (hgood w (List.mem_cons_of_mem _ (List.mem_cons_of_mem _ hw))) (hat w hw)
  have hk' : (Cond.classLink own ik cls).before args s' = true := vx_ot_at hW0 hvm.symm (hgood _ List.mem_cons_self) hk
  have hini' : (Cond.initialized cls).before args s' = true := vx_ot_at hW0 hvm.symm (hgood _ (List.mem_cons_of_mem _ List.mem_cons_self)) hini
  have hU' : vx_Zq Bundle.tN "UNASSIGNED_STACK" Bundle.steD A s' s'.heap := by rw [hhp]; exact vx_Zq.moved hW0.alike (hU.kept hS.2.1)
  have hN' : vx_Zq Bundle.tN "SUPPRESSED_SENTINEL" Bundle.listD A s' s'.heap := by rw [hhp]; exact vx_Zq.moved hW0.alike (hN.kept hS.2.1)
  have h : ∀ w ∈ Bundle.ownAtoms0 own ic cls names, w.before args s' = true := vx_own hat' (vx_isRefq hU'.1) (vx_isRefq hN'.1) hU'.2.word hN'.2.word
  have hown' : s'.vm.findClass own = some m.cls := by rw [hvm]; exact hown
  have hins : (Cond.instantiable cls 6).before args s' = true := h _ (by simp [Bundle.ownAtoms0])
  obtain ⟨vm₁, cX, kX, hfX, hkX, -, -, X₁, st1⟩ := Y.newCold hexec (own := own) (C := cls) (index := ik) (n := 6) hown' hk' hins hini'
    (g := F0 m pc ls rest) rfl (by rw [hb]; exact d0) (Nat.le_refl _) (Nat.le_refl _)
  generalize hT1 : (T.setVm vm₁).pushCell { cls := cX, slots := kX.instanceTypes.map defaultValue, vm := .none } = T1 at X₁ st1
  have hcat : (Value.ref T.heap.size).category = 1 := rfl
  have hcellA : T1.heap[T.heap.size]? = some (freshCell cX kX) := by rw [← hT1]; exact State.heap_pushCell_size _ _
  have d3' : decode c.code (pc + 3) = .ok (.dup, 1) := by rw [hb]; exact d3
  obtain ⟨U, hsteps, hrun, hend, hW, hsame, ce, hce, hO⟩ := X₁.ctorThrow0 hexec htr (own := own) (cls := cls) (names := names) (ic := ic) hown' hcls hnames h (fun x hx => nomatch hx) hfX hkX hcellA (by rw [hhp, hT]; exact Nat.le_refl _)
    (g := { method := m, pc := pc + 4, locals := ls, stack := .ref T.heap.size :: .ref T.heap.size :: rest, locked := none }) rfl hsize rfl rfl (rest := rest) rfl
    (by rw [hb]; exact d4) (by rw [hb]; exact d7) hout hRframes (by simp only [List.map_cons, List.sum_cons, hcat]; omega) hlocks
  obtain ⟨f1, f2⟩ := vx_frame hsame
  rw [hhp] at f1 f2
  have hWs : s.WarmedH U.vm := State.WarmedH.trans hW0 hW
  have hcl : s.vm.findClass cls = some ce.cls := by
    have h9 := hO.cls
    rw [hvm] at h9
    exact h9
  have hall : s.sameButNew ({ U with vm := s.vm } : State) locs mc ms := by
    subst hA
    obtain ⟨e1, e2⟩ := hsame
    rw [State.setFrames_setFrames] at e1
    have h2 : (T.setVm s.vm).sameButNew ({ U with vm := s.vm } : State) [] (0 + 1) (0 + 6) := ⟨e1, e2⟩
    have h3 := X.same.trans h2
    rw [List.append_nil] at h3
    exact h3.mono hc hs
  refine ⟨U, ?_, .threw T.heap.size, hrun, hend, Or.inr ⟨T.heap.size, rfl, cls, ce, locs, hx U hWs.alike f1 (fun q hq => f2 q hq (fun z hz => nomatch hz)), hce, hO.vm, hcl, hWs, hall, hf⟩⟩
  refine st1 _ ?_
  show Steps p.tables e below (T1.setTop { method := m, pc := pc + 3, locals := ls, stack := .ref T.heap.size :: rest, locked := none }) _
  jvm_step X₁.here [X₁.here.top, hexec, d3', Value.category]
  exact hsteps
/-- 'throw new E("text")': new; dup; ldc; invokespecial; athrow -/
theorem vx_throwS {cc : ByteArray} {pc : Nat} (hexec : p.tables.exec = Jvm.exec) (hb : c.code = cc) (hl : l.stackTraces = false) {own cls text : String} {names : List String} {ik is ic mc ms sa : Nat} {A : Nat → Prop}
    (hown : s.vm.findClass own = some m.cls) (hcls : Bundle.fit cls = true) (hnames : ∀ n ∈ names, Bundle.fit n = true)
    (hk : (Cond.classLink own ik cls).before args s = true) (hini : (Cond.initialized cls).before args s = true) (hstr : vk_R own is text sa s) (hat : ∀ w ∈ vx_atS own ic cls names, w.before args s = true)
    (hgood : ∀ w ∈ Cond.classLink own ik cls :: Cond.initialized cls :: vx_atS own ic cls names, vx_ot w = true)
    (hU : vx_Zq Bundle.tN "UNASSIGNED_STACK" Bundle.steD A s s.heap) (hN : vx_Zq Bundle.tN "SUPPRESSED_SENTINEL" Bundle.listD A s s.heap) (hS : va_S A s.heap H locs) (hsize : ls.size = c.maxLocals)
    (d0 : decode cc pc = .ok (.new ik, 3)) (d3 : decode cc (pc + 3) = .ok (.dup, 1)) (d4 : decode cc (pc + 4) = .ok (.ldc is, 2)) (d6 : decode cc (pc + 6) = .ok (.invokespecial ic, 3)) (d9 : decode cc (pc + 9) = .ok (.athrow, 1))
    (hout : ∀ x ∈ c.exceptionTable.toList, covers x (pc + 9) = false)
    (hRframes : names.length + 3 < R.frames) (hRlocals : (rest.map fun v => v.category).sum + (13 * (names.length + 1) + 43) ≤ R.locals) (hRcells : cells + 1 ≤ R.cells) (hRslots : slots + 6 ≤ R.slots) (hlocks : meth.locks = false)
    (hx : ∀ t : State, s.vm.Alike t.vm → H.size ≤ t.heap.size → (∀ q : Nat, q < H.size → t.heap[q]? = H[q]?) → XC cls s t)
    (hf : ∀ z ∈ locs, free z.base) (hc : cells + 1 ≤ mc) (hs : slots + 6 ≤ ms) :
    W p l e R s m args below meth c H locs cells slots (vx_MQ below Qc XC args s mc ms free) (F0 m pc ls rest) := by
  intro T hT X
  have htr : e.platform.stackTraces = false := (show e.platform.stackTraces = l.stackTraces by rw [X.admits.platform]).trans hl
  have Y := vx_rebase X (R' := { frames := R.frames, locals := R.locals, cells := 1, slots := 6 }) (Nat.le_refl _) (Nat.le_refl _) hRcells hRslots
  obtain ⟨s', hA⟩ : ∃ z, z = (T.setVm s.vm).setFrames (.invoking m args :: below) := ⟨_, rfl⟩
  rw [← hA] at Y
  have hvm : s'.vm = s.vm := by rw [hA]; rfl
  have hhp : s'.heap = H := by rw [hA]; exact hT
  have hW0 : s.WarmedH s'.vm := by rw [hvm]; exact State.WarmedH.refl s
  have hat' : ∀ w ∈ vx_atS own ic cls names, w.before args s' = true := fun w hw => vx_ot_at hW0 hvm.symm (hgood w (List.mem_cons_of_mem _ (List.mem_cons_of_mem _ hw))) (hat w hw)
  have hk' : (Cond.classLink own ik cls).before args s' = true := vx_ot_at hW0 hvm.symm (hgood _ List.mem_cons_self) hk
  have hini' : (Cond.initialized cls).before args s' = true := vx_ot_at hW0 hvm.symm (hgood _ (List.mem_cons_of_mem _ List.mem_cons_self)) hini
  have hU' : vx_Zq Bundle.tN "UNASSIGNED_STACK" Bundle.steD A s' s'.heap := by rw [hhp]; exact vx_Zq.moved hW0.alike (hU.kept hS.2.1)
  have hN' : vx_Zq Bundle.tN "SUPPRESSED_SENTINEL" Bundle.listD A s' s'.heap := by rw [hhp]; exact vx_Zq.moved hW0.alike (hN.kept hS.2.1)
  have h : ∀ w ∈ Bundle.ownAtoms own ic cls names, w.before args s' = true := vx_own hat' (vx_isRefq hU'.1) (vx_isRefq hN'.1) hU'.2.word hN'.2.word
  have hown' : s'.vm.findClass own = some m.cls := by rw [hvm]; exact hown
  have hins : (Cond.instantiable cls 6).before args s' = true := h _ (by simp [Bundle.ownAtoms])
  obtain ⟨vm₁, cX, kX, hfX, hkX, -, -, X₁, st1⟩ := Y.newCold hexec (own := own) (C := cls) (index := ik) (n := 6) hown' hk' hins hini'
    (g := F0 m pc ls rest) rfl (by rw [hb]; exact d0) (Nat.le_refl _) (Nat.le_refl _)
  generalize hT1 : (T.setVm vm₁).pushCell { cls := cX, slots := kX.instanceTypes.map defaultValue, vm := .none } = T1 at X₁ st1
  have hcat : (Value.ref T.heap.size).category = 1 := rfl
  have hcellA : T1.heap[T.heap.size]? = some (freshCell cX kX) := by rw [← hT1]; exact State.heap_pushCell_size _ _
  have d3' : decode c.code (pc + 3) = .ok (.dup, 1) := by rw [hb]; exact d3
  have d4' : decode c.code (pc + 4) = .ok (.ldc is, 2) := by rw [hb]; exact d4
  have hstr' : vk_R own is text sa s' := vk_R.warm hW0 hstr
  obtain ⟨U, hsteps, hrun, hend, hW, hsame, ce, hce, hO⟩ := X₁.ctorThrowS hexec htr (own := own) (cls := cls) (names := names) (ic := ic) hown' hcls hnames h (fun x hx => nomatch hx) hfX hkX hcellA (by rw [hhp, hT]; exact Nat.le_refl _) (msg := .ref sa) rfl
    (g := { method := m, pc := pc + 6, locals := ls, stack := .ref sa :: .ref T.heap.size :: .ref T.heap.size :: rest, locked := none }) rfl hsize rfl rfl (rest := rest) rfl
    (by rw [hb]; exact d6) (by rw [hb]; exact d9) hout hRframes (by simp only [List.map_cons, List.sum_cons, hcat]; omega) hlocks
  obtain ⟨f1, f2⟩ := vx_frame hsame
  rw [hhp] at f1 f2
  have hWs : s.WarmedH U.vm := State.WarmedH.trans hW0 hW
  have hcl : s.vm.findClass cls = some ce.cls := by
    have h9 := hO.cls
    rw [hvm] at h9
    exact h9
  have hall : s.sameButNew ({ U with vm := s.vm } : State) locs mc ms := by
    subst hA
    obtain ⟨e1, e2⟩ := hsame
    rw [State.setFrames_setFrames] at e1
    have h2 : (T.setVm s.vm).sameButNew ({ U with vm := s.vm } : State) [] (0 + 1) (0 + 6) := ⟨e1, e2⟩
    have h3 := X.same.trans h2
    rw [List.append_nil] at h3
    exact h3.mono hc hs
  refine ⟨U, ?_, .threw T.heap.size, hrun, hend, Or.inr ⟨T.heap.size, rfl, cls, ce, locs, hx U hWs.alike f1 (fun q hq => f2 q hq (fun z hz => nomatch hz)), hce, hO.vm, hcl, hWs, hall, hf⟩⟩
  refine st1 _ ?_
  show Steps p.tables e below (T1.setTop { method := m, pc := pc + 3, locals := ls, stack := .ref T.heap.size :: rest, locked := none }) _
  jvm_step X₁.here [X₁.here.top, hexec, d3', Value.category]
  exact X₁.ldcString hexec (own := own) (text := text) (index := is) (a := sa) hown' hstr'.1 hstr'.2
    (g := { method := m, pc := pc + 4, locals := ls, stack := .ref T.heap.size :: .ref T.heap.size :: rest, locked := none }) rfl d4' _ hsteps
/-- 'throw new E("text")', the text by a wide index -/
theorem vx_throwSW {cc : ByteArray} {pc : Nat} (hexec : p.tables.exec = Jvm.exec) (hb : c.code = cc) (hl : l.stackTraces = false) {own cls text : String} {names : List String} {ik is ic mc ms sa : Nat} {A : Nat → Prop}
    (hown : s.vm.findClass own = some m.cls) (hcls : Bundle.fit cls = true) (hnames : ∀ n ∈ names, Bundle.fit n = true)
    (hk : (Cond.classLink own ik cls).before args s = true) (hini : (Cond.initialized cls).before args s = true) (hstr : vk_R own is text sa s) (hat : ∀ w ∈ vx_atS own ic cls names, w.before args s = true)
    (hgood : ∀ w ∈ Cond.classLink own ik cls :: Cond.initialized cls :: vx_atS own ic cls names, vx_ot w = true)
    (hU : vx_Zq Bundle.tN "UNASSIGNED_STACK" Bundle.steD A s s.heap) (hN : vx_Zq Bundle.tN "SUPPRESSED_SENTINEL" Bundle.listD A s s.heap) (hS : va_S A s.heap H locs) (hsize : ls.size = c.maxLocals)
    (d0 : decode cc pc = .ok (.new ik, 3)) (d3 : decode cc (pc + 3) = .ok (.dup, 1)) (d4 : decode cc (pc + 4) = .ok (.ldc_w is, 3)) (d7 : decode cc (pc + 7) = .ok (.invokespecial ic, 3)) (d10 : decode cc (pc + 10) = .ok (.athrow, 1))
    (hout : ∀ x ∈ c.exceptionTable.toList, covers x (pc + 10) = false)
    (hRframes : names.length + 3 < R.frames) (hRlocals : (rest.map fun v => v.category).sum + (13 * (names.length + 1) + 43) ≤ R.locals) (hRcells : cells + 1 ≤ R.cells) (hRslots : slots + 6 ≤ R.slots) (hlocks : meth.locks = false)
    (hx : ∀ t : State, s.vm.Alike t.vm → H.size ≤ t.heap.size → (∀ q : Nat, q < H.size → t.heap[q]? = H[q]?) → XC cls s t)
    (hf : ∀ z ∈ locs, free z.base) (hc : cells + 1 ≤ mc) (hs : slots + 6 ≤ ms) :
    W p l e R s m args below meth c H locs cells slots (vx_MQ below Qc XC args s mc ms free) (F0 m pc ls rest) := by
  intro T hT X
  have htr : e.platform.stackTraces = false := (show e.platform.stackTraces = l.stackTraces by rw [X.admits.platform]).trans hl
  have Y := vx_rebase X (R' := { frames := R.frames, locals := R.locals, cells := 1, slots := 6 }) (Nat.le_refl _) (Nat.le_refl _) hRcells hRslots
  obtain ⟨s', hA⟩ : ∃ z, z = (T.setVm s.vm).setFrames (.invoking m args :: below) := ⟨_, rfl⟩
  rw [← hA] at Y
  have hvm : s'.vm = s.vm := by rw [hA]; rfl
  have hhp : s'.heap = H := by rw [hA]; exact hT
  have hW0 : s.WarmedH s'.vm := by rw [hvm]; exact State.WarmedH.refl s
  have hat' : ∀ w ∈ vx_atS own ic cls names, w.before args s' = true := fun w hw => vx_ot_at hW0 hvm.symm (hgood w (List.mem_cons_of_mem _ (List.mem_cons_of_mem _ hw))) (hat w hw)
  have hk' : (Cond.classLink own ik cls).before args s' = true := vx_ot_at hW0 hvm.symm (hgood _ List.mem_cons_self) hk
  have hini' : (Cond.initialized cls).before args s' = true := vx_ot_at hW0 hvm.symm (hgood _ (List.mem_cons_of_mem _ List.mem_cons_self)) hini
  have hU' : vx_Zq Bundle.tN "UNASSIGNED_STACK" Bundle.steD A s' s'.heap := by rw [hhp]; exact vx_Zq.moved hW0.alike (hU.kept hS.2.1)
  have hN' : vx_Zq Bundle.tN "SUPPRESSED_SENTINEL" Bundle.listD A s' s'.heap := by rw [hhp]; exact vx_Zq.moved hW0.alike (hN.kept hS.2.1)
  have h : ∀ w ∈ Bundle.ownAtoms own ic cls names, w.before args s' = true := vx_own hat' (vx_isRefq hU'.1) (vx_isRefq hN'.1) hU'.2.word hN'.2.word
  have hown' : s'.vm.findClass own = some m.cls := by rw [hvm]; exact hown
  have hins : (Cond.instantiable cls 6).before args s' = true := h _ (by simp [Bundle.ownAtoms])
  obtain ⟨vm₁, cX, kX, hfX, hkX, -, -, X₁, st1⟩ := Y.newCold hexec (own := own) (C := cls) (index := ik) (n := 6) hown' hk' hins hini'
    (g := F0 m pc ls rest) rfl (by rw [hb]; exact d0) (Nat.le_refl _) (Nat.le_refl _)
  generalize hT1 : (T.setVm vm₁).pushCell { cls := cX, slots := kX.instanceTypes.map defaultValue, vm := .none } = T1 at X₁ st1
  have hcat : (Value.ref T.heap.size).category = 1 := rfl
  have hcellA : T1.heap[T.heap.size]? = some (freshCell cX kX) := by rw [← hT1]; exact State.heap_pushCell_size _ _
  have d3' : decode c.code (pc + 3) = .ok (.dup, 1) := by rw [hb]; exact d3
  have d4' : decode c.code (pc + 4) = .ok (.ldc_w is, 3) := by rw [hb]; exact d4
  have hstr' : vk_R own is text sa s' := vk_R.warm hW0 hstr
  obtain ⟨U, hsteps, hrun, hend, hW, hsame, ce, hce, hO⟩ := X₁.ctorThrowS hexec htr (own := own) (cls := cls) (names := names) (ic := ic) hown' hcls hnames h (fun x hx => nomatch hx) hfX hkX hcellA (by rw [hhp, hT]; exact Nat.le_refl _) (msg := .ref sa) rfl
    (g := { method := m, pc := pc + 7, locals := ls, stack := .ref sa :: .ref T.heap.size :: .ref T.heap.size :: rest, locked := none }) rfl hsize rfl rfl (rest := rest) rfl
    (by rw [hb]; exact d7) (by rw [hb]; exact d10) hout hRframes (by simp only [List.map_cons, List.sum_cons, hcat]; omega) hlocks
  obtain ⟨f1, f2⟩ := vx_frame hsame
  rw [hhp] at f1 f2
  have hWs : s.WarmedH U.vm := State.WarmedH.trans hW0 hW
  have hcl : s.vm.findClass cls = some ce.cls := by
    have h9 := hO.cls
    rw [hvm] at h9
    exact h9
  have hall : s.sameButNew ({ U with vm := s.vm } : State) locs mc ms := by
    subst hA
    obtain ⟨e1, e2⟩ := hsame
    rw [State.setFrames_setFrames] at e1
    have h2 : (T.setVm s.vm).sameButNew ({ U with vm := s.vm } : State) [] (0 + 1) (0 + 6) := ⟨e1, e2⟩
    have h3 := X.same.trans h2
    rw [List.append_nil] at h3
    exact h3.mono hc hs
  refine ⟨U, ?_, .threw T.heap.size, hrun, hend, Or.inr ⟨T.heap.size, rfl, cls, ce, locs, hx U hWs.alike f1 (fun q hq => f2 q hq (fun z hz => nomatch hz)), hce, hO.vm, hcl, hWs, hall, hf⟩⟩
  refine st1 _ ?_
  show Steps p.tables e below (T1.setTop { method := m, pc := pc + 3, locals := ls, stack := .ref T.heap.size :: rest, locked := none }) _
  jvm_step X₁.here [X₁.here.top, hexec, d3', Value.category]
  exact X₁.ldcStringW hexec (own := own) (text := text) (index := is) (a := sa) hown' hstr'.1 hstr'.2
    (g := { method := m, pc := pc + 4, locals := ls, stack := .ref T.heap.size :: .ref T.heap.size :: rest, locked := none }) rfl d4' _ hsteps
end Ends
section Bodies
variable {l : Launch}
theorem vx_ofW {y : MethodName} {ws ws' : List Cond} {rm : Room} {Pc : Array Value → State → Prop} {Qc : Array Value → State → Outcome → State → Prop} {XC : String → State → State → Prop} {mc ms : Nat} {free : Addr → Prop} {cc : ByteArray} {maxL : Nat} {ret : Option FieldType}
    (hy : plainName y.cls = true) (hw : ws = Cond.code y cc maxL ret :: ws')
    (body : ∀ p e s m args below meth c s₁, BodyLoose p l y (headSpec ws rm) cc maxL ret e s m args below meth c s₁ → c.maxLocals = maxL → (∀ x ∈ c.exceptionTable.toList, False) → Pc args s →
      W p l e (headSpec ws rm).room s m args below meth c s.heap [] 0 0 (vx_MQ below Qc XC args s mc ms free) (entryFrame m args maxL)) : vx_Met l y ws rm Pc Qc XC mc ms free := by
  refine MetFree.of_bodyS (code := cc) (maxLocals := maxL) (ret := ret) hy ?_ ?_
  · intro args s m h hn
    obtain ⟨meth, c, h1, h2, h3, h4, h5, h6, -, -⟩ := Cond.code_spec hn (atoms_spec (ws := ws) h _ (by rw [hw]; exact List.mem_cons_self))
    exact ⟨meth, c, h1, h2, h3, h4, h5, h6⟩
  · intro p e s m args below meth c s₁ B hml hP _
    have hh0 : s₁.heap = s.heap := by rw [B.state]; rfl
    have ht : ∀ x ∈ c.exceptionTable.toList, False := by
      obtain ⟨meth9, c9, h1, h2, -, -, -, -, h7, -⟩ := Cond.code_spec B.named (atoms_spec (ws := ws) B.pre _ (by rw [hw]; exact List.mem_cons_self))
      cases Option.some.inj (h1.symm.trans B.method)
      cases Option.some.inj (h2.symm.trans (Stand.of_body B).code)
      intro x hx
      rw [Array.isEmpty_iff.mp h7] at hx
      cases hx
    obtain ⟨t, a1, o, b1, b2, b3⟩ := body p e s m args below meth c s₁ B hml ht hP s₁ hh0 (Stand.of_body B)
    exact ⟨t, o, a1, b1, b2, b3⟩
/-- the table of a body with handlers -/
theorem vx_table {p : Program} {x y : MethodName} {S : Spec} {cc bytes : ByteArray} {maxL maxL' : Nat} {ret ret' : Option FieldType} {e : Env} {s s₁ : State} {m : MethodId} {args : Array Value} {below : List Frame} {meth : Method} {c : Code} {hh : List (Nat × Nat × Nat × Nat)}
    (B : BodyLoose p l y S cc maxL ret e s m args below meth c s₁) (h : (Cond.codeWith y bytes maxL' ret' hh).before args s = true) : c.exceptionTable.toList = tableOf hh := by
  obtain ⟨m9, meth9, c9, hn9, h1, h2, -, -, h6, -⟩ := Cond.codeWith_spec h
  cases Option.some.inj (hn9.symm.trans B.named)
  cases Option.some.inj (h1.symm.trans B.method)
  cases Option.some.inj (h2.symm.trans (Stand.of_body B).code)
  rw [← h6, table_eq]
end Bodies
end VXA
/-! ===== END ===== -/
/-! ===== BEGIN a static call of a method with an exception table ===== -/
section VXS
variable {p : Program} {l : Launch} {e : Env} {R : Room} {s : State} {m : MethodId} {args : Array Value} {below : List Frame} {meth : Method} {c : Code} {T : State} {H : Heap} {locs : List Loc} {cells slots : Nat}
abbrev vx_CSW (R : Room) (s : State) (args : Array Value) (own : String) (index : Nat) (y : MethodName) (bytes : ByteArray) (maxL : Nat) (ret : Option FieldType) (hh : List (Nat × Nat × Nat × Nat)) (ws : List Cond) (rm : Room) (mc ms n : Nat) : Prop :=
  (rm.cells = mc ∧ rm.slots = ms ∧ rm.frames + 1 ≤ R.frames ∧ 8 + (maxL + 11) + rm.locals ≤ R.locals ∧ (∀ w ∈ ws, ∀ (a' : Array Value) (U : State), s.WarmedH U.vm → w.before a' U = true) ∧ Cond.codeWith y bytes maxL ret hh ∈ ws) ∧
  (Cond.codeWith y bytes maxL ret hh).before args s = true ∧ (Cond.initialized y.cls).before args s = true ∧ (y.cls ≠ "java/lang/invoke/MethodHandle" ∧ y.cls ≠ "java/lang/invoke/VarHandle") ∧
  (∀ sig, parseMethodDescriptor y.desc = some sig → n = sig.parameters.length) ∧ (Cond.methodLink own index y).before args s = true ∧ (Cond.static y).before args s = true
theorem vx_cwSW {own : String} {index maxL mc ms : Nat} {y : MethodName} {bytes : ByteArray} {ret : Option FieldType} {hh : List (Nat × Nat × Nat × Nat)} {Ts ws ws' : List Cond} {rm : Room} (n : Nat) (ht : ∀ w ∈ Ts, w.before args s = true) (hT : GoodIn Ts (va_wsS own index y ws)) (hw : ws = Cond.codeWith y bytes maxL ret hh :: ws') (hrc : rm.cells = mc) (hrs : rm.slots = ms)
    (hd : y.cls ≠ "java/lang/invoke/MethodHandle" ∧ y.cls ≠ "java/lang/invoke/VarHandle" ∧ (parseMethodDescriptor y.desc).map (fun d => d.parameters.length) = some n) (hR : rm.frames + 1 ≤ R.frames ∧ 8 + (maxL + 11) + rm.locals ≤ R.locals) :
    vx_CSW R s args own index y bytes maxL ret hh ws rm mc ms n := by
  have ok : ∀ w ∈ va_wsS own index y ws, w.before args s = true := fun w h => ht w (hT w h).1
  have hG : GoodIn Ts ws := fun w h => hT w (by unfold va_wsS; exact List.mem_append_right _ h)
  have hc : Cond.codeWith y bytes maxL ret hh ∈ ws := by rw [hw]; exact List.mem_cons_self
  refine ⟨⟨hrc, hrs, hR.1, hR.2, pay_in ht hG, hc⟩, ht _ (hG _ hc).1, ok _ (by simp [va_wsS]), ⟨hd.1, hd.2.1⟩, fun sig h => ?_, ok _ (by simp [va_wsS]), ok _ (by simp [va_wsS])⟩
  have h2 := hd.2.2
  rw [h] at h2
  exact (Option.some.inj h2).symm
theorem vx_callSW (X : Stand p l e R s m args below meth c T locs cells slots) (hexec : p.tables.exec = Jvm.exec) {own : String} {index : Nat} {y : MethodName} {bytes : ByteArray} {maxL : Nat} {ret : Option FieldType} {hh : List (Nat × Nat × Nat × Nat)}
    (hown : s.vm.findClass own = some m.cls) (hlink : (Cond.methodLink own index y).before args s = true) (hstat : (Cond.static y).before args s = true) (hinit : (Cond.initialized y.cls).before args s = true)
    (hcode : (Cond.codeWith y bytes maxL ret hh).before args s = true) (hy : y.cls ≠ "java/lang/invoke/MethodHandle" ∧ y.cls ≠ "java/lang/invoke/VarHandle")
    {W9 : Nat} {Pre : Pt → Array Value → Prop} {Post : Pt → Array Value → Option Value → Pt → Prop} (hK : Back l R p e below s args y 3 W9 Pre Post)
    {g : JFrame} (hg : g.method = m) (hsize : g.locals.size = c.maxLocals) {argsL rest : List Value} (hlen : ∀ sig, parseMethodDescriptor y.desc = some sig → argsL.length = sig.parameters.length)
    (hstack : g.stack = argsL.reverse ++ rest) (hW : 2 * g.monitorRoom + (rest.map fun v => v.category).sum ≤ W9) (hdg : decode c.code g.pc = .ok (.invokestatic index, 3))
    (hpre : ∀ vm₁, s.WarmedH vm₁ → Pre ⟨T.setVm vm₁, locs, cells, slots⟩ argsL.toArray) :
    ∃ (v : Option Value) (vm₁ : Vm) (B : Pt), s.WarmedH vm₁ ∧ Stand p l e R s m args below meth c B.U B.locs B.cells B.slots ∧ Post ⟨T.setVm vm₁, locs, cells, slots⟩ argsL.toArray v B ∧
      ∀ target, Steps p.tables e below (B.U.setTop { g with pc := g.pc + 3, stack := v.toList ++ rest }) target → Steps p.tables e below (T.setTop g) target := by
  obtain ⟨mk, methM, cM, hnamed, hmethM, -, -, -, -, -, -, hsigM⟩ := Cond.codeWith_spec hcode
  have hstatic : methM.isStatic = true := Cond.static_spec hnamed hmethM hstat
  obtain ⟨kP, hkP, -⟩ := className_of_methodNamed hnamed
  have hinitP : kP.init = .initialized := Cond.initialized_spec (findClass_of_methodNamed hnamed) hkP hinit
  obtain ⟨vm₁, X₁, hstep₁⟩ := X.invokestatic hexec hown hlink hnamed hmethM hstatic hkP hinitP hy (g := g) hg (argsL := argsL) (rest := rest) (hlen _ hsigM) hstack hdg
  obtain ⟨v, B, X', hpost, hsteps⟩ := hK m meth c ⟨T.setVm vm₁, locs, cells, slots⟩ { g with stack := rest } (.invokestatic index) mk argsL.toArray X₁ hg hsize hdg hW (X₁.named hnamed) (hpre vm₁ X₁.warmed)
  exact ⟨v, vm₁, B, X₁.warmed, X', hpost, fun target h => hstep₁ _ fun acts => by rw [doInvoke_state]; exact hsteps.trans h⟩
theorem vx_runSW {y : MethodName} {bytes cc : ByteArray} {maxL nL mc ms n index : Nat} {ret : Option FieldType} {hh : List (Nat × Nat × Nat × Nat)} {ws : List Cond} {rm : Room} {Pc : Array Value → State → Prop} {Qc : Array Value → State → Outcome → State → Prop} {free : Addr → Prop} {Ts : List Cond} {own : String} {As rest : List Value} {g : JFrame}
    (S : CallFix p m c cc nL s args Ts own) (hM : Met l y ws rm Pc Qc mc ms free) (cw : vx_CSW R s args own index y bytes maxL ret hh ws rm mc ms n) (hp : PreS s H Pc As)
    (hg : g.method = m) (hn : As.length = n) (hsize : g.locals.size = nL) (hstack : g.stack = As.reverse ++ rest) (hW : 2 * g.monitorRoom + (rest.map fun v => v.category).sum ≤ 8) (hdg : decode cc g.pc = .ok (.invokestatic index, 3)) (hf : cells + mc ≤ R.cells ∧ slots + ms ≤ R.slots) :
    va_Run p l e R s m args below meth c H locs cells slots mc ms g rest (Qc As.toArray) (free) := by
  obtain ⟨⟨hrc, hrs, hfr, hlo, hws, hcw⟩, hcode, hini, hy, hlen, hl, hstt⟩ := cw
  have hK : Back l R p e below s args y 3 8 (PreOf R mc ms Pc) (PostOf Qc mc ms free) := va_backW (hh := hh) (bytes := bytes) (maxL := maxL) (ret := ret) hM hp.1 hrc hrs hfr hlo hws hcw (fun a' U hW => word_at hW (Or.inl (by first | rfl | simp [Cond.onTables, Cond.keeps, Cond.steady])) hini)
  obtain ⟨hx, hb, hml, ho, -⟩ := S
  intro T hT X
  obtain ⟨v, vm₁, ⟨U', l2, c2, s2⟩, hW₁, X', ⟨g', mk, t, L, e1, e2, hq, h1, hL, h2, h3⟩, st⟩ := vx_callSW X hx (hh := hh) (bytes := bytes) (maxL := maxL) (ret := ret) ho hl hstt hini hcode hy hK hg (hsize.trans hml.symm) (argsL := As) (rest := rest) (fun sig h => hn.trans (hlen sig h)) hstack hW (by rw [hb]; exact hdg)
    (fun vm₁ hW₁ => ⟨hf.1, hf.2, hp.2 (T.setVm vm₁) hT hW₁⟩)
  dsimp only [Pt.U, Pt.locs, Pt.cells, Pt.slots] at X' e1 e2 h1 h2 h3 st
  subst h1; subst h2; subst h3
  exact ⟨v, (T.setVm vm₁).calling g' mk As.toArray, t, U', L, hT, X', hL, e1, e2, hq, st⟩
/-- not caught here, past rows that name other classes: it goes on to the caller -/
theorem vx_outP {p : Program} {l : Launch} {e : Env} {R : Room} {s : State} {m : MethodId} {args : Array Value} {below : List Frame} {meth : Method} {c : Code} {H : Heap} {locs : List Loc} {cells slots : Nat} {free : Addr → Prop} {ls : Array Slot} {rest : List Value} {Qc : Array Value → State → Outcome → State → Prop} {XC : String → State → State → Prop}
    {pc : Nat} {own E : String} {ce : Cell} {q : Addr} {mc ms : Nat} (hown : s.vm.findClass own = some m.cls) (hlocks : meth.locks = false)
    (hpass : ∀ z ∈ c.exceptionTable.toList, covers z pc = false ∨ (z.catchType ≠ 0 ∧ ∃ nm : String, (Cond.classLink own z.catchType nm).before args s = true ∧ va_Nc E nm s)) (hcell : H[q]? = some ce) (hv : ce.vm = .none) (hcl : s.vm.findClass E = some ce.cls)
    (hx : ∀ t : State, t.heap = H → s.vm.Alike t.vm → XC E s t) (hf : ∀ z ∈ locs, free z.base) (hc : cells ≤ mc) (hs : slots ≤ ms) :
    vx_W p l e R s m args below meth c H locs cells slots (vx_MQ below Qc XC args s mc ms free) (F0 m pc ls rest) q := by
  intro T hT X
  have hpl : e.platform.magicAccessors = ({} : Platform).magicAccessors := by rw [X.admits.platform]
  obtain ⟨vm', hW', X', st⟩ := X.outThrough hlocks q (g := F0 m pc ls rest) rfl rfl rfl (cell := ce) (by rw [hT]; exact hcell) (by rw [hv]; rfl)
    (by obtain ⟨k9, h9, -⟩ := Vm.findClass_spec hcl; exact ⟨k9, h9⟩) (fun z hz => by
      rcases hpass z hz with h | ⟨hz0, nm, hl1, hn1⟩
      · exact Or.inl h
      · obtain ⟨c6, hc6, hcl6⟩ := Cond.classLink_spec hown hl1 e.platform hpl
        obtain ⟨a8, b8, h1, h2, h3⟩ := hn1
        cases Option.some.inj (h1.symm.trans hcl)
        cases Option.some.inj (h2.symm.trans hc6)
        exact Or.inr ⟨hz0, _, hcl6, h3⟩)
  obtain ⟨g₀, hfr⟩ := X'.frames_eq
  have hcell9 : ((T.setVm vm').setFrames (.throwing q :: below)).heap[q]? = some ce := by
    show T.heap[q]? = some ce
    rw [hT]; exact hcell
  have hend : Ended ((T.setVm vm').setFrames (.throwing q :: below)) below (.threw q) := State.frames_setFrames _ (State.cur_lt_of_frames hfr)
  refine ⟨(T.setVm vm').setFrames (.throwing q :: below), ?_, .threw q, X'.here.running, hend, Or.inr ⟨q, rfl, E, ce, locs, hx _ hT (X'.ends _).1.alike, hcell9, hv, hcl, (X'.ends _).1, (X'.ends _).2.mono hc hs, hf⟩⟩
  rw [X.pushThrowing_eq]
  exact st
/-- a thing of a world lies in the heap -/
theorem vx_lt {D : va_G} {cl : List vw_C} {ws : va_W} {H1 : Heap} (h : va_P D cl ws H1) {k : Nat} {q : Nat × va_E} (hk : ws[k]? = some q) : q.1 < H1.size := (h k q hk).lt
end VXS
/-! ===== END ===== -/
/-! ===== BEGIN methods with a table of their own: called by a name, returning or throwing ===== -/
section VXH
/-! vx_backW, vx_callVX, vx_callSX, vx_callVW, vx_runVW, vx_runVX, vx_runSX, vx_ofWH follow the same proofs as their sisters above (Free/Laws.lean, Shelf42/LK1.lean); vx_outP calls Shelf42/NT130.lean (outThrough). -/
section
variable {l : Launch} {R : Room} {p : Program} {e : Env} {below : List Frame} {s : State} {sargs : Array Value} {y : MethodName} {len W9 : Nat}
theorem vx_backW {ws : List Cond} {rm : Room} {Pc : Array Value → State → Prop} {Qc : Array Value → State → Outcome → State → Prop} {XC : String → State → State → Prop} {mc ms : Nat} {free : Addr → Prop} {bytes : ByteArray} {maxL : Nat} {ret : Option FieldType} {hh : List (Nat × Nat × Nat × Nat)}
    (hM : vx_Met l y ws rm Pc Qc XC mc ms free) (hblind : FrameBlind Pc) (hrc : rm.cells = mc) (hrs : rm.slots = ms)
    (hframes : rm.frames + 1 ≤ R.frames) (hlocals : W9 + (maxL + 11) + rm.locals ≤ R.locals)
    (hws : ∀ w ∈ ws, ∀ a' U, s.WarmedH U.vm → w.before a' U = true) (hcode : Cond.codeWith y bytes maxL ret hh ∈ ws) (hinit : ∀ a' U, s.WarmedH U.vm → (Cond.initialized y.cls).before a' U = true) :
    vx_Back l R p e below s sargs y len W9 (PreOf R mc ms Pc) (PostOf Qc mc ms free) (vx_Post XC mc ms free) := by
  intro m meth c A g ig mk a X hg hsize hdg hW hn hp
  have h1 : (headSpec ws rm).pre.before a A.U = true := atoms_intro fun w hw => hws w hw _ _ X.warmed
  have h2 : (Cond.codeWith y bytes maxL ret hh).before a A.U = true := hws _ hcode _ _ X.warmed
  have h3 : (Cond.initialized y.cls).before a A.U = true := hinit _ _ X.warmed
  have h4 : A.cells + (headSpec ws rm).room.cells ≤ R.cells := by rw [show (headSpec ws rm).room.cells = mc from hrc]; exact hp.1
  have h5 : A.slots + (headSpec ws rm).room.slots ≤ R.slots := by rw [show (headSpec ws rm).room.slots = ms from hrs]; exact hp.2.1
  have hPc : Pc a (A.U.calling g mk a) := hblind _ _ _ _ hp.2.2
  obtain ⟨U, Ls, c0, s0⟩ := A
  dsimp only [Pt.U, Pt.locs, Pt.cells, Pt.slots] at h1 h2 h3 h4 h5 X hn hPc ⊢
  obtain ⟨m9, methY, cY, hn9, hmY, hcY, -, hlY, -⟩ := Cond.codeWith_spec h2
  cases Option.some.inj (hn9.symm.trans hn)
  obtain ⟨kY, hkY, -⟩ := className_of_methodNamed hn
  have hinitY : kY.init = .initialized := Cond.initialized_spec (findClass_of_methodNamed hn) hkY h3
  have h : At U g.method c below := by rw [hg]; exact X.here
  have hlocals9 : W9 + (maxL + 11) + (headSpec ws rm).room.locals ≤ R.locals := hlocals
  have happ : (headSpec ws rm).appliesLoose y e.platform (U.calling g mk a) = true :=
    Spec.appliesLoose_calling (g := g) h hdg hn hkY hinitY
      (X.room_calling (g := g) (R' := (headSpec ws rm).room) hsize hmY hcY hframes (by rw [hlY]; omega) h4 h5) h1
  obtain ⟨mid, hmid⟩ := h.above
  have hfr : (U.setTop g).frames = (.java g :: mid) ++ below := by rw [State.frames_setTop' g h.top, hmid]; rfl
  obtain ⟨o, s₂, hsteps, -, hend, hq⟩ := Steps.callFree hM p X.admits X.cas X.clock (acts := []) hfr happ hPc trivial
  have hq' : vx_Q Qc XC mc ms free a (U.calling g mk a) o s₂ := hq
  rw [State.frames_setTop' g h.top] at hend
  obtain ⟨g₀, hg0⟩ := Option.isSome_iff_exists.mp h.top
  obtain ⟨r, hr⟩ := State.topJava?_eq_some.mp hg0
  have hr' : (({ U with heap := s₂.heap, slotsUsed := s₂.slotsUsed } : State).setVm s₂.vm).frames = .java g₀ :: r := hr
  rcases hq' with ⟨hqc, L, hfe, hL⟩ | ⟨q, rfl, E, ce, L, hx, hce, hcv, hcl, hW₂, hsm, hL⟩
  · obtain ⟨⟨v, rfl⟩, hW₂, e2, q2, q3, q4, q5, q6⟩ := id hfe
    have e3 : s₂ = ({ (U.calling g mk a).setFrames s₂.frames with heap := s₂.heap, slotsUsed := s₂.slotsUsed } : State).setVm s₂.vm := by
      have : s₂ = ({ s₂ with vm := (U.calling g mk a).vm } : State).setVm s₂.vm := rfl
      rw [e2] at this
      exact this
    obtain ⟨c₂, i₂, len₂, hc₂, hd₂, hf₂⟩ := hend
    have hW' : U.WarmedH s₂.vm := hW₂
    have hcc : c₂ = c := by
      have h1 : s₂.code? g.method = U.code? g.method := by
        rw [State.code?_eq, State.code?_eq, hW'.alike.method?]
      exact Option.some.inj (hc₂.symm.trans (h1.trans h.code))
    subst hcc
    have hlen : len₂ = len := by rw [hdg] at hd₂; cases hd₂; rfl
    subst hlen
    have hs₂ : s₂ = (({ U with heap := s₂.heap, slotsUsed := s₂.slotsUsed } : State).setVm s₂.vm).setTop { g with pc := g.pc + len₂, stack := v.toList ++ g.stack } := by
      refine e3.trans ?_
      rw [hf₂, State.calling_eq h.top, State.setFrames_setFrames, State.setTop_of_frames _ hr', hr]
      rfl
    have hsame : U.sameButNew ({ U with heap := s₂.heap, slotsUsed := s₂.slotsUsed } : State) L mc ms := by
      refine ⟨?_, q2, q3, q4, q5, q6⟩
      obtain ⟨t, ht, -⟩ := State.frames_cons hr
      show ({ U with heap := s₂.heap, slotsUsed := s₂.slotsUsed } : State) = { U.setFrames U.frames with heap := s₂.heap, slotsUsed := s₂.slotsUsed }
      rw [State.setFrames_self ht]
    subst hg
    refine Or.inl ⟨v, ⟨(({ U with heap := s₂.heap, slotsUsed := s₂.slotsUsed } : State).setVm s₂.vm), Ls ++ L, c0 + mc, s0 + ms⟩,
      ⟨X.admits, X.cas, X.clock, X.frames, X.room, X.hears, X.method, X.code, (X.here.setHeapUsed s₂.heap s₂.slotsUsed).setVm hW'.alike, X.tail, State.WarmedH.trans X.warmed hW', X.limits, X.bytes, X.same.trans (hsame.setVm s.vm)⟩,
      ⟨g, mk, s₂, L, rfl, rfl, hqc, rfl, hL, rfl, rfl⟩, ?_⟩
    show Steps p.tables e below _ ((({ U with heap := s₂.heap, slotsUsed := s₂.slotsUsed } : State).setVm s₂.vm).setTop { g with pc := g.pc + len₂, stack := v.toList ++ g.stack })
    rw [← hs₂]
    exact hsteps
  · obtain ⟨e2, q2, q3, q4, q5, q6⟩ := id hsm
    have e3 : s₂ = ({ (U.calling g mk a).setFrames s₂.frames with heap := s₂.heap, slotsUsed := s₂.slotsUsed } : State).setVm s₂.vm := by
      have : s₂ = ({ s₂ with vm := (U.calling g mk a).vm } : State).setVm s₂.vm := rfl
      rw [e2] at this
      exact this
    have hf₂ : s₂.frames = .throwing q :: .java g :: U.frames.tail := hend
    have hW' : U.WarmedH s₂.vm := hW₂
    have hs₂ : s₂ = ((({ U with heap := s₂.heap, slotsUsed := s₂.slotsUsed } : State).setVm s₂.vm).setTop g).pushFrame (.throwing q) := by
      refine e3.trans ?_
      rw [hf₂, State.calling_eq h.top, State.setFrames_setFrames, State.pushFrame, State.frames_setTop _ hr', State.setTop_of_frames _ hr', State.setFrames_setFrames, hr]
      rfl
    have hsame : U.sameButNew ({ U with heap := s₂.heap, slotsUsed := s₂.slotsUsed } : State) L mc ms := by
      refine ⟨?_, q2, q3, q4, q5, q6⟩
      obtain ⟨t, ht, -⟩ := State.frames_cons hr
      show ({ U with heap := s₂.heap, slotsUsed := s₂.slotsUsed } : State) = { U.setFrames U.frames with heap := s₂.heap, slotsUsed := s₂.slotsUsed }
      rw [State.setFrames_self ht]
    subst hg
    refine Or.inr ⟨q, ⟨(({ U with heap := s₂.heap, slotsUsed := s₂.slotsUsed } : State).setVm s₂.vm), Ls ++ L, c0 + mc, s0 + ms⟩,
      ⟨X.admits, X.cas, X.clock, X.frames, X.room, X.hears, X.method, X.code, (X.here.setHeapUsed s₂.heap s₂.slotsUsed).setVm hW'.alike, X.tail, State.WarmedH.trans X.warmed hW', X.limits, X.bytes, X.same.trans (hsame.setVm s.vm)⟩,
      ⟨g, mk, s₂, L, E, ce, rfl, rfl, hx, hce, hcv, hcl, rfl, hL, rfl, rfl⟩, ?_⟩
    show Steps p.tables e below _ (((({ U with heap := s₂.heap, slotsUsed := s₂.slotsUsed } : State).setVm s₂.vm).setTop g).pushFrame (.throwing q))
    rw [← hs₂]
    exact hsteps
end
variable {p : Program} {l : Launch} {e : Env} {R : Room} {s : State} {m : MethodId} {args : Array Value} {below : List Frame} {meth : Method} {c : Code} {T : State} {H : Heap} {locs : List Loc} {cells slots : Nat}
theorem vx_callVX (X : Stand p l e R s m args below meth c T locs cells slots) (hexec : p.tables.exec = Jvm.exec) {own C : String} {index : Nat} {y : MethodName} {bytes : ByteArray} {maxL : Nat} {ret : Option FieldType} {hh : List (Nat × Nat × Nat × Nat)}
    (hown : s.vm.findClass own = some m.cls) (hlink : (Cond.methodLink own index y).before args s = true) (hinst : (Cond.instanceMethod y).before args s = true) (hsel : (Cond.selects C y y).before args s = true)
    (hcode : (Cond.codeWith y bytes maxL ret hh).before args s = true) (hy : y.cls ≠ "java/lang/invoke/MethodHandle" ∧ y.cls ≠ "java/lang/invoke/VarHandle")
    {W9 : Nat} {Pre : Pt → Array Value → Prop} {Post : Pt → Array Value → Option Value → Pt → Prop} {PostX : Pt → Array Value → Addr → Pt → Prop} (hK : vx_Back l R p e below s args y 3 W9 Pre Post PostX)
    {b : Addr} {cellB : Cell} (hcell : T.heap[b]? = some cellB) (hobj : cellB.vm.isStatics = false) (hcls : s.vm.findClass C = some cellB.cls)
    {g : JFrame} (hg : g.method = m) (hsize : g.locals.size = c.maxLocals) {argsL rest : List Value} (hlen : ∀ sig, parseMethodDescriptor y.desc = some sig → argsL.length = sig.parameters.length)
    (hstack : g.stack = argsL.reverse ++ .ref b :: rest) (hW : 2 * g.monitorRoom + (rest.map fun v => v.category).sum ≤ W9) (hdg : decode c.code g.pc = .ok (.invokevirtual index, 3))
    (hpre : ∀ vm₁, s.WarmedH vm₁ → Pre ⟨T.setVm vm₁, locs, cells, slots⟩ (Value.ref b :: argsL).toArray) :
    (∃ (v : Option Value) (vm₁ : Vm) (B : Pt), s.WarmedH vm₁ ∧ Stand p l e R s m args below meth c B.U B.locs B.cells B.slots ∧ Post ⟨T.setVm vm₁, locs, cells, slots⟩ (Value.ref b :: argsL).toArray v B ∧
      ∀ target, Steps p.tables e below (B.U.setTop { g with pc := g.pc + 3, stack := v.toList ++ rest }) target → Steps p.tables e below (T.setTop g) target) ∨
    (∃ (q : Addr) (vm₁ : Vm) (B : Pt), s.WarmedH vm₁ ∧ Stand p l e R s m args below meth c B.U B.locs B.cells B.slots ∧ PostX ⟨T.setVm vm₁, locs, cells, slots⟩ (Value.ref b :: argsL).toArray q B ∧
      Steps p.tables e below (T.setTop g) ((B.U.setTop { g with stack := rest }).pushFrame (.throwing q))) := by
  obtain ⟨mk, methM, hnamed, hmethM, hstM, habM⟩ := Cond.instanceMethod_spec hinst
  obtain ⟨m8, methM', cM, hn8, hmethM', -, -, -, -, -, -, hsigM⟩ := Cond.codeWith_spec hcode
  cases Option.some.inj (hn8.symm.trans hnamed)
  cases hmethM.symm.trans hmethM'
  obtain ⟨c2, r2, m2, q1, q2, q3, q4, kP, hkP, hkPi⟩ := Cond.selects_spec hsel
  cases hcls.symm.trans q1
  cases (State.methodFound?_of_named hnamed hy).symm.trans q2
  cases hnamed.symm.trans q3
  have hselP : selectMethod e.platform s.vm cellB.cls mk = .method mk := by rw [Launch.admits_selectMethod X.admits]; exact q4
  obtain ⟨vm₁, X₁, hstep₁⟩ := X.invokevirtual hexec hown hlink hnamed hmethM hstM hkP hkPi hy (a := b) (cell := cellB) hcell
    (fun z h => by rw [h] at hobj; cases hobj) hselP hmethM habM hkP hkPi (g := g) hg (argsL := argsL) (rest := rest) (hlen _ hsigM) hstack hdg
  rcases hK m meth c ⟨T.setVm vm₁, locs, cells, slots⟩ { g with stack := rest } (.invokevirtual index) mk (Value.ref b :: argsL).toArray X₁ hg hsize hdg hW (X₁.named hnamed) (hpre vm₁ X₁.warmed) with ⟨v, B, X', hpost, hsteps⟩ | ⟨q, B, X', hpost, hsteps⟩
  · exact Or.inl ⟨v, vm₁, B, X₁.warmed, X', hpost, fun target h => hstep₁ _ fun acts => by rw [doInvoke_state]; exact hsteps.trans h⟩
  · exact Or.inr ⟨q, vm₁, B, X₁.warmed, X', hpost, hstep₁ _ fun acts => by rw [doInvoke_state]; exact hsteps⟩
theorem vx_callSX (X : Stand p l e R s m args below meth c T locs cells slots) (hexec : p.tables.exec = Jvm.exec) {own : String} {index : Nat} {y : MethodName} {bytes : ByteArray} {maxL : Nat} {ret : Option FieldType} {hh : List (Nat × Nat × Nat × Nat)}
    (hown : s.vm.findClass own = some m.cls) (hlink : (Cond.methodLink own index y).before args s = true) (hstat : (Cond.static y).before args s = true) (hinit : (Cond.initialized y.cls).before args s = true)
    (hcode : (Cond.codeWith y bytes maxL ret hh).before args s = true) (hy : y.cls ≠ "java/lang/invoke/MethodHandle" ∧ y.cls ≠ "java/lang/invoke/VarHandle")
    {W9 : Nat} {Pre : Pt → Array Value → Prop} {Post : Pt → Array Value → Option Value → Pt → Prop} {PostX : Pt → Array Value → Addr → Pt → Prop} (hK : vx_Back l R p e below s args y 3 W9 Pre Post PostX)
    {g : JFrame} (hg : g.method = m) (hsize : g.locals.size = c.maxLocals) {argsL rest : List Value} (hlen : ∀ sig, parseMethodDescriptor y.desc = some sig → argsL.length = sig.parameters.length)
    (hstack : g.stack = argsL.reverse ++ rest) (hW : 2 * g.monitorRoom + (rest.map fun v => v.category).sum ≤ W9) (hdg : decode c.code g.pc = .ok (.invokestatic index, 3))
    (hpre : ∀ vm₁, s.WarmedH vm₁ → Pre ⟨T.setVm vm₁, locs, cells, slots⟩ argsL.toArray) :
    (∃ (v : Option Value) (vm₁ : Vm) (B : Pt), s.WarmedH vm₁ ∧ Stand p l e R s m args below meth c B.U B.locs B.cells B.slots ∧ Post ⟨T.setVm vm₁, locs, cells, slots⟩ argsL.toArray v B ∧
      ∀ target, Steps p.tables e below (B.U.setTop { g with pc := g.pc + 3, stack := v.toList ++ rest }) target → Steps p.tables e below (T.setTop g) target) ∨
    (∃ (q : Addr) (vm₁ : Vm) (B : Pt), s.WarmedH vm₁ ∧ Stand p l e R s m args below meth c B.U B.locs B.cells B.slots ∧ PostX ⟨T.setVm vm₁, locs, cells, slots⟩ argsL.toArray q B ∧
      Steps p.tables e below (T.setTop g) ((B.U.setTop { g with stack := rest }).pushFrame (.throwing q))) := by
  obtain ⟨mk, methM, cM, hnamed, hmethM, -, -, -, -, -, -, hsigM⟩ := Cond.codeWith_spec hcode
  have hstatic : methM.isStatic = true := Cond.static_spec hnamed hmethM hstat
  obtain ⟨kP, hkP, -⟩ := className_of_methodNamed hnamed
  have hinitP : kP.init = .initialized := Cond.initialized_spec (findClass_of_methodNamed hnamed) hkP hinit
  obtain ⟨vm₁, X₁, hstep₁⟩ := X.invokestatic hexec hown hlink hnamed hmethM hstatic hkP hinitP hy (g := g) hg (argsL := argsL) (rest := rest) (hlen _ hsigM) hstack hdg
  rcases hK m meth c ⟨T.setVm vm₁, locs, cells, slots⟩ { g with stack := rest } (.invokestatic index) mk argsL.toArray X₁ hg hsize hdg hW (X₁.named hnamed) (hpre vm₁ X₁.warmed) with ⟨v, B, X', hpost, hsteps⟩ | ⟨q, B, X', hpost, hsteps⟩
  · exact Or.inl ⟨v, vm₁, B, X₁.warmed, X', hpost, fun target h => hstep₁ _ fun acts => by rw [doInvoke_state]; exact hsteps.trans h⟩
  · exact Or.inr ⟨q, vm₁, B, X₁.warmed, X', hpost, hstep₁ _ fun acts => by rw [doInvoke_state]; exact hsteps⟩
theorem vx_callVW (X : Stand p l e R s m args below meth c T locs cells slots) (hexec : p.tables.exec = Jvm.exec) {own C : String} {index : Nat} {y : MethodName} {bytes : ByteArray} {maxL : Nat} {ret : Option FieldType} {hh : List (Nat × Nat × Nat × Nat)}
    (hown : s.vm.findClass own = some m.cls) (hlink : (Cond.methodLink own index y).before args s = true) (hinst : (Cond.instanceMethod y).before args s = true) (hsel : (Cond.selects C y y).before args s = true)
    (hcode : (Cond.codeWith y bytes maxL ret hh).before args s = true) (hy : y.cls ≠ "java/lang/invoke/MethodHandle" ∧ y.cls ≠ "java/lang/invoke/VarHandle")
    {W9 : Nat} {Pre : Pt → Array Value → Prop} {Post : Pt → Array Value → Option Value → Pt → Prop} (hK : Back l R p e below s args y 3 W9 Pre Post)
    {b : Addr} {cellB : Cell} (hcell : T.heap[b]? = some cellB) (hobj : cellB.vm.isStatics = false) (hcls : s.vm.findClass C = some cellB.cls)
    {g : JFrame} (hg : g.method = m) (hsize : g.locals.size = c.maxLocals) {argsL rest : List Value} (hlen : ∀ sig, parseMethodDescriptor y.desc = some sig → argsL.length = sig.parameters.length)
    (hstack : g.stack = argsL.reverse ++ .ref b :: rest) (hW : 2 * g.monitorRoom + (rest.map fun v => v.category).sum ≤ W9) (hdg : decode c.code g.pc = .ok (.invokevirtual index, 3))
    (hpre : ∀ vm₁, s.WarmedH vm₁ → Pre ⟨T.setVm vm₁, locs, cells, slots⟩ (Value.ref b :: argsL).toArray) :
    ∃ (v : Option Value) (vm₁ : Vm) (B : Pt), s.WarmedH vm₁ ∧ Stand p l e R s m args below meth c B.U B.locs B.cells B.slots ∧ Post ⟨T.setVm vm₁, locs, cells, slots⟩ (Value.ref b :: argsL).toArray v B ∧
      ∀ target, Steps p.tables e below (B.U.setTop { g with pc := g.pc + 3, stack := v.toList ++ rest }) target → Steps p.tables e below (T.setTop g) target := by
  obtain ⟨mk, methM, hnamed, hmethM, hstM, habM⟩ := Cond.instanceMethod_spec hinst
  obtain ⟨m8, methM', cM, hn8, hmethM', -, -, -, -, -, -, hsigM⟩ := Cond.codeWith_spec hcode
  cases Option.some.inj (hn8.symm.trans hnamed)
  cases hmethM.symm.trans hmethM'
  obtain ⟨c2, r2, m2, q1, q2, q3, q4, kP, hkP, hkPi⟩ := Cond.selects_spec hsel
  cases hcls.symm.trans q1
  cases (State.methodFound?_of_named hnamed hy).symm.trans q2
  cases hnamed.symm.trans q3
  have hselP : selectMethod e.platform s.vm cellB.cls mk = .method mk := by rw [Launch.admits_selectMethod X.admits]; exact q4
  obtain ⟨vm₁, X₁, hstep₁⟩ := X.invokevirtual hexec hown hlink hnamed hmethM hstM hkP hkPi hy (a := b) (cell := cellB) hcell
    (fun z h => by rw [h] at hobj; cases hobj) hselP hmethM habM hkP hkPi (g := g) hg (argsL := argsL) (rest := rest) (hlen _ hsigM) hstack hdg
  obtain ⟨v, B, X', hpost, hsteps⟩ := hK m meth c ⟨T.setVm vm₁, locs, cells, slots⟩ { g with stack := rest } (.invokevirtual index) mk (Value.ref b :: argsL).toArray X₁ hg hsize hdg hW (X₁.named hnamed) (hpre vm₁ X₁.warmed)
  exact ⟨v, vm₁, B, X₁.warmed, X', hpost, fun target h => hstep₁ _ fun acts => by rw [doInvoke_state]; exact hsteps.trans h⟩
abbrev vx_CVW (R : Room) (s : State) (args : Array Value) (own C : String) (index : Nat) (y : MethodName) (bytes : ByteArray) (maxL : Nat) (ret : Option FieldType) (hh : List (Nat × Nat × Nat × Nat)) (ws : List Cond) (rm : Room) (mc ms n : Nat) : Prop :=
  (rm.cells = mc ∧ rm.slots = ms ∧ rm.frames + 1 ≤ R.frames ∧ 8 + (maxL + 11) + rm.locals ≤ R.locals ∧ (∀ w ∈ ws, ∀ (a' : Array Value) (U : State), s.WarmedH U.vm → w.before a' U = true) ∧ Cond.codeWith y bytes maxL ret hh ∈ ws) ∧
  (Cond.codeWith y bytes maxL ret hh).before args s = true ∧ (Cond.initialized y.cls).before args s = true ∧ (y.cls ≠ "java/lang/invoke/MethodHandle" ∧ y.cls ≠ "java/lang/invoke/VarHandle") ∧
  (∀ sig, parseMethodDescriptor y.desc = some sig → n = sig.parameters.length) ∧ (Cond.methodLink own index y).before args s = true ∧ (Cond.instanceMethod y).before args s = true ∧ (Cond.selects C y y).before args s = true
theorem vx_cwVW {own C : String} {index maxL mc ms : Nat} {y : MethodName} {bytes : ByteArray} {ret : Option FieldType} {hh : List (Nat × Nat × Nat × Nat)} {Ts ws ws' : List Cond} {rm : Room} (n : Nat) (ht : ∀ w ∈ Ts, w.before args s = true) (hT : GoodIn Ts (wsV own index C y ws)) (hw : ws = Cond.codeWith y bytes maxL ret hh :: ws') (hrc : rm.cells = mc) (hrs : rm.slots = ms)
    (hd : y.cls = C ∧ y.cls ≠ "java/lang/invoke/MethodHandle" ∧ y.cls ≠ "java/lang/invoke/VarHandle" ∧ (parseMethodDescriptor y.desc).map (fun d => d.parameters.length) = some n) (hR : rm.frames + 1 ≤ R.frames ∧ 8 + (maxL + 11) + rm.locals ≤ R.locals) :
    vx_CVW R s args own C index y bytes maxL ret hh ws rm mc ms n := by
  obtain ⟨hC, hd⟩ := hd
  subst hC
  have ok : ∀ w ∈ wsV own index y.cls y ws, w.before args s = true := fun w h => ht w (hT w h).1
  have hG : GoodIn Ts ws := fun w h => hT w (by unfold wsV; exact List.mem_append_right _ h)
  have hc : Cond.codeWith y bytes maxL ret hh ∈ ws := by rw [hw]; exact List.mem_cons_self
  refine ⟨⟨hrc, hrs, hR.1, hR.2, pay_in ht hG, hc⟩, ht _ (hG _ hc).1, ok _ (by simp [wsV]), ⟨hd.1, hd.2.1⟩, fun sig h => ?_, ok _ (by simp [wsV]), ok _ (by simp [wsV]), ok _ (by simp [wsV])⟩
  have h2 := hd.2.2
  rw [h] at h2
  exact (Option.some.inj h2).symm
theorem vx_runVW {y : MethodName} {bytes cc : ByteArray} {maxL nL mc ms n index : Nat} {ret : Option FieldType} {hh : List (Nat × Nat × Nat × Nat)} {ws : List Cond} {rm : Room} {Pc : Array Value → State → Prop} {Qc : Array Value → State → Outcome → State → Prop} {free : Addr → Prop} {Ts : List Cond} {own C : String} {b : Addr} {As rest : List Value} {g : JFrame}
    (S : CallFix p m c cc nL s args Ts own) (hM : Met l y ws rm Pc Qc mc ms free) (cw : vx_CVW R s args own C index y bytes maxL ret hh ws rm mc ms n) (hp : PreV s H C b Pc As)
    (hg : g.method = m) (hn : As.length = n) (hsize : g.locals.size = nL) (hstack : g.stack = As.reverse ++ .ref b :: rest) (hW : 2 * g.monitorRoom + (rest.map fun v => v.category).sum ≤ 8) (hdg : decode cc g.pc = .ok (.invokevirtual index, 3)) (hf : cells + mc ≤ R.cells ∧ slots + ms ≤ R.slots) :
    va_Run p l e R s m args below meth c H locs cells slots mc ms g rest (Qc (Value.ref b :: As).toArray) free := by
  obtain ⟨⟨hrc, hrs, hfr, hlo, hws, hcw⟩, hcode, hini, hy, hlen, hl, hin, hse⟩ := cw
  have hK : Back l R p e below s args y 3 8 (PreOf R mc ms Pc) (PostOf Qc mc ms free) := va_backW (hh := hh) (bytes := bytes) (maxL := maxL) (ret := ret) hM hp.1 hrc hrs hfr hlo hws hcw (fun a' U hW => word_at hW (Or.inl (by first | rfl | simp [Cond.onTables, Cond.keeps, Cond.steady])) hini)
  obtain ⟨hx, hb, hml, ho, -⟩ := S
  obtain ⟨-, ⟨cellB, hcB, hoB, hclB⟩, hPc⟩ := hp
  intro T hT X
  obtain ⟨v, vm₁, ⟨U', l2, c2, s2⟩, hW₁, X', ⟨g', mk, t, L, e1, e2, hq, h1, hL, h2, h3⟩, st⟩ := vx_callVW X hx (C := C) (hh := hh) (bytes := bytes) (maxL := maxL) (ret := ret) ho hl hin hse hcode hy hK (by rw [hT]; exact hcB) hoB hclB hg (hsize.trans hml.symm) (argsL := As) (rest := rest) (fun sig h => hn.trans (hlen sig h)) hstack hW (by rw [hb]; exact hdg)
    (fun vm₁ hW₁ => ⟨hf.1, hf.2, hPc (T.setVm vm₁) hT hW₁⟩)
  dsimp only [Pt.U, Pt.locs, Pt.cells, Pt.slots] at X' e1 e2 h1 h2 h3 st
  subst h1; subst h2; subst h3
  exact ⟨v, (T.setVm vm₁).calling g' mk (Value.ref b :: As).toArray, t, U', L, hT, X', hL, e1, e2, hq, st⟩
section
variable {y : MethodName} {bytes cc : ByteArray} {maxL nL mc ms n index : Nat} {ret : Option FieldType} {ws : List Cond} {rm : Room} {Pc : Array Value → State → Prop} {Qc : Array Value → State → Outcome → State → Prop} {XC : String → State → State → Prop} {free : Addr → Prop} {Ts : List Cond} {own C : String} {b : Addr} {As rest : List Value} {g : JFrame}
theorem vx_runVX {hh : List (Nat × Nat × Nat × Nat)} (S : CallFix p m c cc nL s args Ts own) (hM : vx_Met l y ws rm Pc Qc XC mc ms free) (cw : vx_CVW R s args own C index y bytes maxL ret hh ws rm mc ms n) (hp : PreV s H C b Pc As)
    (hg : g.method = m) (hn : As.length = n) (hsize : g.locals.size = nL) (hstack : g.stack = As.reverse ++ .ref b :: rest) (hW : 2 * g.monitorRoom + (rest.map fun v => v.category).sum ≤ 8) (hdg : decode cc g.pc = .ok (.invokevirtual index, 3)) (hf : cells + mc ≤ R.cells ∧ slots + ms ≤ R.slots) :
    vx_Run p l e R s m args below meth c H locs cells slots mc ms g rest (Qc (Value.ref b :: As).toArray) XC free := by
  obtain ⟨⟨hrc, hrs, hfr, hlo, hws, hcw⟩, hcode, hini, hy, hlen, hl, hin, hse⟩ := cw
  have hK : vx_Back l R p e below s args y 3 8 (PreOf R mc ms Pc) (PostOf Qc mc ms free) (vx_Post XC mc ms free) := vx_backW (hh := hh) (bytes := bytes) (maxL := maxL) (ret := ret) hM hp.1 hrc hrs hfr hlo hws hcw (fun a' U hW => word_at hW (Or.inl (by first | rfl | simp [Cond.onTables, Cond.keeps, Cond.steady])) hini)
  obtain ⟨hx, hb, hml, ho, -⟩ := S
  obtain ⟨-, ⟨cellB, hcB, hoB, hclB⟩, hPc⟩ := hp
  intro T hT X
  rcases vx_callVX X hx (C := C) (hh := hh) (bytes := bytes) (maxL := maxL) (ret := ret) ho hl hin hse hcode hy hK (by rw [hT]; exact hcB) hoB hclB hg (hsize.trans hml.symm) (argsL := As) (rest := rest) (fun sig h => hn.trans (hlen sig h)) hstack hW (by rw [hb]; exact hdg)
    (fun vm₁ hW₁ => ⟨hf.1, hf.2, hPc (T.setVm vm₁) hT hW₁⟩) with ⟨v, vm₁, ⟨U', l2, c2, s2⟩, hW₁, X', ⟨g', mk, t, L, e1, e2, hq, h1, hL, h2, h3⟩, st⟩ | ⟨q, vm₁, ⟨U', l2, c2, s2⟩, hW₁, X', ⟨g', mk, t, L, E, ce, e1, e2, hq, hce, hcv, hcl, h1, hL, h2, h3⟩, st⟩
  · dsimp only [Pt.U, Pt.locs, Pt.cells, Pt.slots] at X' e1 e2 h1 h2 h3 st
    subst h1; subst h2; subst h3
    exact Or.inl ⟨v, (T.setVm vm₁).calling g' mk (Value.ref b :: As).toArray, t, U', L, hT, X', hL, e1, e2, hq, st⟩
  · dsimp only [Pt.U, Pt.locs, Pt.cells, Pt.slots] at X' e1 e2 h1 h2 h3 st hcl
    subst h1; subst h2; subst h3
    exact Or.inr ⟨q, (T.setVm vm₁).calling g' mk (Value.ref b :: As).toArray, t, U', L, E, ce, hT, X', hL, e1, e2, hq, hce, hcv, vx_cls hW₁ hcl, st⟩
theorem vx_runSX {hh : List (Nat × Nat × Nat × Nat)} (S : CallFix p m c cc nL s args Ts own) (hM : vx_Met l y ws rm Pc Qc XC mc ms free) (cw : vx_CSW R s args own index y bytes maxL ret hh ws rm mc ms n) (hp : PreS s H Pc As)
    (hg : g.method = m) (hn : As.length = n) (hsize : g.locals.size = nL) (hstack : g.stack = As.reverse ++ rest) (hW : 2 * g.monitorRoom + (rest.map fun v => v.category).sum ≤ 8) (hdg : decode cc g.pc = .ok (.invokestatic index, 3)) (hf : cells + mc ≤ R.cells ∧ slots + ms ≤ R.slots) :
    vx_Run p l e R s m args below meth c H locs cells slots mc ms g rest (Qc As.toArray) XC free := by
  obtain ⟨⟨hrc, hrs, hfr, hlo, hws, hcw⟩, hcode, hini, hy, hlen, hl, hstt⟩ := cw
  have hK : vx_Back l R p e below s args y 3 8 (PreOf R mc ms Pc) (PostOf Qc mc ms free) (vx_Post XC mc ms free) := vx_backW (hh := hh) (bytes := bytes) (maxL := maxL) (ret := ret) hM hp.1 hrc hrs hfr hlo hws hcw (fun a' U hW => word_at hW (Or.inl (by first | rfl | simp [Cond.onTables, Cond.keeps, Cond.steady])) hini)
  obtain ⟨hx, hb, hml, ho, -⟩ := S
  intro T hT X
  rcases vx_callSX X hx (hh := hh) (bytes := bytes) (maxL := maxL) (ret := ret) ho hl hstt hini hcode hy hK hg (hsize.trans hml.symm) (argsL := As) (rest := rest) (fun sig h => hn.trans (hlen sig h)) hstack hW (by rw [hb]; exact hdg)
    (fun vm₁ hW₁ => ⟨hf.1, hf.2, hp.2 (T.setVm vm₁) hT hW₁⟩) with ⟨v, vm₁, ⟨U', l2, c2, s2⟩, hW₁, X', ⟨g', mk, t, L, e1, e2, hq, h1, hL, h2, h3⟩, st⟩ | ⟨q, vm₁, ⟨U', l2, c2, s2⟩, hW₁, X', ⟨g', mk, t, L, E, ce, e1, e2, hq, hce, hcv, hcl, h1, hL, h2, h3⟩, st⟩
  · dsimp only [Pt.U, Pt.locs, Pt.cells, Pt.slots] at X' e1 e2 h1 h2 h3 st
    subst h1; subst h2; subst h3
    exact Or.inl ⟨v, (T.setVm vm₁).calling g' mk As.toArray, t, U', L, hT, X', hL, e1, e2, hq, st⟩
  · dsimp only [Pt.U, Pt.locs, Pt.cells, Pt.slots] at X' e1 e2 h1 h2 h3 st hcl
    subst h1; subst h2; subst h3
    exact Or.inr ⟨q, (T.setVm vm₁).calling g' mk As.toArray, t, U', L, E, ce, hT, X', hL, e1, e2, hq, hce, hcv, vx_cls hW₁ hcl, st⟩
end
end VXH
theorem vx_ofWH {l : Launch} {y : MethodName} {ws ws' : List Cond} {rm : Room} {Pc : Array Value → State → Prop} {Qc : Array Value → State → Outcome → State → Prop} {XC : String → State → State → Prop} {mc ms : Nat} {free : Addr → Prop} {cc : ByteArray} {maxL : Nat} {ret : Option FieldType} {hh : List (Nat × Nat × Nat × Nat)}
    (hy : plainName y.cls = true) (hw : ws = Cond.codeWith y cc maxL ret hh :: ws')
    (body : ∀ p e s m args below meth c s₁, BodyLoose p l y (headSpec ws rm) cc maxL ret e s m args below meth c s₁ → c.maxLocals = maxL → Pc args s →
      W p l e (headSpec ws rm).room s m args below meth c s.heap [] 0 0 (vx_MQ below Qc XC args s mc ms free) (entryFrame m args maxL)) : vx_Met l y ws rm Pc Qc XC mc ms free := by
  refine MetFree.of_bodyS (code := cc) (maxLocals := maxL) (ret := ret) hy ?_ ?_
  · intro args s m h hn
    obtain ⟨m9, meth, c, hn9, h1, h2, h3, h4, -, h5, h6, -⟩ := Cond.codeWith_spec (atoms_spec (ws := ws) h _ (by rw [hw]; exact List.mem_cons_self))
    cases hn.symm.trans hn9
    exact ⟨meth, c, h1, h2, h3, h4, h5, h6⟩
  · intro p e s m args below meth c s₁ B hml hP _
    have hh0 : s₁.heap = s.heap := by rw [B.state]; rfl
    obtain ⟨t, a1, o, b1, b2, b3⟩ := body p e s m args below meth c s₁ B hml hP s₁ hh0 (Stand.of_body B)
    exact ⟨t, o, a1, b1, b2, b3⟩
/-! ===== END ===== -/
end
section
/-! ===== BEGIN printed: names, fields, word lists, decode rows ===== -/
def RX0 : String := "CoverSheet$Counting"
def TX0 : u_T := fun k => match k with
  | _ => ("", "", "", false)
def tyX0 : Nat → FieldType := fun k => match k with
  | _ => .int
abbrev wsX00 : List Cond := u_ws RX0 TX0 0
theorem nmX0 : ∀ a, a < 0 → ∀ b, b < 0 → a ≠ b → (TX0 a).2.1 ≠ (TX0 b).2.1 := by decide +kernel
theorem tyX0_ok : ∀ k, k < 0 → parseFieldDescriptor (TX0 k).2.2.1 = some (tyX0 k) := by decide +kernel
abbrev cX0_init : ByteArray := prog_2_method_1_code
def yX0_init : MethodName := ⟨RX0, "<init>", "()V"⟩
abbrev cX0_none : ByteArray := prog_2_method_2_code
def yX0_none : MethodName := ⟨RX0, "none", "()J"⟩
abbrev cX0_start : ByteArray := prog_2_method_3_code
def yX0_start : MethodName := ⟨RX0, "start", "()J"⟩
abbrev cX0_longer : ByteArray := prog_2_method_4_code
def yX0_longer : MethodName := ⟨RX0, "longer", "(JII)J"⟩
abbrev cX0_joined : ByteArray := prog_2_method_5_code
def yX0_joined : MethodName := ⟨RX0, "joined", "(JJ)J"⟩
def RX1 : String := "CoverSheet$DayTable"
def TX1 : u_T := fun k => match k with
  | 0 => ("CoverSheet$DayTable", "values", "[J", false)
  | _ => ("CoverSheet$DayTable", "nextValues", "[J", false)
def tyX1 : Nat → FieldType := fun k => match k with
  | 0 => .array .long
  | _ => .array .long
abbrev wsX10 : List Cond := u_ws RX1 TX1 2
theorem nmX1 : ∀ a, a < 2 → ∀ b, b < 2 → a ≠ b → (TX1 a).2.1 ≠ (TX1 b).2.1 := by decide +kernel
theorem tyX1_ok : ∀ k, k < 2 → parseFieldDescriptor (TX1 k).2.2.1 = some (tyX1 k) := by decide +kernel
abbrev cX1_init : ByteArray := prog_3_method_1_code
def yX1_init : MethodName := ⟨RX1, "<init>", "()V"⟩
abbrev cX1_placeOf : ByteArray := prog_3_method_2_code
def yX1_placeOf : MethodName := ⟨RX1, "placeOf", "(III)I"⟩
abbrev cX1_through : ByteArray := prog_3_method_3_code
def yX1_through : MethodName := ⟨RX1, "through", "(LCoverSheet$Person;LCoverSheet$Rules;LCoverSheet$Measure;)J"⟩
abbrev cX1_goOn : ByteArray := prog_3_method_4_code
def yX1_goOn : MethodName := ⟨RX1, "goOn", "(LCoverSheet$Person;LCoverSheet$Rules;LCoverSheet$Measure;I)V"⟩
def RX2 : String := "CoverSheet$Measure"
def TX2 : u_T := fun k => match k with
  | _ => ("", "", "", false)
def tyX2 : Nat → FieldType := fun k => match k with
  | _ => .int
abbrev wsX20 : List Cond := u_ws RX2 TX2 0
theorem nmX2 : ∀ a, a < 0 → ∀ b, b < 0 → a ≠ b → (TX2 a).2.1 ≠ (TX2 b).2.1 := by decide +kernel
theorem tyX2_ok : ∀ k, k < 0 → parseFieldDescriptor (TX2 k).2.2.1 = some (tyX2 k) := by decide +kernel
abbrev cX2_init : ByteArray := prog_4_method_1_code
def yX2_init : MethodName := ⟨RX2, "<init>", "()V"⟩
def RX3 : String := "CoverSheet$Needs"
def TX3 : u_T := fun k => match k with
  | _ => ("CoverSheet$Needs", "numbers", "[I", true)
def tyX3 : Nat → FieldType := fun k => match k with
  | _ => .array .int
abbrev wsX30 : List Cond := u_ws RX3 TX3 1
theorem nmX3 : ∀ a, a < 1 → ∀ b, b < 1 → a ≠ b → (TX3 a).2.1 ≠ (TX3 b).2.1 := by decide +kernel
theorem tyX3_ok : ∀ k, k < 1 → parseFieldDescriptor (TX3 k).2.2.1 = some (tyX3 k) := by decide +kernel
abbrev cX3_init : ByteArray := prog_5_method_1_code
def yX3_init : MethodName := ⟨RX3, "<init>", "()V"⟩
abbrev cX3_of : ByteArray := prog_5_method_2_code
def yX3_of : MethodName := ⟨RX3, "of", "(II)I"⟩
abbrev cX3_put : ByteArray := prog_5_method_3_code
def yX3_put : MethodName := ⟨RX3, "put", "(III)V"⟩
def RX4 : String := "CoverSheet$Person"
def TX4 : u_T := fun k => match k with
  | 0 => ("CoverSheet$Person", "skills", "I", true)
  | 1 => ("CoverSheet$Person", "most", "I", true)
  | 2 => ("CoverSheet$Person", "week", "I", false)
  | 3 => ("CoverSheet$Person", "fixed", "I", false)
  | 4 => ("CoverSheet$Person", "wishes", "I", false)
  | 5 => ("CoverSheet$Person", "lastEntry", "I", false)
  | 6 => ("CoverSheet$Person", "daysInARow", "I", false)
  | _ => ("CoverSheet$Person", "weekendShifts", "I", false)
def tyX4 : Nat → FieldType := fun k => match k with
  | 0 => .int
  | 1 => .int
  | 2 => .int
  | 3 => .int
  | 4 => .int
  | 5 => .int
  | 6 => .int
  | _ => .int
abbrev wsX40 : List Cond := u_ws RX4 TX4 8
theorem nmX4 : ∀ a, a < 8 → ∀ b, b < 8 → a ≠ b → (TX4 a).2.1 ≠ (TX4 b).2.1 := by decide +kernel
theorem tyX4_ok : ∀ k, k < 8 → parseFieldDescriptor (TX4 k).2.2.1 = some (tyX4 k) := by decide +kernel
abbrev cX4_init : ByteArray := prog_6_method_1_code
def yX4_init : MethodName := ⟨RX4, "<init>", "(II)V"⟩
abbrev cX4_changeWish : ByteArray := prog_6_method_2_code
def yX4_changeWish : MethodName := ⟨RX4, "changeWish", "(IZ)Z"⟩
abbrev cX4_breaksWish : ByteArray := prog_6_method_3_code
def yX4_breaksWish : MethodName := ⟨RX4, "breaksWish", "(II)Z"⟩
abbrev cX4_brokenWishes : ByteArray := prog_6_method_4_code
def yX4_brokenWishes : MethodName := ⟨RX4, "brokenWishes", "()I"⟩
abbrev cX4_fixedAt : ByteArray := prog_6_method_5_code
def yX4_fixedAt : MethodName := ⟨RX4, "fixedAt", "(I)I"⟩
abbrev cX4_changeFixed : ByteArray := prog_6_method_6_code
def yX4_changeFixed : MethodName := ⟨RX4, "changeFixed", "(II)V"⟩
abbrev cX4_mayHave : ByteArray := prog_6_method_7_code
def yX4_mayHave : MethodName := ⟨RX4, "mayHave", "(II)Z"⟩
abbrev cX4_canHave : ByteArray := prog_6_method_8_code
def yX4_canHave : MethodName := ⟨RX4, "canHave", "(ILCoverSheet$Rules;)Z"⟩
abbrev cX4_noteWeek : ByteArray := prog_6_method_9_code
def yX4_noteWeek : MethodName := ⟨RX4, "noteWeek", "()V"⟩
def RX5 : String := "CoverSheet$Pricing"
def TX5 : u_T := fun k => match k with
  | _ => ("CoverSheet$Pricing", "prices", "[J", true)
def tyX5 : Nat → FieldType := fun k => match k with
  | _ => .array .long
abbrev wsX50 : List Cond := u_ws RX5 TX5 1
theorem nmX5 : ∀ a, a < 1 → ∀ b, b < 1 → a ≠ b → (TX5 a).2.1 ≠ (TX5 b).2.1 := by decide +kernel
theorem tyX5_ok : ∀ k, k < 1 → parseFieldDescriptor (TX5 k).2.2.1 = some (tyX5 k) := by decide +kernel
abbrev cX5_init : ByteArray := prog_7_method_1_code
def yX5_init : MethodName := ⟨RX5, "<init>", "()V"⟩
abbrev cX5_priceOf : ByteArray := prog_7_method_2_code
def yX5_priceOf : MethodName := ⟨RX5, "priceOf", "(LCoverSheet$Person;IIZ)J"⟩
abbrev cX5_weekOf : ByteArray := prog_7_method_3_code
def yX5_weekOf : MethodName := ⟨RX5, "weekOf", "(J)I"⟩
abbrev cX5_put : ByteArray := prog_7_method_4_code
def yX5_put : MethodName := ⟨RX5, "put", "(IIJ)V"⟩
abbrev cX5_none : ByteArray := prog_7_method_5_code
def yX5_none : MethodName := ⟨RX5, "none", "()J"⟩
abbrev cX5_start : ByteArray := prog_7_method_6_code
def yX5_start : MethodName := ⟨RX5, "start", "()J"⟩
abbrev cX5_longer : ByteArray := prog_7_method_7_code
def yX5_longer : MethodName := ⟨RX5, "longer", "(JII)J"⟩
abbrev cX5_joined : ByteArray := prog_7_method_8_code
def yX5_joined : MethodName := ⟨RX5, "joined", "(JJ)J"⟩
def RX6 : String := "CoverSheet$Rules"
def TX6 : u_T := fun k => match k with
  | 0 => ("CoverSheet$Rules", "forbidden", "I", false)
  | _ => ("CoverSheet$Rules", "longestRun", "I", false)
def tyX6 : Nat → FieldType := fun k => match k with
  | 0 => .int
  | _ => .int
abbrev wsX60 : List Cond := u_ws RX6 TX6 2
theorem nmX6 : ∀ a, a < 2 → ∀ b, b < 2 → a ≠ b → (TX6 a).2.1 ≠ (TX6 b).2.1 := by decide +kernel
theorem tyX6_ok : ∀ k, k < 2 → parseFieldDescriptor (TX6 k).2.2.1 = some (tyX6 k) := by decide +kernel
abbrev cX6_init : ByteArray := prog_8_method_1_code
def yX6_init : MethodName := ⟨RX6, "<init>", "()V"⟩
abbrev cX6_pairOf : ByteArray := prog_8_method_2_code
def yX6_pairOf : MethodName := ⟨RX6, "pairOf", "(II)I"⟩
abbrev cX6_changeFollowing : ByteArray := prog_8_method_3_code
def yX6_changeFollowing : MethodName := ⟨RX6, "changeFollowing", "(IIZ)Z"⟩
abbrev cX6_allow : ByteArray := prog_8_method_4_code
def yX6_allow : MethodName := ⟨RX6, "allow", "(III)Z"⟩
def RX7 : String := "CoverSheet$Week"
def TX7 : u_T := fun k => match k with
  | _ => ("", "", "", false)
def tyX7 : Nat → FieldType := fun k => match k with
  | _ => .int
abbrev wsX70 : List Cond := u_ws RX7 TX7 0
theorem nmX7 : ∀ a, a < 0 → ∀ b, b < 0 → a ≠ b → (TX7 a).2.1 ≠ (TX7 b).2.1 := by decide +kernel
theorem tyX7_ok : ∀ k, k < 0 → parseFieldDescriptor (TX7 k).2.2.1 = some (tyX7 k) := by decide +kernel
abbrev cX7_placeOf : ByteArray := prog_9_method_2_code
def yX7_placeOf : MethodName := ⟨RX7, "placeOf", "(I)I"⟩
abbrev cX7_at : ByteArray := prog_9_method_3_code
def yX7_at : MethodName := ⟨RX7, "at", "(II)I"⟩
abbrev cX7_with : ByteArray := prog_9_method_4_code
def yX7_with : MethodName := ⟨RX7, "with", "(III)I"⟩
abbrev cX7_shiftsFrom : ByteArray := prog_9_method_5_code
def yX7_shiftsFrom : MethodName := ⟨RX7, "shiftsFrom", "(II)I"⟩
def RX8 : String := "CoverSheet"
def TX8 : u_T := fun k => match k with
  | 0 => ("CoverSheet", "team", "[LCoverSheet$Person;", true)
  | 1 => ("CoverSheet", "needs", "LCoverSheet$Needs;", true)
  | 2 => ("CoverSheet", "rules", "LCoverSheet$Rules;", true)
  | 3 => ("CoverSheet", "table", "LCoverSheet$DayTable;", true)
  | 4 => ("CoverSheet", "counting", "LCoverSheet$Counting;", true)
  | 5 => ("CoverSheet", "pricing", "LCoverSheet$Pricing;", true)
  | 6 => ("CoverSheet", "teamSize", "I", false)
  | 7 => ("CoverSheet", "lastRounds", "I", false)
  | _ => ("CoverSheet", "closedWeeks", "I", false)
def tyX8 : Nat → FieldType := fun k => match k with
  | 0 => .array (.object "CoverSheet$Person")
  | 1 => .object "CoverSheet$Needs"
  | 2 => .object "CoverSheet$Rules"
  | 3 => .object "CoverSheet$DayTable"
  | 4 => .object "CoverSheet$Counting"
  | 5 => .object "CoverSheet$Pricing"
  | 6 => .int
  | 7 => .int
  | _ => .int
abbrev wsX80 : List Cond := u_ws RX8 TX8 9
theorem nmX8 : ∀ a, a < 9 → ∀ b, b < 9 → a ≠ b → (TX8 a).2.1 ≠ (TX8 b).2.1 := by decide +kernel
theorem tyX8_ok : ∀ k, k < 9 → parseFieldDescriptor (TX8 k).2.2.1 = some (tyX8 k) := by decide +kernel
abbrev cX8_init : ByteArray := prog_1_method_1_code
def yX8_init : MethodName := ⟨RX8, "<init>", "()V"⟩
abbrev cX8_addPerson : ByteArray := prog_1_method_2_code
def yX8_addPerson : MethodName := ⟨RX8, "addPerson", "(II)I"⟩
abbrev cX8_setNeed : ByteArray := prog_1_method_3_code
def yX8_setNeed : MethodName := ⟨RX8, "setNeed", "(III)I"⟩
abbrev cX8_forbid : ByteArray := prog_1_method_4_code
def yX8_forbid : MethodName := ⟨RX8, "forbid", "(IIZ)Z"⟩
abbrev cX8_setRun : ByteArray := prog_1_method_5_code
def yX8_setRun : MethodName := ⟨RX8, "setRun", "(I)I"⟩
abbrev cX8_wish : ByteArray := prog_1_method_6_code
def yX8_wish : MethodName := ⟨RX8, "wish", "(IIZ)Z"⟩
abbrev cX8_fix : ByteArray := prog_1_method_7_code
def yX8_fix : MethodName := ⟨RX8, "fix", "(III)I"⟩
abbrev cX8_plan : ByteArray := prog_1_method_8_code
def yX8_plan : MethodName := ⟨RX8, "plan", "()I"⟩
abbrev cX8_rounds : ByteArray := prog_1_method_9_code
def yX8_rounds : MethodName := ⟨RX8, "rounds", "()I"⟩
abbrev cX8_set : ByteArray := prog_1_method_10_code
def yX8_set : MethodName := ⟨RX8, "set", "(III)I"⟩
abbrev cX8_swap : ByteArray := prog_1_method_11_code
def yX8_swap : MethodName := ⟨RX8, "swap", "(III)I"⟩
abbrev cX8_closeWeek : ByteArray := prog_1_method_12_code
def yX8_closeWeek : MethodName := ⟨RX8, "closeWeek", "()I"⟩
abbrev cX8_people : ByteArray := prog_1_method_13_code
def yX8_people : MethodName := ⟨RX8, "people", "()I"⟩
abbrev cX8_entry : ByteArray := prog_1_method_14_code
def yX8_entry : MethodName := ⟨RX8, "entry", "(II)I"⟩
abbrev cX8_gaps : ByteArray := prog_1_method_15_code
def yX8_gaps : MethodName := ⟨RX8, "gaps", "()I"⟩
abbrev cX8_gap : ByteArray := prog_1_method_16_code
def yX8_gap : MethodName := ⟨RX8, "gap", "(II)I"⟩
abbrev cX8_shifts : ByteArray := prog_1_method_17_code
def yX8_shifts : MethodName := ⟨RX8, "shifts", "(I)I"⟩
abbrev cX8_weekends : ByteArray := prog_1_method_18_code
def yX8_weekends : MethodName := ⟨RX8, "weekends", "(I)I"⟩
abbrev cX8_broken : ByteArray := prog_1_method_19_code
def yX8_broken : MethodName := ⟨RX8, "broken", "(I)I"⟩
abbrev cX8_runBefore : ByteArray := prog_1_method_20_code
def yX8_runBefore : MethodName := ⟨RX8, "runBefore", "(I)I"⟩
abbrev cX8_isFeasible : ByteArray := prog_1_method_21_code
def yX8_isFeasible : MethodName := ⟨RX8, "isFeasible", "(I)Z"⟩
abbrev cX8_weeks : ByteArray := prog_1_method_22_code
def yX8_weeks : MethodName := ⟨RX8, "weeks", "(I)I"⟩
abbrev cX8_weeksByDays : ByteArray := prog_1_method_23_code
def yX8_weeksByDays : MethodName := ⟨RX8, "weeksByDays", "(I)I"⟩
abbrev cX8_couldTake : ByteArray := prog_1_method_24_code
def yX8_couldTake : MethodName := ⟨RX8, "couldTake", "(II)I"⟩
abbrev cX8_swapFor : ByteArray := prog_1_method_25_code
def yX8_swapFor : MethodName := ⟨RX8, "swapFor", "(II)I"⟩
abbrev cX8_bound : ByteArray := prog_1_method_26_code
def yX8_bound : MethodName := ⟨RX8, "bound", "()I"⟩
abbrev cX8_isDay : ByteArray := prog_1_method_27_code
def yX8_isDay : MethodName := ⟨RX8, "isDay", "(I)Z"⟩
abbrev cX8_isEntry : ByteArray := prog_1_method_28_code
def yX8_isEntry : MethodName := ⟨RX8, "isEntry", "(I)Z"⟩
abbrev cX8_isKind : ByteArray := prog_1_method_29_code
def yX8_isKind : MethodName := ⟨RX8, "isKind", "(I)Z"⟩
abbrev cX8_personAt : ByteArray := prog_1_method_30_code
def yX8_personAt : MethodName := ⟨RX8, "personAt", "(I)LCoverSheet$Person;"⟩
abbrev cX8_couldSwap : ByteArray := prog_1_method_31_code
def yX8_couldSwap : MethodName := ⟨RX8, "couldSwap", "(LCoverSheet$Person;LCoverSheet$Person;I)Z"⟩
abbrev cX8_allGaps : ByteArray := prog_1_method_32_code
def yX8_allGaps : MethodName := ⟨RX8, "allGaps", "()I"⟩
abbrev cX8_gapWithout : ByteArray := prog_1_method_33_code
def yX8_gapWithout : MethodName := ⟨RX8, "gapWithout", "(LCoverSheet$Person;II)I"⟩
abbrev cX8_leastGapsOf : ByteArray := prog_1_method_34_code
def yX8_leastGapsOf : MethodName := ⟨RX8, "leastGapsOf", "(I)I"⟩
abbrev cX8_peopleWithOneOf : ByteArray := prog_1_method_35_code
def yX8_peopleWithOneOf : MethodName := ⟨RX8, "peopleWithOneOf", "(I)I"⟩
abbrev cX8_planRound : ByteArray := prog_1_method_36_code
def yX8_planRound : MethodName := ⟨RX8, "planRound", "()Z"⟩
abbrev cX8_chosenWeek : ByteArray := prog_1_method_37_code
def yX8_chosenWeek : MethodName := ⟨RX8, "chosenWeek", "(LCoverSheet$Person;)I"⟩
def RX9 : String := "CoverSheetModel"
def TX9 : u_T := fun k => match k with
  | 0 => ("CoverSheetModel", "thrown", "I", false)
  | 1 => ("CoverSheetModel", "many", "I", false)
  | 2 => ("CoverSheetModel", "closed", "I", false)
  | 3 => ("CoverSheetModel", "rounds", "I", false)
  | 4 => ("CoverSheetModel", "run", "I", false)
  | 5 => ("CoverSheetModel", "skills", "[I", true)
  | 6 => ("CoverSheetModel", "most", "[I", true)
  | 7 => ("CoverSheetModel", "need", "[I", true)
  | 8 => ("CoverSheetModel", "barred", "[I", true)
  | 9 => ("CoverSheetModel", "entries", "[I", true)
  | 10 => ("CoverSheetModel", "fixed", "[I", true)
  | 11 => ("CoverSheetModel", "wished", "[I", true)
  | 12 => ("CoverSheetModel", "last", "[I", true)
  | 13 => ("CoverSheetModel", "before", "[I", true)
  | _ => ("CoverSheetModel", "ends", "[I", true)
def tyX9 : Nat → FieldType := fun k => match k with
  | 0 => .int
  | 1 => .int
  | 2 => .int
  | 3 => .int
  | 4 => .int
  | 5 => .array .int
  | 6 => .array .int
  | 7 => .array .int
  | 8 => .array .int
  | 9 => .array .int
  | 10 => .array .int
  | 11 => .array .int
  | 12 => .array .int
  | 13 => .array .int
  | _ => .array .int
abbrev wsX90 : List Cond := u_ws RX9 TX9 15
theorem nmX9 : ∀ a, a < 15 → ∀ b, b < 15 → a ≠ b → (TX9 a).2.1 ≠ (TX9 b).2.1 := by decide +kernel
theorem tyX9_ok : ∀ k, k < 15 → parseFieldDescriptor (TX9 k).2.2.1 = some (tyX9 k) := by decide +kernel
abbrev cX9_init : ByteArray := prog_11_method_1_code
def yX9_init : MethodName := ⟨RX9, "<init>", "()V"⟩
abbrev cX9_thrown : ByteArray := prog_11_method_2_code
def yX9_thrown : MethodName := ⟨RX9, "thrown", "()I"⟩
abbrev cX9_fails : ByteArray := prog_11_method_3_code
def yX9_fails : MethodName := ⟨RX9, "fails", "(I)I"⟩
abbrev cX9_in : ByteArray := prog_11_method_4_code
def yX9_in : MethodName := ⟨RX9, "in", "(III)Z"⟩
abbrev cX9_isPerson : ByteArray := prog_11_method_5_code
def yX9_isPerson : MethodName := ⟨RX9, "isPerson", "(I)Z"⟩
abbrev cX9_isDay : ByteArray := prog_11_method_6_code
def yX9_isDay : MethodName := ⟨RX9, "isDay", "(I)Z"⟩
abbrev cX9_isKind : ByteArray := prog_11_method_7_code
def yX9_isKind : MethodName := ⟨RX9, "isKind", "(I)Z"⟩
abbrev cX9_isAsked : ByteArray := prog_11_method_8_code
def yX9_isAsked : MethodName := ⟨RX9, "isAsked", "(I)Z"⟩
abbrev cX9_entryOf : ByteArray := prog_11_method_9_code
def yX9_entryOf : MethodName := ⟨RX9, "entryOf", "(II)I"⟩
abbrev cX9_with : ByteArray := prog_11_method_10_code
def yX9_with : MethodName := ⟨RX9, "with", "(III)I"⟩
abbrev cX9_weekOf : ByteArray := prog_11_method_11_code
def yX9_weekOf : MethodName := ⟨RX9, "weekOf", "(I)I"⟩
abbrev cX9_enter : ByteArray := prog_11_method_12_code
def yX9_enter : MethodName := ⟨RX9, "enter", "(II)V"⟩
abbrev cX9_countShifts : ByteArray := prog_11_method_13_code
def yX9_countShifts : MethodName := ⟨RX9, "countShifts", "(I)I"⟩
abbrev cX9_isPossible : ByteArray := prog_11_method_14_code
def yX9_isPossible : MethodName := ⟨RX9, "isPossible", "(II)Z"⟩
abbrev cX9_brokenBy : ByteArray := prog_11_method_15_code
def yX9_brokenBy : MethodName := ⟨RX9, "brokenBy", "(II)I"⟩
abbrev cX9_weekendOf : ByteArray := prog_11_method_16_code
def yX9_weekendOf : MethodName := ⟨RX9, "weekendOf", "(I)I"⟩
abbrev cX9_addPerson : ByteArray := prog_11_method_17_code
def yX9_addPerson : MethodName := ⟨RX9, "addPerson", "(II)I"⟩
abbrev cX9_setNeed : ByteArray := prog_11_method_18_code
def yX9_setNeed : MethodName := ⟨RX9, "setNeed", "(III)I"⟩
abbrev cX9_forbid : ByteArray := prog_11_method_19_code
def yX9_forbid : MethodName := ⟨RX9, "forbid", "(IIZ)Z"⟩
abbrev cX9_setRun : ByteArray := prog_11_method_20_code
def yX9_setRun : MethodName := ⟨RX9, "setRun", "(I)I"⟩
abbrev cX9_wish : ByteArray := prog_11_method_21_code
def yX9_wish : MethodName := ⟨RX9, "wish", "(IIZ)Z"⟩
abbrev cX9_fix : ByteArray := prog_11_method_22_code
def yX9_fix : MethodName := ⟨RX9, "fix", "(III)I"⟩
abbrev cX9_countEntries : ByteArray := prog_11_method_23_code
def yX9_countEntries : MethodName := ⟨RX9, "countEntries", "(III)I"⟩
abbrev cX9_gapOf : ByteArray := prog_11_method_24_code
def yX9_gapOf : MethodName := ⟨RX9, "gapOf", "(III)I"⟩
abbrev cX9_allGaps : ByteArray := prog_11_method_25_code
def yX9_allGaps : MethodName := ⟨RX9, "allGaps", "()I"⟩
abbrev cX9_fills : ByteArray := prog_11_method_26_code
def yX9_fills : MethodName := ⟨RX9, "fills", "(I)I"⟩
abbrev cX9_price : ByteArray := prog_11_method_27_code
def yX9_price : MethodName := ⟨RX9, "price", "(III)I"⟩
abbrev cX9_choice : ByteArray := prog_11_method_28_code
def yX9_choice : MethodName := ⟨RX9, "choice", "(I)I"⟩
abbrev cX9_plan : ByteArray := prog_11_method_29_code
def yX9_plan : MethodName := ⟨RX9, "plan", "()I"⟩
abbrev cX9_rounds : ByteArray := prog_11_method_30_code
def yX9_rounds : MethodName := ⟨RX9, "rounds", "()I"⟩
abbrev cX9_set : ByteArray := prog_11_method_31_code
def yX9_set : MethodName := ⟨RX9, "set", "(III)I"⟩
abbrev cX9_canSwap : ByteArray := prog_11_method_32_code
def yX9_canSwap : MethodName := ⟨RX9, "canSwap", "(III)Z"⟩
abbrev cX9_swap : ByteArray := prog_11_method_33_code
def yX9_swap : MethodName := ⟨RX9, "swap", "(III)I"⟩
abbrev cX9_closeWeek : ByteArray := prog_11_method_34_code
def yX9_closeWeek : MethodName := ⟨RX9, "closeWeek", "()I"⟩
abbrev cX9_people : ByteArray := prog_11_method_35_code
def yX9_people : MethodName := ⟨RX9, "people", "()I"⟩
abbrev cX9_entry : ByteArray := prog_11_method_36_code
def yX9_entry : MethodName := ⟨RX9, "entry", "(II)I"⟩
abbrev cX9_gaps : ByteArray := prog_11_method_37_code
def yX9_gaps : MethodName := ⟨RX9, "gaps", "()I"⟩
abbrev cX9_gap : ByteArray := prog_11_method_38_code
def yX9_gap : MethodName := ⟨RX9, "gap", "(II)I"⟩
abbrev cX9_shifts : ByteArray := prog_11_method_39_code
def yX9_shifts : MethodName := ⟨RX9, "shifts", "(I)I"⟩
abbrev cX9_weekends : ByteArray := prog_11_method_40_code
def yX9_weekends : MethodName := ⟨RX9, "weekends", "(I)I"⟩
abbrev cX9_broken : ByteArray := prog_11_method_41_code
def yX9_broken : MethodName := ⟨RX9, "broken", "(I)I"⟩
abbrev cX9_runBefore : ByteArray := prog_11_method_42_code
def yX9_runBefore : MethodName := ⟨RX9, "runBefore", "(I)I"⟩
abbrev cX9_isFeasible : ByteArray := prog_11_method_43_code
def yX9_isFeasible : MethodName := ⟨RX9, "isFeasible", "(I)Z"⟩
abbrev cX9_countWeeks : ByteArray := prog_11_method_44_code
def yX9_countWeeks : MethodName := ⟨RX9, "countWeeks", "(I)I"⟩
abbrev cX9_weeks : ByteArray := prog_11_method_45_code
def yX9_weeks : MethodName := ⟨RX9, "weeks", "(I)I"⟩
abbrev cX9_weeksByDays : ByteArray := prog_11_method_46_code
def yX9_weeksByDays : MethodName := ⟨RX9, "weeksByDays", "(I)I"⟩
abbrev cX9_couldTake : ByteArray := prog_11_method_47_code
def yX9_couldTake : MethodName := ⟨RX9, "couldTake", "(II)I"⟩
abbrev cX9_swapFor : ByteArray := prog_11_method_48_code
def yX9_swapFor : MethodName := ⟨RX9, "swapFor", "(II)I"⟩
abbrev cX9_lacking : ByteArray := prog_11_method_49_code
def yX9_lacking : MethodName := ⟨RX9, "lacking", "(I)I"⟩
abbrev cX9_bound : ByteArray := prog_11_method_50_code
def yX9_bound : MethodName := ⟨RX9, "bound", "()I"⟩
def RJx145de : String := "java/io/Serializable"
def TJx145de : u_T := fun k => match k with
  | _ => ("", "", "", false)
def tyJx145de : Nat → FieldType := fun k => match k with
  | _ => .int
abbrev wsJx145de0 : List Cond := u_ws RJx145de TJx145de 0
theorem nmJx145de : ∀ a, a < 0 → ∀ b, b < 0 → a ≠ b → (TJx145de a).2.1 ≠ (TJx145de b).2.1 := by decide +kernel
theorem tyJx145de_ok : ∀ k, k < 0 → parseFieldDescriptor (TJx145de k).2.2.1 = some (tyJx145de k) := by decide +kernel
def RJ9 : String := "java/lang/Math"
def TJ9 : u_T := fun k => match k with
  | _ => ("", "", "", false)
def tyJ9 : Nat → FieldType := fun k => match k with
  | _ => .int
abbrev wsJ90 : List Cond := u_ws RJ9 TJ9 0
theorem nmJ9 : ∀ a, a < 0 → ∀ b, b < 0 → a ≠ b → (TJ9 a).2.1 ≠ (TJ9 b).2.1 := by decide +kernel
theorem tyJ9_ok : ∀ k, k < 0 → parseFieldDescriptor (TJ9 k).2.2.1 = some (tyJ9 k) := by decide +kernel
abbrev cJ9_max_7cf53 : ByteArray := prog_16_method_65_code
def yJ9_max_7cf53 : MethodName := ⟨RJ9, "max", "(II)I"⟩
abbrev cJ9_min_7cf53 : ByteArray := prog_16_method_69_code
def yJ9_min_7cf53 : MethodName := ⟨RJ9, "min", "(II)I"⟩
abbrev cJ9_min_f86c9 : ByteArray := prog_16_method_70_code
def yJ9_min_f86c9 : MethodName := ⟨RJ9, "min", "(JJ)J"⟩
def RJ0 : String := "java/lang/String"
def TJ0 : u_T := fun k => match k with
  | _ => ("", "", "", false)
def tyJ0 : Nat → FieldType := fun k => match k with
  | _ => .int
abbrev wsJ00 : List Cond := u_ws RJ0 TJ0 0
theorem nmJ0 : ∀ a, a < 0 → ∀ b, b < 0 → a ≠ b → (TJ0 a).2.1 ≠ (TJ0 b).2.1 := by decide +kernel
theorem tyJ0_ok : ∀ k, k < 0 → parseFieldDescriptor (TJ0 k).2.2.1 = some (tyJ0 k) := by decide +kernel
def RJ7 : String := "java/util/Arrays"
def TJ7 : u_T := fun k => match k with
  | _ => ("", "", "", false)
def tyJ7 : Nat → FieldType := fun k => match k with
  | _ => .int
abbrev wsJ70 : List Cond := u_ws RJ7 TJ7 0
theorem nmJ7 : ∀ a, a < 0 → ∀ b, b < 0 → a ≠ b → (TJ7 a).2.1 ≠ (TJ7 b).2.1 := by decide +kernel
theorem tyJ7_ok : ∀ k, k < 0 → parseFieldDescriptor (TJ7 k).2.2.1 = some (tyJ7 k) := by decide +kernel
abbrev cJ7_fill_d0a16 : ByteArray := prog_20_method_101_code
def yJ7_fill_d0a16 : MethodName := ⟨RJ7, "fill", "([JJ)V"⟩
def RL : String := "CoverSheetLaw"
abbrev cL_addPerson : ByteArray := method_3_code
def yL_addPerson : MethodName := ⟨RL, "addPerson", "(LCoverSheet;II[J)I"⟩
abbrev cL_setNeed : ByteArray := method_4_code
def yL_setNeed : MethodName := ⟨RL, "setNeed", "(LCoverSheet;III[J)I"⟩
abbrev cL_forbid : ByteArray := method_5_code
def yL_forbid : MethodName := ⟨RL, "forbid", "(LCoverSheet;IIZ[J)I"⟩
abbrev cL_setRun : ByteArray := method_6_code
def yL_setRun : MethodName := ⟨RL, "setRun", "(LCoverSheet;I[J)I"⟩
abbrev cL_wish : ByteArray := method_7_code
def yL_wish : MethodName := ⟨RL, "wish", "(LCoverSheet;IIZ[J)I"⟩
abbrev cL_fix : ByteArray := method_8_code
def yL_fix : MethodName := ⟨RL, "fix", "(LCoverSheet;III[J)I"⟩
abbrev cL_set : ByteArray := method_9_code
def yL_set : MethodName := ⟨RL, "set", "(LCoverSheet;III[J)I"⟩
abbrev cL_swap : ByteArray := method_10_code
def yL_swap : MethodName := ⟨RL, "swap", "(LCoverSheet;III[J)I"⟩
abbrev cL_entry : ByteArray := method_11_code
def yL_entry : MethodName := ⟨RL, "entry", "(LCoverSheet;II[J)I"⟩
abbrev cL_gap : ByteArray := method_12_code
def yL_gap : MethodName := ⟨RL, "gap", "(LCoverSheet;II[J)I"⟩
abbrev cL_shifts : ByteArray := method_13_code
def yL_shifts : MethodName := ⟨RL, "shifts", "(LCoverSheet;I[J)I"⟩
abbrev cL_weekends : ByteArray := method_14_code
def yL_weekends : MethodName := ⟨RL, "weekends", "(LCoverSheet;I[J)I"⟩
abbrev cL_broken : ByteArray := method_15_code
def yL_broken : MethodName := ⟨RL, "broken", "(LCoverSheet;I[J)I"⟩
abbrev cL_runBefore : ByteArray := method_16_code
def yL_runBefore : MethodName := ⟨RL, "runBefore", "(LCoverSheet;I[J)I"⟩
abbrev cL_isFeasible : ByteArray := method_17_code
def yL_isFeasible : MethodName := ⟨RL, "isFeasible", "(LCoverSheet;I[J)I"⟩
abbrev cL_weeks : ByteArray := method_18_code
def yL_weeks : MethodName := ⟨RL, "weeks", "(LCoverSheet;I[J)I"⟩
abbrev cL_weeksByDays : ByteArray := method_19_code
def yL_weeksByDays : MethodName := ⟨RL, "weeksByDays", "(LCoverSheet;I[J)I"⟩
abbrev cL_couldTake : ByteArray := method_20_code
def yL_couldTake : MethodName := ⟨RL, "couldTake", "(LCoverSheet;II[J)I"⟩
abbrev cL_swapFor : ByteArray := method_21_code
def yL_swapFor : MethodName := ⟨RL, "swapFor", "(LCoverSheet;II[J)I"⟩
abbrev cL_law : ByteArray := code
def yL_law : MethodName := ⟨RL, "law", "([I)Z"⟩
def wsX2_init : List Cond := .code yX2_init cX2_init 1 none :: ([.methodLink RX2 1 objectInit, .instanceMethod objectInit, .code objectInit ⟨#[0xb1]⟩ 1 none])
def wsX0_init : List Cond := .code yX0_init cX0_init 1 none :: ([.instanceMethod yX2_init, .initialized RX2, .code yX2_init cX2_init 1 none, .methodLink RX2 1 objectInit, .instanceMethod objectInit, .code objectInit ⟨#[0xb1]⟩ 1 none])
def wsX0_none : List Cond := .code yX0_none cX0_none 1 (some .long) :: ([])
def wsX0_start : List Cond := .code yX0_start cX0_start 1 (some .long) :: ([])
def wsX0_longer : List Cond := .code yX0_longer cX0_longer 5 (some .long) :: ([])
def wsX0_joined : List Cond := .code yX0_joined cX0_joined 5 (some .long) :: ([])
def wsX1_init : List Cond := .code yX1_init cX1_init 1 none :: ([.methodLink RX1 5 objectInit, .instanceMethod objectInit, .code objectInit ⟨#[0xb1]⟩ 1 none, .arrayClass .long, .fieldLink RX1 11 "CoverSheet$DayTable" "values" "[J", .fieldLink RX1 15 "CoverSheet$DayTable" "nextValues" "[J"] ++ wsX10)
def wsX1_placeOf : List Cond := .code yX1_placeOf cX1_placeOf 3 (some .int) :: ([])
def wsX5_none : List Cond := .code yX5_none cX5_none 1 (some .long) :: ([.constantLong RX5 41 (9223372036854775807)])
def wsJ7_fill_d0a16 : List Cond := .code yJ7_fill_d0a16 cJ7_fill_d0a16 5 none :: ([])
def wsX5_start : List Cond := .code yX5_start cX5_start 1 (some .long) :: ([])
def wsX4_fixedAt : List Cond := .code yX4_fixedAt cX4_fixedAt 2 (some .int) :: ([.fieldLink RX4 34 "CoverSheet$Person" "fixed" "I"] ++ wsX40)
def wsX4_mayHave : List Cond := .code yX4_mayHave cX4_mayHave 4 (some .boolean) :: ([.fieldLink RX4 9 "CoverSheet$Person" "skills" "I", .methodLink RX4 37 yX4_fixedAt, .instanceMethod yX4_fixedAt, .selects RX4 yX4_fixedAt yX4_fixedAt, .initialized RX4, .code yX4_fixedAt cX4_fixedAt 2 (some .int), .fieldLink RX4 34 "CoverSheet$Person" "fixed" "I"] ++ wsX40)
def wsX6_pairOf : List Cond := .code yX6_pairOf cX6_pairOf 2 (some .int) :: ([])
def wsX6_allow : List Cond := .code yX6_allow cX6_allow 4 (some .boolean) :: ([.fieldLink RX6 19 "CoverSheet$Rules" "longestRun" "I", .fieldLink RX6 15 "CoverSheet$Rules" "forbidden" "I", .methodLink RX6 9 yX6_pairOf, .static yX6_pairOf, .initialized RX6, .code yX6_pairOf cX6_pairOf 2 (some .int)] ++ wsX60)
def wsX5_longer : List Cond := .code yX5_longer cX5_longer 6 (some .long) :: ([.fieldLink RX5 15 "CoverSheet$Pricing" "prices" "[J", .constantLong RX5 41 (9223372036854775807)] ++ wsX50)
def wsX5_joined : List Cond := .code yX5_joined cX5_joined 5 (some .long) :: ([.methodLink RX5 45 Lib.MathLoose.min_long.x, .static Lib.MathLoose.min_long.x, .initialized "java/lang/Math", .code Lib.MathLoose.min_long.x Lib.MathLoose.min_long.code 4 (some .long)])
def wsX1_goOn_r1 : List Cond := [Cond.fieldLink RX1 15 "CoverSheet$DayTable" "nextValues" "[J", Cond.fieldLink RX1 11 "CoverSheet$DayTable" "values" "[J", Cond.methodLink RX1 18 ⟨"CoverSheet$Measure", "none", "()J"⟩, Cond.sameMethod "CoverSheet$Measure" "CoverSheet$Measure" "none" "()J", Cond.selects RX0 ⟨"CoverSheet$Measure", "none", "()J"⟩ yX0_none, Cond.instanceMethod yX0_none, Cond.initialized RX0, Cond.code yX0_none cX0_none 1 (some .long), Cond.selects RX5 ⟨"CoverSheet$Measure", "none", "()J"⟩ yX5_none, Cond.instanceMethod yX5_none, Cond.initialized RX5, Cond.code yX5_none cX5_none 1 (some .long), Cond.constantLong RX5 41 (9223372036854775807), Cond.methodLink RX1 24 yJ7_fill_d0a16, Cond.static yJ7_fill_d0a16, Cond.initialized RJ7, Cond.code yJ7_fill_d0a16 cJ7_fill_d0a16 5 none, Cond.methodLink RX1 63 yX4_mayHave, Cond.instanceMethod yX4_mayHave, Cond.selects RX4 yX4_mayHave yX4_mayHave, Cond.initialized RX4, Cond.code yX4_mayHave cX4_mayHave 4 (some .boolean), Cond.fieldLink RX4 9 "CoverSheet$Person" "skills" "I", Cond.methodLink RX4 37 yX4_fixedAt]
def wsX1_goOn_r2 : List Cond := [Cond.instanceMethod yX4_fixedAt, Cond.selects RX4 yX4_fixedAt yX4_fixedAt, Cond.code yX4_fixedAt cX4_fixedAt 2 (some .int), Cond.fieldLink RX4 34 "CoverSheet$Person" "fixed" "I", Cond.methodLink RX1 67 yX6_allow, Cond.instanceMethod yX6_allow, Cond.selects RX6 yX6_allow yX6_allow, Cond.initialized RX6, Cond.code yX6_allow cX6_allow 4 (some .boolean), Cond.fieldLink RX6 19 "CoverSheet$Rules" "longestRun" "I", Cond.fieldLink RX6 15 "CoverSheet$Rules" "forbidden" "I", Cond.methodLink RX6 9 yX6_pairOf, Cond.static yX6_pairOf, Cond.code yX6_pairOf cX6_pairOf 2 (some .int), Cond.methodLink RX1 45 yX1_placeOf, Cond.static yX1_placeOf, Cond.initialized RX1, Cond.code yX1_placeOf cX1_placeOf 3 (some .int), Cond.methodLink RX1 73 ⟨"CoverSheet$Measure", "longer", "(JII)J"⟩, Cond.sameMethod "CoverSheet$Measure" "CoverSheet$Measure" "longer" "(JII)J", Cond.selects RX0 ⟨"CoverSheet$Measure", "longer", "(JII)J"⟩ yX0_longer, Cond.instanceMethod yX0_longer, Cond.code yX0_longer cX0_longer 5 (some .long), Cond.selects RX5 ⟨"CoverSheet$Measure", "longer", "(JII)J"⟩ yX5_longer]
def wsX1_goOn_r3 : List Cond := [Cond.instanceMethod yX5_longer, Cond.code yX5_longer cX5_longer 6 (some .long), Cond.fieldLink RX5 15 "CoverSheet$Pricing" "prices" "[J", Cond.methodLink RX1 56 ⟨"CoverSheet$Measure", "joined", "(JJ)J"⟩, Cond.sameMethod "CoverSheet$Measure" "CoverSheet$Measure" "joined" "(JJ)J", Cond.selects RX0 ⟨"CoverSheet$Measure", "joined", "(JJ)J"⟩ yX0_joined, Cond.instanceMethod yX0_joined, Cond.code yX0_joined cX0_joined 5 (some .long), Cond.selects RX5 ⟨"CoverSheet$Measure", "joined", "(JJ)J"⟩ yX5_joined, Cond.instanceMethod yX5_joined, Cond.code yX5_joined cX5_joined 5 (some .long), Cond.methodLink RX5 45 Lib.MathLoose.min_long.x, Cond.static Lib.MathLoose.min_long.x, Cond.initialized "java/lang/Math", Cond.code Lib.MathLoose.min_long.x Lib.MathLoose.min_long.code 4 (some .long)]
def wsX1_goOn : List Cond := .code yX1_goOn cX1_goOn 16 none :: ((wsX1_goOn_r1 ++ (wsX1_goOn_r2 ++ wsX1_goOn_r3)) ++ wsX10 ++ wsX40 ++ wsX60 ++ wsX50)
def wsX1_through_r1 : List Cond := [Cond.fieldLink RX1 11 "CoverSheet$DayTable" "values" "[J", Cond.methodLink RX1 36 Lib.Math.min.name, Cond.static Lib.Math.min.name, Cond.initialized "java/lang/Math", Cond.code Lib.Math.min.name Lib.Math.min.code 2 (some .int), Cond.methodLink RX1 18 ⟨"CoverSheet$Measure", "none", "()J"⟩, Cond.sameMethod "CoverSheet$Measure" "CoverSheet$Measure" "none" "()J", Cond.selects RX0 ⟨"CoverSheet$Measure", "none", "()J"⟩ yX0_none, Cond.instanceMethod yX0_none, Cond.initialized RX0, Cond.code yX0_none cX0_none 1 (some .long), Cond.selects RX5 ⟨"CoverSheet$Measure", "none", "()J"⟩ yX5_none, Cond.instanceMethod yX5_none, Cond.initialized RX5, Cond.code yX5_none cX5_none 1 (some .long), Cond.constantLong RX5 41 (9223372036854775807), Cond.methodLink RX1 24 yJ7_fill_d0a16, Cond.static yJ7_fill_d0a16, Cond.initialized RJ7, Cond.code yJ7_fill_d0a16 cJ7_fill_d0a16 5 none, Cond.methodLink RX1 45 yX1_placeOf, Cond.static yX1_placeOf, Cond.initialized RX1, Cond.code yX1_placeOf cX1_placeOf 3 (some .int)]
def wsX1_through_r2 : List Cond := [Cond.methodLink RX1 49 ⟨"CoverSheet$Measure", "start", "()J"⟩, Cond.sameMethod "CoverSheet$Measure" "CoverSheet$Measure" "start" "()J", Cond.selects RX0 ⟨"CoverSheet$Measure", "start", "()J"⟩ yX0_start, Cond.instanceMethod yX0_start, Cond.code yX0_start cX0_start 1 (some .long), Cond.selects RX5 ⟨"CoverSheet$Measure", "start", "()J"⟩ yX5_start, Cond.instanceMethod yX5_start, Cond.code yX5_start cX5_start 1 (some .long), Cond.methodLink RX1 52 yX1_goOn, Cond.instanceMethod yX1_goOn, Cond.selects RX1 yX1_goOn yX1_goOn, Cond.code yX1_goOn cX1_goOn 16 none, Cond.fieldLink RX1 15 "CoverSheet$DayTable" "nextValues" "[J", Cond.methodLink RX1 63 yX4_mayHave, Cond.instanceMethod yX4_mayHave, Cond.selects RX4 yX4_mayHave yX4_mayHave, Cond.initialized RX4, Cond.code yX4_mayHave cX4_mayHave 4 (some .boolean), Cond.fieldLink RX4 9 "CoverSheet$Person" "skills" "I", Cond.methodLink RX4 37 yX4_fixedAt, Cond.instanceMethod yX4_fixedAt, Cond.selects RX4 yX4_fixedAt yX4_fixedAt, Cond.code yX4_fixedAt cX4_fixedAt 2 (some .int), Cond.fieldLink RX4 34 "CoverSheet$Person" "fixed" "I"]
def wsX1_through_r3 : List Cond := [Cond.methodLink RX1 67 yX6_allow, Cond.instanceMethod yX6_allow, Cond.selects RX6 yX6_allow yX6_allow, Cond.initialized RX6, Cond.code yX6_allow cX6_allow 4 (some .boolean), Cond.fieldLink RX6 19 "CoverSheet$Rules" "longestRun" "I", Cond.fieldLink RX6 15 "CoverSheet$Rules" "forbidden" "I", Cond.methodLink RX6 9 yX6_pairOf, Cond.static yX6_pairOf, Cond.code yX6_pairOf cX6_pairOf 2 (some .int), Cond.methodLink RX1 73 ⟨"CoverSheet$Measure", "longer", "(JII)J"⟩, Cond.sameMethod "CoverSheet$Measure" "CoverSheet$Measure" "longer" "(JII)J", Cond.selects RX0 ⟨"CoverSheet$Measure", "longer", "(JII)J"⟩ yX0_longer, Cond.instanceMethod yX0_longer, Cond.code yX0_longer cX0_longer 5 (some .long), Cond.selects RX5 ⟨"CoverSheet$Measure", "longer", "(JII)J"⟩ yX5_longer, Cond.instanceMethod yX5_longer, Cond.code yX5_longer cX5_longer 6 (some .long), Cond.fieldLink RX5 15 "CoverSheet$Pricing" "prices" "[J", Cond.methodLink RX1 56 ⟨"CoverSheet$Measure", "joined", "(JJ)J"⟩, Cond.sameMethod "CoverSheet$Measure" "CoverSheet$Measure" "joined" "(JJ)J", Cond.selects RX0 ⟨"CoverSheet$Measure", "joined", "(JJ)J"⟩ yX0_joined, Cond.instanceMethod yX0_joined, Cond.code yX0_joined cX0_joined 5 (some .long)]
def wsX1_through_r4 : List Cond := [Cond.selects RX5 ⟨"CoverSheet$Measure", "joined", "(JJ)J"⟩ yX5_joined, Cond.instanceMethod yX5_joined, Cond.code yX5_joined cX5_joined 5 (some .long), Cond.methodLink RX5 45 Lib.MathLoose.min_long.x, Cond.static Lib.MathLoose.min_long.x, Cond.code Lib.MathLoose.min_long.x Lib.MathLoose.min_long.code 4 (some .long)]
def wsX1_through : List Cond := .code yX1_through cX1_through 12 (some .long) :: ((wsX1_through_r1 ++ (wsX1_through_r2 ++ (wsX1_through_r3 ++ wsX1_through_r4))) ++ wsX10 ++ wsX40 ++ wsX60 ++ wsX50)
def wsX3_init : List Cond := .code yX3_init cX3_init 1 none :: ([.methodLink RX3 3 objectInit, .instanceMethod objectInit, .code objectInit ⟨#[0xb1]⟩ 1 none, .arrayClass .int, .fieldLink RX3 9 "CoverSheet$Needs" "numbers" "[I"] ++ wsX30)
def wsX3_of : List Cond := .code yX3_of cX3_of 4 (some .int) :: ([.fieldLink RX3 9 "CoverSheet$Needs" "numbers" "[I"] ++ wsX30)
def wsX3_put : List Cond := .code yX3_put cX3_put 5 none :: ([.fieldLink RX3 9 "CoverSheet$Needs" "numbers" "[I"] ++ wsX30)
def wsX4_init : List Cond := .code yX4_init cX4_init 3 none :: ([.methodLink RX4 3 objectInit, .instanceMethod objectInit, .code objectInit ⟨#[0xb1]⟩ 1 none, .fieldLink RX4 9 "CoverSheet$Person" "skills" "I", .fieldLink RX4 15 "CoverSheet$Person" "most" "I"] ++ wsX40)
def wsX4_changeWish : List Cond := .code yX4_changeWish cX4_changeWish 4 (some .boolean) :: ([.fieldLink RX4 18 "CoverSheet$Person" "wishes" "I"] ++ wsX40)
def wsX4_breaksWish : List Cond := .code yX4_breaksWish cX4_breaksWish 3 (some .boolean) :: ([.fieldLink RX4 18 "CoverSheet$Person" "wishes" "I"] ++ wsX40)
def wsX7_placeOf : List Cond := .code yX7_placeOf cX7_placeOf 1 (some .int) :: ([])
def wsX7_at : List Cond := .code yX7_at cX7_at 2 (some .int) :: ([.methodLink RX7 9 yX7_placeOf, .static yX7_placeOf, .initialized RX7, .code yX7_placeOf cX7_placeOf 1 (some .int)])
def wsX4_brokenWishes : List Cond := .code yX4_brokenWishes cX4_brokenWishes 3 (some .int) :: ([.fieldLink RX4 21 "CoverSheet$Person" "week" "I", .methodLink RX4 24 yX7_at, .static yX7_at, .initialized RX7, .code yX7_at cX7_at 2 (some .int), .methodLink RX7 9 yX7_placeOf, .static yX7_placeOf, .code yX7_placeOf cX7_placeOf 1 (some .int), .methodLink RX4 30 yX4_breaksWish, .instanceMethod yX4_breaksWish, .selects RX4 yX4_breaksWish yX4_breaksWish, .initialized RX4, .code yX4_breaksWish cX4_breaksWish 3 (some .boolean), .fieldLink RX4 18 "CoverSheet$Person" "wishes" "I"] ++ wsX40)
def wsX4_changeFixed : List Cond := .code yX4_changeFixed cX4_changeFixed 4 none :: ([.fieldLink RX4 34 "CoverSheet$Person" "fixed" "I"] ++ wsX40)
def wsX7_shiftsFrom : List Cond := .code yX7_shiftsFrom cX7_shiftsFrom 4 (some .int) :: ([.methodLink RX7 15 yX7_at, .static yX7_at, .initialized RX7, .code yX7_at cX7_at 2 (some .int), .methodLink RX7 9 yX7_placeOf, .static yX7_placeOf, .code yX7_placeOf cX7_placeOf 1 (some .int)])
def wsX4_canHave_r1 : List Cond := [Cond.fieldLink RX4 41 "CoverSheet$Person" "lastEntry" "I", Cond.fieldLink RX4 44 "CoverSheet$Person" "daysInARow" "I", Cond.fieldLink RX4 15 "CoverSheet$Person" "most" "I", Cond.methodLink RX4 24 yX7_at, Cond.static yX7_at, Cond.initialized RX7, Cond.code yX7_at cX7_at 2 (some .int), Cond.methodLink RX7 9 yX7_placeOf, Cond.static yX7_placeOf, Cond.code yX7_placeOf cX7_placeOf 1 (some .int), Cond.methodLink RX4 47 yX4_mayHave, Cond.instanceMethod yX4_mayHave, Cond.selects RX4 yX4_mayHave yX4_mayHave, Cond.initialized RX4, Cond.code yX4_mayHave cX4_mayHave 4 (some .boolean), Cond.fieldLink RX4 9 "CoverSheet$Person" "skills" "I", Cond.methodLink RX4 37 yX4_fixedAt, Cond.instanceMethod yX4_fixedAt, Cond.selects RX4 yX4_fixedAt yX4_fixedAt, Cond.code yX4_fixedAt cX4_fixedAt 2 (some .int), Cond.fieldLink RX4 34 "CoverSheet$Person" "fixed" "I", Cond.methodLink RX4 50 yX6_allow, Cond.instanceMethod yX6_allow, Cond.selects RX6 yX6_allow yX6_allow]
def wsX4_canHave_r2 : List Cond := [Cond.initialized RX6, Cond.code yX6_allow cX6_allow 4 (some .boolean), Cond.fieldLink RX6 19 "CoverSheet$Rules" "longestRun" "I", Cond.fieldLink RX6 15 "CoverSheet$Rules" "forbidden" "I", Cond.methodLink RX6 9 yX6_pairOf, Cond.static yX6_pairOf, Cond.code yX6_pairOf cX6_pairOf 2 (some .int), Cond.methodLink RX4 56 yX7_shiftsFrom, Cond.static yX7_shiftsFrom, Cond.code yX7_shiftsFrom cX7_shiftsFrom 4 (some .int), Cond.methodLink RX7 15 yX7_at]
def wsX4_canHave : List Cond := .code yX4_canHave cX4_canHave 7 (some .boolean) :: ((wsX4_canHave_r1 ++ wsX4_canHave_r2) ++ wsX40 ++ wsX60)
def wsX4_noteWeek : List Cond := .code yX4_noteWeek cX4_noteWeek 2 none :: ([.fieldLink RX4 21 "CoverSheet$Person" "week" "I", .fieldLink RX4 44 "CoverSheet$Person" "daysInARow" "I", .fieldLink RX4 41 "CoverSheet$Person" "lastEntry" "I", .fieldLink RX4 59 "CoverSheet$Person" "weekendShifts" "I", .fieldLink RX4 18 "CoverSheet$Person" "wishes" "I", .fieldLink RX4 34 "CoverSheet$Person" "fixed" "I", .methodLink RX4 24 yX7_at, .static yX7_at, .initialized RX7, .code yX7_at cX7_at 2 (some .int), .methodLink RX7 9 yX7_placeOf, .static yX7_placeOf, .code yX7_placeOf cX7_placeOf 1 (some .int), .methodLink RX4 56 yX7_shiftsFrom, .static yX7_shiftsFrom, .code yX7_shiftsFrom cX7_shiftsFrom 4 (some .int), .methodLink RX7 15 yX7_at] ++ wsX40)
def wsX5_init : List Cond := .code yX5_init cX5_init 1 none :: ([.arrayClass .long, .fieldLink RX5 15 "CoverSheet$Pricing" "prices" "[J", .instanceMethod yX2_init, .initialized RX2, .code yX2_init cX2_init 1 none, .methodLink RX2 1 objectInit, .instanceMethod objectInit, .code objectInit ⟨#[0xb1]⟩ 1 none] ++ wsX50)
def wsX7_with : List Cond := .code yX7_with cX7_with 4 (some .int) :: ([.methodLink RX7 9 yX7_placeOf, .static yX7_placeOf, .initialized RX7, .code yX7_placeOf cX7_placeOf 1 (some .int)])
def wsX5_priceOf : List Cond := .code yX5_priceOf cX5_priceOf 6 (some .long) :: ([.constantLong RX5 23 (4503599627370496), .constantLong RX5 25 (562949953421312), .constantLong RX5 27 (131072), .constantLong RX5 39 (16384), .methodLink RX5 19 yX7_with, .static yX7_with, .initialized RX7, .code yX7_with cX7_with 4 (some .int), .methodLink RX7 9 yX7_placeOf, .static yX7_placeOf, .code yX7_placeOf cX7_placeOf 1 (some .int), .methodLink RX5 35 yX4_breaksWish, .instanceMethod yX4_breaksWish, .selects RX4 yX4_breaksWish yX4_breaksWish, .initialized RX4, .code yX4_breaksWish cX4_breaksWish 3 (some .boolean), .fieldLink RX4 18 "CoverSheet$Person" "wishes" "I"] ++ wsX40)
def wsX5_weekOf : List Cond := .code yX5_weekOf cX5_weekOf 2 (some .int) :: ([.constantLong RX5 41 (9223372036854775807), .constantLong RX5 43 (16383)])
def wsX5_put : List Cond := .code yX5_put cX5_put 6 none :: ([.fieldLink RX5 15 "CoverSheet$Pricing" "prices" "[J"] ++ wsX50)
def wsX6_init : List Cond := .code yX6_init cX6_init 1 none :: ([.methodLink RX6 3 objectInit, .instanceMethod objectInit, .code objectInit ⟨#[0xb1]⟩ 1 none, .fieldLink RX6 15 "CoverSheet$Rules" "forbidden" "I", .fieldLink RX6 19 "CoverSheet$Rules" "longestRun" "I", .methodLink RX6 9 yX6_pairOf, .static yX6_pairOf, .initialized RX6, .code yX6_pairOf cX6_pairOf 2 (some .int)] ++ wsX60)
def wsX6_changeFollowing : List Cond := .code yX6_changeFollowing cX6_changeFollowing 5 (some .boolean) :: ([.fieldLink RX6 15 "CoverSheet$Rules" "forbidden" "I", .methodLink RX6 9 yX6_pairOf, .static yX6_pairOf, .initialized RX6, .code yX6_pairOf cX6_pairOf 2 (some .int)] ++ wsX60)
def wsX8_init_r1 : List Cond := [Cond.methodLink RX8 3 objectInit, Cond.instanceMethod objectInit, Cond.code objectInit ⟨#[0xb1]⟩ 1 none, Cond.classLink RX8 9 RX4, Cond.fieldLink RX8 11 "CoverSheet" "team" "[LCoverSheet$Person;", Cond.classLink RX8 15 RX3, Cond.instantiable RX3 1, Cond.initialized RX3, Cond.fieldLink RX8 18 "CoverSheet" "needs" "LCoverSheet$Needs;", Cond.classLink RX8 22 RX6, Cond.instantiable RX6 2, Cond.initialized RX6, Cond.fieldLink RX8 25 "CoverSheet" "rules" "LCoverSheet$Rules;", Cond.classLink RX8 29 RX1, Cond.instantiable RX1 2, Cond.initialized RX1, Cond.fieldLink RX8 32 "CoverSheet" "table" "LCoverSheet$DayTable;", Cond.classLink RX8 36 RX0, Cond.instantiable RX0 0, Cond.initialized RX0, Cond.fieldLink RX8 39 "CoverSheet" "counting" "LCoverSheet$Counting;", Cond.classLink RX8 43 RX5, Cond.instantiable RX5 1, Cond.initialized RX5]
def wsX8_init_r2 : List Cond := [Cond.fieldLink RX8 46 "CoverSheet" "pricing" "LCoverSheet$Pricing;", Cond.instanceMethod yX3_init, Cond.code yX3_init cX3_init 1 none, Cond.methodLink RX3 3 objectInit, Cond.arrayClass .int, Cond.fieldLink RX3 9 "CoverSheet$Needs" "numbers" "[I", Cond.instanceMethod yX6_init, Cond.code yX6_init cX6_init 1 none, Cond.methodLink RX6 3 objectInit, Cond.fieldLink RX6 15 "CoverSheet$Rules" "forbidden" "I", Cond.fieldLink RX6 19 "CoverSheet$Rules" "longestRun" "I", Cond.methodLink RX6 9 yX6_pairOf, Cond.static yX6_pairOf, Cond.code yX6_pairOf cX6_pairOf 2 (some .int), Cond.instanceMethod yX1_init, Cond.code yX1_init cX1_init 1 none, Cond.methodLink RX1 5 objectInit, Cond.arrayClass .long, Cond.fieldLink RX1 11 "CoverSheet$DayTable" "values" "[J", Cond.fieldLink RX1 15 "CoverSheet$DayTable" "nextValues" "[J", Cond.instanceMethod yX0_init, Cond.code yX0_init cX0_init 1 none, Cond.instanceMethod yX2_init, Cond.initialized RX2]
def wsX8_init_r3 : List Cond := [Cond.code yX2_init cX2_init 1 none, Cond.methodLink RX2 1 objectInit, Cond.instanceMethod yX5_init, Cond.code yX5_init cX5_init 1 none, Cond.fieldLink RX5 15 "CoverSheet$Pricing" "prices" "[J"]
def wsX8_init : List Cond := .code yX8_init cX8_init 1 none :: ((wsX8_init_r1 ++ (wsX8_init_r2 ++ wsX8_init_r3)) ++ wsX80 ++ wsX30 ++ wsX60 ++ wsX10 ++ wsX00 ++ wsX50)
def wsX8_addPerson : List Cond := .code yX8_addPerson cX8_addPerson 3 (some .int) :: ([.classLink RX8 50 "java/lang/IllegalArgumentException", .initialized "java/lang/IllegalArgumentException", .classLink RX8 63 "java/lang/IllegalStateException", .initialized "java/lang/IllegalStateException", .fieldLink RX8 59 "CoverSheet" "teamSize" "I", .fieldLink RX8 11 "CoverSheet" "team" "[LCoverSheet$Person;", .classLink RX8 9 RX4, .instantiable RX4 8, .initialized RX4, .instanceMethod yX4_init, .code yX4_init cX4_init 3 none, .methodLink RX4 3 objectInit, .instanceMethod objectInit, .code objectInit ⟨#[0xb1]⟩ 1 none, .fieldLink RX4 9 "CoverSheet$Person" "skills" "I", .fieldLink RX4 15 "CoverSheet$Person" "most" "I"] ++ wsX80 ++ wsX40 ++ (vx_atS RX8 54 "java/lang/IllegalArgumentException" ["java/lang/RuntimeException", "java/lang/Exception"]).filter goodWord ++ (vx_atS RX8 67 "java/lang/IllegalStateException" ["java/lang/RuntimeException", "java/lang/Exception"]).filter goodWord)
def wsX8_isDay : List Cond := .code yX8_isDay cX8_isDay 1 (some .boolean) :: ([])
def wsX8_isKind : List Cond := .code yX8_isKind cX8_isKind 1 (some .boolean) :: ([])
def wsX8_setNeed : List Cond := .code yX8_setNeed cX8_setNeed 5 (some .int) :: ([.classLink RX8 78 "java/lang/IndexOutOfBoundsException", .initialized "java/lang/IndexOutOfBoundsException", .classLink RX8 50 "java/lang/IllegalArgumentException", .initialized "java/lang/IllegalArgumentException", .fieldLink RX8 18 "CoverSheet" "needs" "LCoverSheet$Needs;", .methodLink RX8 71 yX8_isDay, .static yX8_isDay, .initialized RX8, .code yX8_isDay cX8_isDay 1 (some .boolean), .methodLink RX8 75 yX8_isKind, .static yX8_isKind, .code yX8_isKind cX8_isKind 1 (some .boolean), .methodLink RX8 85 yX3_of, .instanceMethod yX3_of, .selects RX3 yX3_of yX3_of, .initialized RX3, .code yX3_of cX3_of 4 (some .int), .fieldLink RX3 9 "CoverSheet$Needs" "numbers" "[I", .methodLink RX8 89 yX3_put, .instanceMethod yX3_put, .selects RX3 yX3_put yX3_put, .code yX3_put cX3_put 5 none] ++ wsX80 ++ wsX30 ++ (vx_atS RX8 82 "java/lang/IndexOutOfBoundsException" ["java/lang/RuntimeException", "java/lang/Exception"]).filter goodWord ++ (vx_atS RX8 54 "java/lang/IllegalArgumentException" ["java/lang/RuntimeException", "java/lang/Exception"]).filter goodWord)
def wsX8_forbid : List Cond := .code yX8_forbid cX8_forbid 4 (some .boolean) :: ([.classLink RX8 78 "java/lang/IndexOutOfBoundsException", .initialized "java/lang/IndexOutOfBoundsException", .fieldLink RX8 25 "CoverSheet" "rules" "LCoverSheet$Rules;", .methodLink RX8 75 yX8_isKind, .static yX8_isKind, .initialized RX8, .code yX8_isKind cX8_isKind 1 (some .boolean), .methodLink RX8 95 yX6_changeFollowing, .instanceMethod yX6_changeFollowing, .selects RX6 yX6_changeFollowing yX6_changeFollowing, .initialized RX6, .code yX6_changeFollowing cX6_changeFollowing 5 (some .boolean), .fieldLink RX6 15 "CoverSheet$Rules" "forbidden" "I", .methodLink RX6 9 yX6_pairOf, .static yX6_pairOf, .code yX6_pairOf cX6_pairOf 2 (some .int)] ++ wsX80 ++ wsX60 ++ (vx_atS RX8 82 "java/lang/IndexOutOfBoundsException" ["java/lang/RuntimeException", "java/lang/Exception"]).filter goodWord)
def wsX8_setRun : List Cond := .code yX8_setRun cX8_setRun 3 (some .int) :: ([.classLink RX8 50 "java/lang/IllegalArgumentException", .initialized "java/lang/IllegalArgumentException", .fieldLink RX8 25 "CoverSheet" "rules" "LCoverSheet$Rules;"] ++ wsX80 ++ wsX60 ++ (vx_atS RX8 54 "java/lang/IllegalArgumentException" ["java/lang/RuntimeException", "java/lang/Exception"]).filter goodWord)
def wsX8_personAt : List Cond := .code yX8_personAt cX8_personAt 2 (some (.object "CoverSheet$Person")) :: ([.fieldLink RX8 11 "CoverSheet" "team" "[LCoverSheet$Person;"] ++ wsX80)
def wsX8_wish : List Cond := .code yX8_wish cX8_wish 5 (some .boolean) :: ([.classLink RX8 78 "java/lang/IndexOutOfBoundsException", .initialized "java/lang/IndexOutOfBoundsException", .methodLink RX8 104 yX8_personAt, .instanceMethod yX8_personAt, .selects RX8 yX8_personAt yX8_personAt, .initialized RX8, .code yX8_personAt cX8_personAt 2 (some (.object "CoverSheet$Person")), .fieldLink RX8 11 "CoverSheet" "team" "[LCoverSheet$Person;", .methodLink RX8 71 yX8_isDay, .static yX8_isDay, .code yX8_isDay cX8_isDay 1 (some .boolean), .methodLink RX8 110 yX4_changeWish, .instanceMethod yX4_changeWish, .selects RX4 yX4_changeWish yX4_changeWish, .initialized RX4, .code yX4_changeWish cX4_changeWish 4 (some .boolean), .fieldLink RX4 18 "CoverSheet$Person" "wishes" "I"] ++ wsX80 ++ wsX40 ++ (vx_atS RX8 82 "java/lang/IndexOutOfBoundsException" ["java/lang/RuntimeException", "java/lang/Exception"]).filter goodWord)
def wsX8_isEntry : List Cond := .code yX8_isEntry cX8_isEntry 1 (some .boolean) :: ([])
def wsX8_fix_r1 : List Cond := [Cond.classLink RX8 78 "java/lang/IndexOutOfBoundsException", Cond.initialized "java/lang/IndexOutOfBoundsException", Cond.classLink RX8 50 "java/lang/IllegalArgumentException", Cond.initialized "java/lang/IllegalArgumentException", Cond.methodLink RX8 104 yX8_personAt, Cond.instanceMethod yX8_personAt, Cond.selects RX8 yX8_personAt yX8_personAt, Cond.initialized RX8, Cond.code yX8_personAt cX8_personAt 2 (some (.object "CoverSheet$Person")), Cond.fieldLink RX8 11 "CoverSheet" "team" "[LCoverSheet$Person;", Cond.methodLink RX8 71 yX8_isDay, Cond.static yX8_isDay, Cond.code yX8_isDay cX8_isDay 1 (some .boolean), Cond.methodLink RX8 114 yX8_isEntry, Cond.static yX8_isEntry, Cond.code yX8_isEntry cX8_isEntry 1 (some .boolean), Cond.methodLink RX8 119 yX4_fixedAt, Cond.instanceMethod yX4_fixedAt, Cond.selects RX4 yX4_fixedAt yX4_fixedAt, Cond.initialized RX4, Cond.code yX4_fixedAt cX4_fixedAt 2 (some .int), Cond.fieldLink RX4 34 "CoverSheet$Person" "fixed" "I", Cond.methodLink RX8 123 yX4_changeFixed, Cond.instanceMethod yX4_changeFixed]
def wsX8_fix_r2 : List Cond := [Cond.selects RX4 yX4_changeFixed yX4_changeFixed, Cond.code yX4_changeFixed cX4_changeFixed 4 none]
def wsX8_fix : List Cond := .code yX8_fix cX8_fix 6 (some .int) :: ((wsX8_fix_r1 ++ wsX8_fix_r2) ++ wsX80 ++ wsX40 ++ (vx_atS RX8 82 "java/lang/IndexOutOfBoundsException" ["java/lang/RuntimeException", "java/lang/Exception"]).filter goodWord ++ (vx_atS RX8 54 "java/lang/IllegalArgumentException" ["java/lang/RuntimeException", "java/lang/Exception"]).filter goodWord)
def wsX8_gapWithout : List Cond := .code yX8_gapWithout cX8_gapWithout 9 (some .int) :: ([.fieldLink RX8 18 "CoverSheet" "needs" "LCoverSheet$Needs;", .fieldLink RX8 11 "CoverSheet" "team" "[LCoverSheet$Person;", .methodLink RX8 196 Lib.Math.max.name, .static Lib.Math.max.name, .initialized "java/lang/Math", .code Lib.Math.max.name Lib.Math.max.code 2 (some .int), .methodLink RX8 85 yX3_of, .instanceMethod yX3_of, .selects RX3 yX3_of yX3_of, .initialized RX3, .code yX3_of cX3_of 4 (some .int), .fieldLink RX3 9 "CoverSheet$Needs" "numbers" "[I", .methodLink RX8 154 yX7_at, .static yX7_at, .initialized RX7, .code yX7_at cX7_at 2 (some .int), .methodLink RX7 9 yX7_placeOf, .static yX7_placeOf, .code yX7_placeOf cX7_placeOf 1 (some .int)] ++ wsX80 ++ wsX40 ++ wsX30)
def wsX8_chosenWeek_r1 : List Cond := [Cond.fieldLink RX8 46 "CoverSheet" "pricing" "LCoverSheet$Pricing;", Cond.fieldLink RX8 32 "CoverSheet" "table" "LCoverSheet$DayTable;", Cond.fieldLink RX8 25 "CoverSheet" "rules" "LCoverSheet$Rules;", Cond.methodLink RX8 174 yX8_gapWithout, Cond.instanceMethod yX8_gapWithout, Cond.selects RX8 yX8_gapWithout yX8_gapWithout, Cond.initialized RX8, Cond.code yX8_gapWithout cX8_gapWithout 9 (some .int), Cond.fieldLink RX8 18 "CoverSheet" "needs" "LCoverSheet$Needs;", Cond.fieldLink RX8 11 "CoverSheet" "team" "[LCoverSheet$Person;", Cond.methodLink RX8 196 Lib.Math.max.name, Cond.static Lib.Math.max.name, Cond.initialized "java/lang/Math", Cond.code Lib.Math.max.name Lib.Math.max.code 2 (some .int), Cond.methodLink RX8 85 yX3_of, Cond.instanceMethod yX3_of, Cond.selects RX3 yX3_of yX3_of, Cond.initialized RX3, Cond.code yX3_of cX3_of 4 (some .int), Cond.fieldLink RX3 9 "CoverSheet$Needs" "numbers" "[I", Cond.methodLink RX8 154 yX7_at, Cond.static yX7_at, Cond.initialized RX7, Cond.code yX7_at cX7_at 2 (some .int)]
def wsX8_chosenWeek_r2 : List Cond := [Cond.methodLink RX7 9 yX7_placeOf, Cond.static yX7_placeOf, Cond.code yX7_placeOf cX7_placeOf 1 (some .int), Cond.methodLink RX8 211 yX5_priceOf, Cond.static yX5_priceOf, Cond.initialized RX5, Cond.code yX5_priceOf cX5_priceOf 6 (some .long), Cond.constantLong RX5 23 (4503599627370496), Cond.constantLong RX5 25 (562949953421312), Cond.constantLong RX5 27 (131072), Cond.constantLong RX5 39 (16384), Cond.methodLink RX5 19 yX7_with, Cond.static yX7_with, Cond.code yX7_with cX7_with 4 (some .int), Cond.methodLink RX5 35 yX4_breaksWish, Cond.instanceMethod yX4_breaksWish, Cond.selects RX4 yX4_breaksWish yX4_breaksWish, Cond.initialized RX4, Cond.code yX4_breaksWish cX4_breaksWish 3 (some .boolean), Cond.fieldLink RX4 18 "CoverSheet$Person" "wishes" "I", Cond.methodLink RX8 215 yX5_put, Cond.instanceMethod yX5_put, Cond.selects RX5 yX5_put yX5_put, Cond.code yX5_put cX5_put 6 none]
def wsX8_chosenWeek_r3 : List Cond := [Cond.fieldLink RX5 15 "CoverSheet$Pricing" "prices" "[J", Cond.methodLink RX8 189 yX1_through, Cond.instanceMethod yX1_through, Cond.selects RX1 yX1_through yX1_through, Cond.initialized RX1, Cond.code yX1_through cX1_through 12 (some .long), Cond.fieldLink RX1 11 "CoverSheet$DayTable" "values" "[J", Cond.methodLink RX1 36 Lib.Math.min.name, Cond.static Lib.Math.min.name, Cond.code Lib.Math.min.name Lib.Math.min.code 2 (some .int), Cond.methodLink RX1 18 ⟨"CoverSheet$Measure", "none", "()J"⟩, Cond.sameMethod "CoverSheet$Measure" "CoverSheet$Measure" "none" "()J", Cond.selects RX0 ⟨"CoverSheet$Measure", "none", "()J"⟩ yX0_none, Cond.instanceMethod yX0_none, Cond.initialized RX0, Cond.code yX0_none cX0_none 1 (some .long), Cond.selects RX5 ⟨"CoverSheet$Measure", "none", "()J"⟩ yX5_none, Cond.instanceMethod yX5_none, Cond.code yX5_none cX5_none 1 (some .long), Cond.constantLong RX5 41 (9223372036854775807), Cond.methodLink RX1 24 yJ7_fill_d0a16, Cond.static yJ7_fill_d0a16, Cond.initialized RJ7, Cond.code yJ7_fill_d0a16 cJ7_fill_d0a16 5 none]
def wsX8_chosenWeek_r4 : List Cond := [Cond.methodLink RX1 45 yX1_placeOf, Cond.static yX1_placeOf, Cond.code yX1_placeOf cX1_placeOf 3 (some .int), Cond.methodLink RX1 49 ⟨"CoverSheet$Measure", "start", "()J"⟩, Cond.sameMethod "CoverSheet$Measure" "CoverSheet$Measure" "start" "()J", Cond.selects RX0 ⟨"CoverSheet$Measure", "start", "()J"⟩ yX0_start, Cond.instanceMethod yX0_start, Cond.code yX0_start cX0_start 1 (some .long), Cond.selects RX5 ⟨"CoverSheet$Measure", "start", "()J"⟩ yX5_start, Cond.instanceMethod yX5_start, Cond.code yX5_start cX5_start 1 (some .long), Cond.methodLink RX1 52 yX1_goOn, Cond.instanceMethod yX1_goOn, Cond.selects RX1 yX1_goOn yX1_goOn, Cond.code yX1_goOn cX1_goOn 16 none, Cond.fieldLink RX1 15 "CoverSheet$DayTable" "nextValues" "[J", Cond.methodLink RX1 63 yX4_mayHave, Cond.instanceMethod yX4_mayHave, Cond.selects RX4 yX4_mayHave yX4_mayHave, Cond.code yX4_mayHave cX4_mayHave 4 (some .boolean), Cond.fieldLink RX4 9 "CoverSheet$Person" "skills" "I", Cond.methodLink RX4 37 yX4_fixedAt, Cond.instanceMethod yX4_fixedAt, Cond.selects RX4 yX4_fixedAt yX4_fixedAt]
def wsX8_chosenWeek_r5 : List Cond := [Cond.code yX4_fixedAt cX4_fixedAt 2 (some .int), Cond.fieldLink RX4 34 "CoverSheet$Person" "fixed" "I", Cond.methodLink RX1 67 yX6_allow, Cond.instanceMethod yX6_allow, Cond.selects RX6 yX6_allow yX6_allow, Cond.initialized RX6, Cond.code yX6_allow cX6_allow 4 (some .boolean), Cond.fieldLink RX6 19 "CoverSheet$Rules" "longestRun" "I", Cond.fieldLink RX6 15 "CoverSheet$Rules" "forbidden" "I", Cond.methodLink RX6 9 yX6_pairOf, Cond.static yX6_pairOf, Cond.code yX6_pairOf cX6_pairOf 2 (some .int), Cond.methodLink RX1 73 ⟨"CoverSheet$Measure", "longer", "(JII)J"⟩, Cond.sameMethod "CoverSheet$Measure" "CoverSheet$Measure" "longer" "(JII)J", Cond.selects RX0 ⟨"CoverSheet$Measure", "longer", "(JII)J"⟩ yX0_longer, Cond.instanceMethod yX0_longer, Cond.code yX0_longer cX0_longer 5 (some .long), Cond.selects RX5 ⟨"CoverSheet$Measure", "longer", "(JII)J"⟩ yX5_longer, Cond.instanceMethod yX5_longer, Cond.code yX5_longer cX5_longer 6 (some .long), Cond.methodLink RX1 56 ⟨"CoverSheet$Measure", "joined", "(JJ)J"⟩, Cond.sameMethod "CoverSheet$Measure" "CoverSheet$Measure" "joined" "(JJ)J", Cond.selects RX0 ⟨"CoverSheet$Measure", "joined", "(JJ)J"⟩ yX0_joined, Cond.instanceMethod yX0_joined]
def wsX8_chosenWeek_r6 : List Cond := [Cond.code yX0_joined cX0_joined 5 (some .long), Cond.selects RX5 ⟨"CoverSheet$Measure", "joined", "(JJ)J"⟩ yX5_joined, Cond.instanceMethod yX5_joined, Cond.code yX5_joined cX5_joined 5 (some .long), Cond.methodLink RX5 45 Lib.MathLoose.min_long.x, Cond.static Lib.MathLoose.min_long.x, Cond.code Lib.MathLoose.min_long.x Lib.MathLoose.min_long.code 4 (some .long), Cond.methodLink RX8 218 yX5_weekOf, Cond.static yX5_weekOf, Cond.code yX5_weekOf cX5_weekOf 2 (some .int), Cond.constantLong RX5 43 (16383)]
def wsX8_chosenWeek : List Cond := .code yX8_chosenWeek cX8_chosenWeek 5 (some .int) :: ((wsX8_chosenWeek_r1 ++ (wsX8_chosenWeek_r2 ++ (wsX8_chosenWeek_r3 ++ (wsX8_chosenWeek_r4 ++ (wsX8_chosenWeek_r5 ++ wsX8_chosenWeek_r6))))) ++ wsX80 ++ wsX40 ++ wsX30 ++ wsX50 ++ wsX10 ++ wsX60)
def wsX8_planRound_r1 : List Cond := [Cond.fieldLink RX8 11 "CoverSheet" "team" "[LCoverSheet$Person;", Cond.methodLink RX8 207 yX8_chosenWeek, Cond.instanceMethod yX8_chosenWeek, Cond.selects RX8 yX8_chosenWeek yX8_chosenWeek, Cond.initialized RX8, Cond.code yX8_chosenWeek cX8_chosenWeek 5 (some .int), Cond.fieldLink RX8 46 "CoverSheet" "pricing" "LCoverSheet$Pricing;", Cond.fieldLink RX8 32 "CoverSheet" "table" "LCoverSheet$DayTable;", Cond.fieldLink RX8 25 "CoverSheet" "rules" "LCoverSheet$Rules;", Cond.methodLink RX8 174 yX8_gapWithout, Cond.instanceMethod yX8_gapWithout, Cond.selects RX8 yX8_gapWithout yX8_gapWithout, Cond.code yX8_gapWithout cX8_gapWithout 9 (some .int), Cond.fieldLink RX8 18 "CoverSheet" "needs" "LCoverSheet$Needs;", Cond.methodLink RX8 196 Lib.Math.max.name, Cond.static Lib.Math.max.name, Cond.initialized "java/lang/Math", Cond.code Lib.Math.max.name Lib.Math.max.code 2 (some .int), Cond.methodLink RX8 85 yX3_of, Cond.instanceMethod yX3_of, Cond.selects RX3 yX3_of yX3_of, Cond.initialized RX3, Cond.code yX3_of cX3_of 4 (some .int), Cond.fieldLink RX3 9 "CoverSheet$Needs" "numbers" "[I"]
def wsX8_planRound_r2 : List Cond := [Cond.methodLink RX8 154 yX7_at, Cond.static yX7_at, Cond.initialized RX7, Cond.code yX7_at cX7_at 2 (some .int), Cond.methodLink RX7 9 yX7_placeOf, Cond.static yX7_placeOf, Cond.code yX7_placeOf cX7_placeOf 1 (some .int), Cond.methodLink RX8 211 yX5_priceOf, Cond.static yX5_priceOf, Cond.initialized RX5, Cond.code yX5_priceOf cX5_priceOf 6 (some .long), Cond.constantLong RX5 23 (4503599627370496), Cond.constantLong RX5 25 (562949953421312), Cond.constantLong RX5 27 (131072), Cond.constantLong RX5 39 (16384), Cond.methodLink RX5 19 yX7_with, Cond.static yX7_with, Cond.code yX7_with cX7_with 4 (some .int), Cond.methodLink RX5 35 yX4_breaksWish, Cond.instanceMethod yX4_breaksWish, Cond.selects RX4 yX4_breaksWish yX4_breaksWish, Cond.initialized RX4, Cond.code yX4_breaksWish cX4_breaksWish 3 (some .boolean), Cond.fieldLink RX4 18 "CoverSheet$Person" "wishes" "I"]
def wsX8_planRound_r3 : List Cond := [Cond.methodLink RX8 215 yX5_put, Cond.instanceMethod yX5_put, Cond.selects RX5 yX5_put yX5_put, Cond.code yX5_put cX5_put 6 none, Cond.fieldLink RX5 15 "CoverSheet$Pricing" "prices" "[J", Cond.methodLink RX8 189 yX1_through, Cond.instanceMethod yX1_through, Cond.selects RX1 yX1_through yX1_through, Cond.initialized RX1, Cond.code yX1_through cX1_through 12 (some .long), Cond.fieldLink RX1 11 "CoverSheet$DayTable" "values" "[J", Cond.methodLink RX1 36 Lib.Math.min.name, Cond.static Lib.Math.min.name, Cond.code Lib.Math.min.name Lib.Math.min.code 2 (some .int), Cond.methodLink RX1 18 ⟨"CoverSheet$Measure", "none", "()J"⟩, Cond.sameMethod "CoverSheet$Measure" "CoverSheet$Measure" "none" "()J", Cond.selects RX0 ⟨"CoverSheet$Measure", "none", "()J"⟩ yX0_none, Cond.instanceMethod yX0_none, Cond.initialized RX0, Cond.code yX0_none cX0_none 1 (some .long), Cond.selects RX5 ⟨"CoverSheet$Measure", "none", "()J"⟩ yX5_none, Cond.instanceMethod yX5_none, Cond.code yX5_none cX5_none 1 (some .long), Cond.constantLong RX5 41 (9223372036854775807)]
def wsX8_planRound_r4 : List Cond := [Cond.methodLink RX1 24 yJ7_fill_d0a16, Cond.static yJ7_fill_d0a16, Cond.initialized RJ7, Cond.code yJ7_fill_d0a16 cJ7_fill_d0a16 5 none, Cond.methodLink RX1 45 yX1_placeOf, Cond.static yX1_placeOf, Cond.code yX1_placeOf cX1_placeOf 3 (some .int), Cond.methodLink RX1 49 ⟨"CoverSheet$Measure", "start", "()J"⟩, Cond.sameMethod "CoverSheet$Measure" "CoverSheet$Measure" "start" "()J", Cond.selects RX0 ⟨"CoverSheet$Measure", "start", "()J"⟩ yX0_start, Cond.instanceMethod yX0_start, Cond.code yX0_start cX0_start 1 (some .long), Cond.selects RX5 ⟨"CoverSheet$Measure", "start", "()J"⟩ yX5_start, Cond.instanceMethod yX5_start, Cond.code yX5_start cX5_start 1 (some .long), Cond.methodLink RX1 52 yX1_goOn, Cond.instanceMethod yX1_goOn, Cond.selects RX1 yX1_goOn yX1_goOn, Cond.code yX1_goOn cX1_goOn 16 none, Cond.fieldLink RX1 15 "CoverSheet$DayTable" "nextValues" "[J", Cond.methodLink RX1 63 yX4_mayHave, Cond.instanceMethod yX4_mayHave, Cond.selects RX4 yX4_mayHave yX4_mayHave, Cond.code yX4_mayHave cX4_mayHave 4 (some .boolean)]
def wsX8_planRound_r5 : List Cond := [Cond.fieldLink RX4 9 "CoverSheet$Person" "skills" "I", Cond.methodLink RX4 37 yX4_fixedAt, Cond.instanceMethod yX4_fixedAt, Cond.selects RX4 yX4_fixedAt yX4_fixedAt, Cond.code yX4_fixedAt cX4_fixedAt 2 (some .int), Cond.fieldLink RX4 34 "CoverSheet$Person" "fixed" "I", Cond.methodLink RX1 67 yX6_allow, Cond.instanceMethod yX6_allow, Cond.selects RX6 yX6_allow yX6_allow, Cond.initialized RX6, Cond.code yX6_allow cX6_allow 4 (some .boolean), Cond.fieldLink RX6 19 "CoverSheet$Rules" "longestRun" "I", Cond.fieldLink RX6 15 "CoverSheet$Rules" "forbidden" "I", Cond.methodLink RX6 9 yX6_pairOf, Cond.static yX6_pairOf, Cond.code yX6_pairOf cX6_pairOf 2 (some .int), Cond.methodLink RX1 73 ⟨"CoverSheet$Measure", "longer", "(JII)J"⟩, Cond.sameMethod "CoverSheet$Measure" "CoverSheet$Measure" "longer" "(JII)J", Cond.selects RX0 ⟨"CoverSheet$Measure", "longer", "(JII)J"⟩ yX0_longer, Cond.instanceMethod yX0_longer, Cond.code yX0_longer cX0_longer 5 (some .long), Cond.selects RX5 ⟨"CoverSheet$Measure", "longer", "(JII)J"⟩ yX5_longer, Cond.instanceMethod yX5_longer, Cond.code yX5_longer cX5_longer 6 (some .long)]
def wsX8_planRound_r6 : List Cond := [Cond.methodLink RX1 56 ⟨"CoverSheet$Measure", "joined", "(JJ)J"⟩, Cond.sameMethod "CoverSheet$Measure" "CoverSheet$Measure" "joined" "(JJ)J", Cond.selects RX0 ⟨"CoverSheet$Measure", "joined", "(JJ)J"⟩ yX0_joined, Cond.instanceMethod yX0_joined, Cond.code yX0_joined cX0_joined 5 (some .long), Cond.selects RX5 ⟨"CoverSheet$Measure", "joined", "(JJ)J"⟩ yX5_joined, Cond.instanceMethod yX5_joined, Cond.code yX5_joined cX5_joined 5 (some .long), Cond.methodLink RX5 45 Lib.MathLoose.min_long.x, Cond.static Lib.MathLoose.min_long.x, Cond.code Lib.MathLoose.min_long.x Lib.MathLoose.min_long.code 4 (some .long), Cond.methodLink RX8 218 yX5_weekOf, Cond.static yX5_weekOf, Cond.code yX5_weekOf cX5_weekOf 2 (some .int), Cond.constantLong RX5 43 (16383)]
def wsX8_planRound : List Cond := .code yX8_planRound cX8_planRound 7 (some .boolean) :: ((wsX8_planRound_r1 ++ (wsX8_planRound_r2 ++ (wsX8_planRound_r3 ++ (wsX8_planRound_r4 ++ (wsX8_planRound_r5 ++ wsX8_planRound_r6))))) ++ wsX80 ++ wsX40 ++ wsX30 ++ wsX50 ++ wsX10 ++ wsX60)
def wsX8_allGaps : List Cond := .code yX8_allGaps cX8_allGaps 4 (some .int) :: ([.methodLink RX8 174 yX8_gapWithout, .instanceMethod yX8_gapWithout, .selects RX8 yX8_gapWithout yX8_gapWithout, .initialized RX8, .code yX8_gapWithout cX8_gapWithout 9 (some .int), .fieldLink RX8 18 "CoverSheet" "needs" "LCoverSheet$Needs;", .fieldLink RX8 11 "CoverSheet" "team" "[LCoverSheet$Person;", .methodLink RX8 196 Lib.Math.max.name, .static Lib.Math.max.name, .initialized "java/lang/Math", .code Lib.Math.max.name Lib.Math.max.code 2 (some .int), .methodLink RX8 85 yX3_of, .instanceMethod yX3_of, .selects RX3 yX3_of yX3_of, .initialized RX3, .code yX3_of cX3_of 4 (some .int), .fieldLink RX3 9 "CoverSheet$Needs" "numbers" "[I", .methodLink RX8 154 yX7_at, .static yX7_at, .initialized RX7, .code yX7_at cX7_at 2 (some .int), .methodLink RX7 9 yX7_placeOf, .static yX7_placeOf, .code yX7_placeOf cX7_placeOf 1 (some .int)] ++ wsX80 ++ wsX40 ++ wsX30)
def wsX8_plan_r1 : List Cond := [Cond.fieldLink RX8 11 "CoverSheet" "team" "[LCoverSheet$Person;", Cond.fieldLink RX8 135 "CoverSheet" "lastRounds" "I", Cond.methodLink RX8 131 yX8_planRound, Cond.instanceMethod yX8_planRound, Cond.selects RX8 yX8_planRound yX8_planRound, Cond.initialized RX8, Cond.code yX8_planRound cX8_planRound 7 (some .boolean), Cond.methodLink RX8 207 yX8_chosenWeek, Cond.instanceMethod yX8_chosenWeek, Cond.selects RX8 yX8_chosenWeek yX8_chosenWeek, Cond.code yX8_chosenWeek cX8_chosenWeek 5 (some .int), Cond.fieldLink RX8 46 "CoverSheet" "pricing" "LCoverSheet$Pricing;", Cond.fieldLink RX8 32 "CoverSheet" "table" "LCoverSheet$DayTable;", Cond.fieldLink RX8 25 "CoverSheet" "rules" "LCoverSheet$Rules;", Cond.methodLink RX8 174 yX8_gapWithout, Cond.instanceMethod yX8_gapWithout, Cond.selects RX8 yX8_gapWithout yX8_gapWithout, Cond.code yX8_gapWithout cX8_gapWithout 9 (some .int), Cond.fieldLink RX8 18 "CoverSheet" "needs" "LCoverSheet$Needs;", Cond.methodLink RX8 196 Lib.Math.max.name, Cond.static Lib.Math.max.name, Cond.initialized "java/lang/Math", Cond.code Lib.Math.max.name Lib.Math.max.code 2 (some .int), Cond.methodLink RX8 85 yX3_of]
def wsX8_plan_r2 : List Cond := [Cond.instanceMethod yX3_of, Cond.selects RX3 yX3_of yX3_of, Cond.initialized RX3, Cond.code yX3_of cX3_of 4 (some .int), Cond.fieldLink RX3 9 "CoverSheet$Needs" "numbers" "[I", Cond.methodLink RX8 154 yX7_at, Cond.static yX7_at, Cond.initialized RX7, Cond.code yX7_at cX7_at 2 (some .int), Cond.methodLink RX7 9 yX7_placeOf, Cond.static yX7_placeOf, Cond.code yX7_placeOf cX7_placeOf 1 (some .int), Cond.methodLink RX8 211 yX5_priceOf, Cond.static yX5_priceOf, Cond.initialized RX5, Cond.code yX5_priceOf cX5_priceOf 6 (some .long), Cond.constantLong RX5 23 (4503599627370496), Cond.constantLong RX5 25 (562949953421312), Cond.constantLong RX5 27 (131072), Cond.constantLong RX5 39 (16384), Cond.methodLink RX5 19 yX7_with, Cond.static yX7_with, Cond.code yX7_with cX7_with 4 (some .int), Cond.methodLink RX5 35 yX4_breaksWish]
def wsX8_plan_r3 : List Cond := [Cond.instanceMethod yX4_breaksWish, Cond.selects RX4 yX4_breaksWish yX4_breaksWish, Cond.initialized RX4, Cond.code yX4_breaksWish cX4_breaksWish 3 (some .boolean), Cond.fieldLink RX4 18 "CoverSheet$Person" "wishes" "I", Cond.methodLink RX8 215 yX5_put, Cond.instanceMethod yX5_put, Cond.selects RX5 yX5_put yX5_put, Cond.code yX5_put cX5_put 6 none, Cond.fieldLink RX5 15 "CoverSheet$Pricing" "prices" "[J", Cond.methodLink RX8 189 yX1_through, Cond.instanceMethod yX1_through, Cond.selects RX1 yX1_through yX1_through, Cond.initialized RX1, Cond.code yX1_through cX1_through 12 (some .long), Cond.fieldLink RX1 11 "CoverSheet$DayTable" "values" "[J", Cond.methodLink RX1 36 Lib.Math.min.name, Cond.static Lib.Math.min.name, Cond.code Lib.Math.min.name Lib.Math.min.code 2 (some .int), Cond.methodLink RX1 18 ⟨"CoverSheet$Measure", "none", "()J"⟩, Cond.sameMethod "CoverSheet$Measure" "CoverSheet$Measure" "none" "()J", Cond.selects RX0 ⟨"CoverSheet$Measure", "none", "()J"⟩ yX0_none, Cond.instanceMethod yX0_none, Cond.initialized RX0]
def wsX8_plan_r4 : List Cond := [Cond.code yX0_none cX0_none 1 (some .long), Cond.selects RX5 ⟨"CoverSheet$Measure", "none", "()J"⟩ yX5_none, Cond.instanceMethod yX5_none, Cond.code yX5_none cX5_none 1 (some .long), Cond.constantLong RX5 41 (9223372036854775807), Cond.methodLink RX1 24 yJ7_fill_d0a16, Cond.static yJ7_fill_d0a16, Cond.initialized RJ7, Cond.code yJ7_fill_d0a16 cJ7_fill_d0a16 5 none, Cond.methodLink RX1 45 yX1_placeOf, Cond.static yX1_placeOf, Cond.code yX1_placeOf cX1_placeOf 3 (some .int), Cond.methodLink RX1 49 ⟨"CoverSheet$Measure", "start", "()J"⟩, Cond.sameMethod "CoverSheet$Measure" "CoverSheet$Measure" "start" "()J", Cond.selects RX0 ⟨"CoverSheet$Measure", "start", "()J"⟩ yX0_start, Cond.instanceMethod yX0_start, Cond.code yX0_start cX0_start 1 (some .long), Cond.selects RX5 ⟨"CoverSheet$Measure", "start", "()J"⟩ yX5_start, Cond.instanceMethod yX5_start, Cond.code yX5_start cX5_start 1 (some .long), Cond.methodLink RX1 52 yX1_goOn, Cond.instanceMethod yX1_goOn, Cond.selects RX1 yX1_goOn yX1_goOn, Cond.code yX1_goOn cX1_goOn 16 none]
def wsX8_plan_r5 : List Cond := [Cond.fieldLink RX1 15 "CoverSheet$DayTable" "nextValues" "[J", Cond.methodLink RX1 63 yX4_mayHave, Cond.instanceMethod yX4_mayHave, Cond.selects RX4 yX4_mayHave yX4_mayHave, Cond.code yX4_mayHave cX4_mayHave 4 (some .boolean), Cond.fieldLink RX4 9 "CoverSheet$Person" "skills" "I", Cond.methodLink RX4 37 yX4_fixedAt, Cond.instanceMethod yX4_fixedAt, Cond.selects RX4 yX4_fixedAt yX4_fixedAt, Cond.code yX4_fixedAt cX4_fixedAt 2 (some .int), Cond.fieldLink RX4 34 "CoverSheet$Person" "fixed" "I", Cond.methodLink RX1 67 yX6_allow, Cond.instanceMethod yX6_allow, Cond.selects RX6 yX6_allow yX6_allow, Cond.initialized RX6, Cond.code yX6_allow cX6_allow 4 (some .boolean), Cond.fieldLink RX6 19 "CoverSheet$Rules" "longestRun" "I", Cond.fieldLink RX6 15 "CoverSheet$Rules" "forbidden" "I", Cond.methodLink RX6 9 yX6_pairOf, Cond.static yX6_pairOf, Cond.code yX6_pairOf cX6_pairOf 2 (some .int), Cond.methodLink RX1 73 ⟨"CoverSheet$Measure", "longer", "(JII)J"⟩, Cond.sameMethod "CoverSheet$Measure" "CoverSheet$Measure" "longer" "(JII)J", Cond.selects RX0 ⟨"CoverSheet$Measure", "longer", "(JII)J"⟩ yX0_longer]
def wsX8_plan_r6 : List Cond := [Cond.instanceMethod yX0_longer, Cond.code yX0_longer cX0_longer 5 (some .long), Cond.selects RX5 ⟨"CoverSheet$Measure", "longer", "(JII)J"⟩ yX5_longer, Cond.instanceMethod yX5_longer, Cond.code yX5_longer cX5_longer 6 (some .long), Cond.methodLink RX1 56 ⟨"CoverSheet$Measure", "joined", "(JJ)J"⟩, Cond.sameMethod "CoverSheet$Measure" "CoverSheet$Measure" "joined" "(JJ)J", Cond.selects RX0 ⟨"CoverSheet$Measure", "joined", "(JJ)J"⟩ yX0_joined, Cond.instanceMethod yX0_joined, Cond.code yX0_joined cX0_joined 5 (some .long), Cond.selects RX5 ⟨"CoverSheet$Measure", "joined", "(JJ)J"⟩ yX5_joined, Cond.instanceMethod yX5_joined, Cond.code yX5_joined cX5_joined 5 (some .long), Cond.methodLink RX5 45 Lib.MathLoose.min_long.x, Cond.static Lib.MathLoose.min_long.x, Cond.code Lib.MathLoose.min_long.x Lib.MathLoose.min_long.code 4 (some .long), Cond.methodLink RX8 218 yX5_weekOf, Cond.static yX5_weekOf, Cond.code yX5_weekOf cX5_weekOf 2 (some .int), Cond.constantLong RX5 43 (16383), Cond.methodLink RX8 138 yX8_allGaps, Cond.instanceMethod yX8_allGaps, Cond.selects RX8 yX8_allGaps yX8_allGaps, Cond.code yX8_allGaps cX8_allGaps 4 (some .int)]
def wsX8_plan : List Cond := .code yX8_plan cX8_plan 5 (some .int) :: ((wsX8_plan_r1 ++ (wsX8_plan_r2 ++ (wsX8_plan_r3 ++ (wsX8_plan_r4 ++ (wsX8_plan_r5 ++ wsX8_plan_r6))))) ++ wsX80 ++ wsX40 ++ wsX30 ++ wsX50 ++ wsX10 ++ wsX60)
def wsX8_rounds : List Cond := .code yX8_rounds cX8_rounds 1 (some .int) :: ([.fieldLink RX8 135 "CoverSheet" "lastRounds" "I"] ++ wsX80)
def wsX8_set_r1 : List Cond := [Cond.classLink RX8 78 "java/lang/IndexOutOfBoundsException", Cond.initialized "java/lang/IndexOutOfBoundsException", Cond.classLink RX8 50 "java/lang/IllegalArgumentException", Cond.initialized "java/lang/IllegalArgumentException", Cond.classLink RX8 63 "java/lang/IllegalStateException", Cond.initialized "java/lang/IllegalStateException", Cond.fieldLink RX8 25 "CoverSheet" "rules" "LCoverSheet$Rules;", Cond.methodLink RX8 104 yX8_personAt, Cond.instanceMethod yX8_personAt, Cond.selects RX8 yX8_personAt yX8_personAt, Cond.initialized RX8, Cond.code yX8_personAt cX8_personAt 2 (some (.object "CoverSheet$Person")), Cond.fieldLink RX8 11 "CoverSheet" "team" "[LCoverSheet$Person;", Cond.methodLink RX8 71 yX8_isDay, Cond.static yX8_isDay, Cond.code yX8_isDay cX8_isDay 1 (some .boolean), Cond.methodLink RX8 114 yX8_isEntry, Cond.static yX8_isEntry, Cond.code yX8_isEntry cX8_isEntry 1 (some .boolean), Cond.methodLink RX8 144 yX7_with, Cond.static yX7_with, Cond.initialized RX7, Cond.code yX7_with cX7_with 4 (some .int), Cond.methodLink RX7 9 yX7_placeOf]
def wsX8_set_r2 : List Cond := [Cond.static yX7_placeOf, Cond.code yX7_placeOf cX7_placeOf 1 (some .int), Cond.methodLink RX8 148 yX4_canHave, Cond.instanceMethod yX4_canHave, Cond.selects RX4 yX4_canHave yX4_canHave, Cond.initialized RX4, Cond.code yX4_canHave cX4_canHave 7 (some .boolean), Cond.fieldLink RX4 41 "CoverSheet$Person" "lastEntry" "I", Cond.fieldLink RX4 44 "CoverSheet$Person" "daysInARow" "I", Cond.fieldLink RX4 15 "CoverSheet$Person" "most" "I", Cond.methodLink RX4 24 yX7_at, Cond.static yX7_at, Cond.code yX7_at cX7_at 2 (some .int), Cond.methodLink RX4 47 yX4_mayHave, Cond.instanceMethod yX4_mayHave, Cond.selects RX4 yX4_mayHave yX4_mayHave, Cond.code yX4_mayHave cX4_mayHave 4 (some .boolean), Cond.fieldLink RX4 9 "CoverSheet$Person" "skills" "I", Cond.methodLink RX4 37 yX4_fixedAt, Cond.instanceMethod yX4_fixedAt, Cond.selects RX4 yX4_fixedAt yX4_fixedAt, Cond.code yX4_fixedAt cX4_fixedAt 2 (some .int), Cond.fieldLink RX4 34 "CoverSheet$Person" "fixed" "I", Cond.methodLink RX4 50 yX6_allow]
def wsX8_set_r3 : List Cond := [Cond.instanceMethod yX6_allow, Cond.selects RX6 yX6_allow yX6_allow, Cond.initialized RX6, Cond.code yX6_allow cX6_allow 4 (some .boolean), Cond.fieldLink RX6 19 "CoverSheet$Rules" "longestRun" "I", Cond.fieldLink RX6 15 "CoverSheet$Rules" "forbidden" "I", Cond.methodLink RX6 9 yX6_pairOf, Cond.static yX6_pairOf, Cond.code yX6_pairOf cX6_pairOf 2 (some .int), Cond.methodLink RX4 56 yX7_shiftsFrom, Cond.static yX7_shiftsFrom, Cond.code yX7_shiftsFrom cX7_shiftsFrom 4 (some .int), Cond.methodLink RX7 15 yX7_at, Cond.methodLink RX8 154 yX7_at]
def wsX8_set : List Cond := .code yX8_set cX8_set 7 (some .int) :: ((wsX8_set_r1 ++ (wsX8_set_r2 ++ wsX8_set_r3)) ++ wsX40 ++ wsX80 ++ wsX60 ++ (vx_atS RX8 82 "java/lang/IndexOutOfBoundsException" ["java/lang/RuntimeException", "java/lang/Exception"]).filter goodWord ++ (vx_atS RX8 54 "java/lang/IllegalArgumentException" ["java/lang/RuntimeException", "java/lang/Exception"]).filter goodWord ++ (vx_atS RX8 67 "java/lang/IllegalStateException" ["java/lang/RuntimeException", "java/lang/Exception"]).filter goodWord)
def wsX8_couldSwap_r1 : List Cond := [Cond.fieldLink RX8 25 "CoverSheet" "rules" "LCoverSheet$Rules;", Cond.methodLink RX8 154 yX7_at, Cond.static yX7_at, Cond.initialized RX7, Cond.code yX7_at cX7_at 2 (some .int), Cond.methodLink RX7 9 yX7_placeOf, Cond.static yX7_placeOf, Cond.code yX7_placeOf cX7_placeOf 1 (some .int), Cond.methodLink RX8 144 yX7_with, Cond.static yX7_with, Cond.code yX7_with cX7_with 4 (some .int), Cond.methodLink RX8 148 yX4_canHave, Cond.instanceMethod yX4_canHave, Cond.selects RX4 yX4_canHave yX4_canHave, Cond.initialized RX4, Cond.code yX4_canHave cX4_canHave 7 (some .boolean), Cond.fieldLink RX4 41 "CoverSheet$Person" "lastEntry" "I", Cond.fieldLink RX4 44 "CoverSheet$Person" "daysInARow" "I", Cond.fieldLink RX4 15 "CoverSheet$Person" "most" "I", Cond.methodLink RX4 24 yX7_at, Cond.methodLink RX4 47 yX4_mayHave, Cond.instanceMethod yX4_mayHave, Cond.selects RX4 yX4_mayHave yX4_mayHave, Cond.code yX4_mayHave cX4_mayHave 4 (some .boolean)]
def wsX8_couldSwap_r2 : List Cond := [Cond.fieldLink RX4 9 "CoverSheet$Person" "skills" "I", Cond.methodLink RX4 37 yX4_fixedAt, Cond.instanceMethod yX4_fixedAt, Cond.selects RX4 yX4_fixedAt yX4_fixedAt, Cond.code yX4_fixedAt cX4_fixedAt 2 (some .int), Cond.fieldLink RX4 34 "CoverSheet$Person" "fixed" "I", Cond.methodLink RX4 50 yX6_allow, Cond.instanceMethod yX6_allow, Cond.selects RX6 yX6_allow yX6_allow, Cond.initialized RX6, Cond.code yX6_allow cX6_allow 4 (some .boolean), Cond.fieldLink RX6 19 "CoverSheet$Rules" "longestRun" "I", Cond.fieldLink RX6 15 "CoverSheet$Rules" "forbidden" "I", Cond.methodLink RX6 9 yX6_pairOf, Cond.static yX6_pairOf, Cond.code yX6_pairOf cX6_pairOf 2 (some .int), Cond.methodLink RX4 56 yX7_shiftsFrom, Cond.static yX7_shiftsFrom, Cond.code yX7_shiftsFrom cX7_shiftsFrom 4 (some .int), Cond.methodLink RX7 15 yX7_at]
def wsX8_couldSwap : List Cond := .code yX8_couldSwap cX8_couldSwap 6 (some .boolean) :: ((wsX8_couldSwap_r1 ++ wsX8_couldSwap_r2) ++ wsX40 ++ wsX80 ++ wsX60)
def wsX8_swap_r1 : List Cond := [Cond.classLink RX8 78 "java/lang/IndexOutOfBoundsException", Cond.initialized "java/lang/IndexOutOfBoundsException", Cond.classLink RX8 63 "java/lang/IllegalStateException", Cond.initialized "java/lang/IllegalStateException", Cond.methodLink RX8 104 yX8_personAt, Cond.instanceMethod yX8_personAt, Cond.selects RX8 yX8_personAt yX8_personAt, Cond.initialized RX8, Cond.code yX8_personAt cX8_personAt 2 (some (.object "CoverSheet$Person")), Cond.fieldLink RX8 11 "CoverSheet" "team" "[LCoverSheet$Person;", Cond.methodLink RX8 71 yX8_isDay, Cond.static yX8_isDay, Cond.code yX8_isDay cX8_isDay 1 (some .boolean), Cond.methodLink RX8 159 yX8_couldSwap, Cond.instanceMethod yX8_couldSwap, Cond.selects RX8 yX8_couldSwap yX8_couldSwap, Cond.code yX8_couldSwap cX8_couldSwap 6 (some .boolean), Cond.fieldLink RX8 25 "CoverSheet" "rules" "LCoverSheet$Rules;", Cond.methodLink RX8 154 yX7_at, Cond.static yX7_at, Cond.initialized RX7, Cond.code yX7_at cX7_at 2 (some .int), Cond.methodLink RX7 9 yX7_placeOf, Cond.static yX7_placeOf]
def wsX8_swap_r2 : List Cond := [Cond.code yX7_placeOf cX7_placeOf 1 (some .int), Cond.methodLink RX8 144 yX7_with, Cond.static yX7_with, Cond.code yX7_with cX7_with 4 (some .int), Cond.methodLink RX8 148 yX4_canHave, Cond.instanceMethod yX4_canHave, Cond.selects RX4 yX4_canHave yX4_canHave, Cond.initialized RX4, Cond.code yX4_canHave cX4_canHave 7 (some .boolean), Cond.fieldLink RX4 41 "CoverSheet$Person" "lastEntry" "I", Cond.fieldLink RX4 44 "CoverSheet$Person" "daysInARow" "I", Cond.fieldLink RX4 15 "CoverSheet$Person" "most" "I", Cond.methodLink RX4 24 yX7_at, Cond.methodLink RX4 47 yX4_mayHave, Cond.instanceMethod yX4_mayHave, Cond.selects RX4 yX4_mayHave yX4_mayHave, Cond.code yX4_mayHave cX4_mayHave 4 (some .boolean), Cond.fieldLink RX4 9 "CoverSheet$Person" "skills" "I", Cond.methodLink RX4 37 yX4_fixedAt, Cond.instanceMethod yX4_fixedAt, Cond.selects RX4 yX4_fixedAt yX4_fixedAt, Cond.code yX4_fixedAt cX4_fixedAt 2 (some .int), Cond.fieldLink RX4 34 "CoverSheet$Person" "fixed" "I", Cond.methodLink RX4 50 yX6_allow]
def wsX8_swap_r3 : List Cond := [Cond.instanceMethod yX6_allow, Cond.selects RX6 yX6_allow yX6_allow, Cond.initialized RX6, Cond.code yX6_allow cX6_allow 4 (some .boolean), Cond.fieldLink RX6 19 "CoverSheet$Rules" "longestRun" "I", Cond.fieldLink RX6 15 "CoverSheet$Rules" "forbidden" "I", Cond.methodLink RX6 9 yX6_pairOf, Cond.static yX6_pairOf, Cond.code yX6_pairOf cX6_pairOf 2 (some .int), Cond.methodLink RX4 56 yX7_shiftsFrom, Cond.static yX7_shiftsFrom, Cond.code yX7_shiftsFrom cX7_shiftsFrom 4 (some .int), Cond.methodLink RX7 15 yX7_at, Cond.methodLink RX8 165 yX4_brokenWishes, Cond.instanceMethod yX4_brokenWishes, Cond.selects RX4 yX4_brokenWishes yX4_brokenWishes, Cond.code yX4_brokenWishes cX4_brokenWishes 3 (some .int), Cond.fieldLink RX4 21 "CoverSheet$Person" "week" "I", Cond.methodLink RX4 30 yX4_breaksWish, Cond.instanceMethod yX4_breaksWish, Cond.selects RX4 yX4_breaksWish yX4_breaksWish, Cond.code yX4_breaksWish cX4_breaksWish 3 (some .boolean), Cond.fieldLink RX4 18 "CoverSheet$Person" "wishes" "I"]
def wsX8_swap : List Cond := .code yX8_swap cX8_swap 7 (some .int) :: ((wsX8_swap_r1 ++ (wsX8_swap_r2 ++ wsX8_swap_r3)) ++ wsX40 ++ wsX80 ++ wsX60 ++ (vx_atS RX8 82 "java/lang/IndexOutOfBoundsException" ["java/lang/RuntimeException", "java/lang/Exception"]).filter goodWord ++ (vx_atS RX8 67 "java/lang/IllegalStateException" ["java/lang/RuntimeException", "java/lang/Exception"]).filter goodWord)
def wsX8_closeWeek : List Cond := .code yX8_closeWeek cX8_closeWeek 5 (some .int) :: ([.fieldLink RX8 11 "CoverSheet" "team" "[LCoverSheet$Person;", .fieldLink RX8 171 "CoverSheet" "closedWeeks" "I", .methodLink RX8 168 yX4_noteWeek, .instanceMethod yX4_noteWeek, .selects RX4 yX4_noteWeek yX4_noteWeek, .initialized RX4, .code yX4_noteWeek cX4_noteWeek 2 none, .fieldLink RX4 21 "CoverSheet$Person" "week" "I", .fieldLink RX4 44 "CoverSheet$Person" "daysInARow" "I", .fieldLink RX4 41 "CoverSheet$Person" "lastEntry" "I", .fieldLink RX4 59 "CoverSheet$Person" "weekendShifts" "I", .fieldLink RX4 18 "CoverSheet$Person" "wishes" "I", .fieldLink RX4 34 "CoverSheet$Person" "fixed" "I", .methodLink RX4 24 yX7_at, .static yX7_at, .initialized RX7, .code yX7_at cX7_at 2 (some .int), .methodLink RX7 9 yX7_placeOf, .static yX7_placeOf, .code yX7_placeOf cX7_placeOf 1 (some .int), .methodLink RX4 56 yX7_shiftsFrom, .static yX7_shiftsFrom, .code yX7_shiftsFrom cX7_shiftsFrom 4 (some .int), .methodLink RX7 15 yX7_at] ++ wsX80 ++ wsX40)
def wsX8_people : List Cond := .code yX8_people cX8_people 1 (some .int) :: ([.fieldLink RX8 59 "CoverSheet" "teamSize" "I"] ++ wsX80)
def wsX8_entry : List Cond := .code yX8_entry cX8_entry 4 (some .int) :: ([.classLink RX8 78 "java/lang/IndexOutOfBoundsException", .initialized "java/lang/IndexOutOfBoundsException", .methodLink RX8 104 yX8_personAt, .instanceMethod yX8_personAt, .selects RX8 yX8_personAt yX8_personAt, .initialized RX8, .code yX8_personAt cX8_personAt 2 (some (.object "CoverSheet$Person")), .fieldLink RX8 11 "CoverSheet" "team" "[LCoverSheet$Person;", .methodLink RX8 71 yX8_isDay, .static yX8_isDay, .code yX8_isDay cX8_isDay 1 (some .boolean), .methodLink RX8 154 yX7_at, .static yX7_at, .initialized RX7, .code yX7_at cX7_at 2 (some .int), .methodLink RX7 9 yX7_placeOf, .static yX7_placeOf, .code yX7_placeOf cX7_placeOf 1 (some .int)] ++ wsX40 ++ wsX80 ++ (vx_atS RX8 82 "java/lang/IndexOutOfBoundsException" ["java/lang/RuntimeException", "java/lang/Exception"]).filter goodWord)
def wsX8_gaps_r1 : List Cond := [Cond.methodLink RX8 138 yX8_allGaps, Cond.instanceMethod yX8_allGaps, Cond.selects RX8 yX8_allGaps yX8_allGaps, Cond.initialized RX8, Cond.code yX8_allGaps cX8_allGaps 4 (some .int), Cond.methodLink RX8 174 yX8_gapWithout, Cond.instanceMethod yX8_gapWithout, Cond.selects RX8 yX8_gapWithout yX8_gapWithout, Cond.code yX8_gapWithout cX8_gapWithout 9 (some .int), Cond.fieldLink RX8 18 "CoverSheet" "needs" "LCoverSheet$Needs;", Cond.fieldLink RX8 11 "CoverSheet" "team" "[LCoverSheet$Person;", Cond.methodLink RX8 196 Lib.Math.max.name, Cond.static Lib.Math.max.name, Cond.initialized "java/lang/Math", Cond.code Lib.Math.max.name Lib.Math.max.code 2 (some .int), Cond.methodLink RX8 85 yX3_of, Cond.instanceMethod yX3_of, Cond.selects RX3 yX3_of yX3_of, Cond.initialized RX3, Cond.code yX3_of cX3_of 4 (some .int), Cond.fieldLink RX3 9 "CoverSheet$Needs" "numbers" "[I", Cond.methodLink RX8 154 yX7_at, Cond.static yX7_at, Cond.initialized RX7]
def wsX8_gaps_r2 : List Cond := [Cond.code yX7_at cX7_at 2 (some .int), Cond.methodLink RX7 9 yX7_placeOf, Cond.static yX7_placeOf, Cond.code yX7_placeOf cX7_placeOf 1 (some .int)]
def wsX8_gaps : List Cond := .code yX8_gaps cX8_gaps 1 (some .int) :: ((wsX8_gaps_r1 ++ wsX8_gaps_r2) ++ wsX80 ++ wsX40 ++ wsX30)
def wsX8_gap_r1 : List Cond := [Cond.classLink RX8 78 "java/lang/IndexOutOfBoundsException", Cond.initialized "java/lang/IndexOutOfBoundsException", Cond.methodLink RX8 71 yX8_isDay, Cond.static yX8_isDay, Cond.initialized RX8, Cond.code yX8_isDay cX8_isDay 1 (some .boolean), Cond.methodLink RX8 75 yX8_isKind, Cond.static yX8_isKind, Cond.code yX8_isKind cX8_isKind 1 (some .boolean), Cond.methodLink RX8 174 yX8_gapWithout, Cond.instanceMethod yX8_gapWithout, Cond.selects RX8 yX8_gapWithout yX8_gapWithout, Cond.code yX8_gapWithout cX8_gapWithout 9 (some .int), Cond.fieldLink RX8 18 "CoverSheet" "needs" "LCoverSheet$Needs;", Cond.fieldLink RX8 11 "CoverSheet" "team" "[LCoverSheet$Person;", Cond.methodLink RX8 196 Lib.Math.max.name, Cond.static Lib.Math.max.name, Cond.initialized "java/lang/Math", Cond.code Lib.Math.max.name Lib.Math.max.code 2 (some .int), Cond.methodLink RX8 85 yX3_of, Cond.instanceMethod yX3_of, Cond.selects RX3 yX3_of yX3_of, Cond.initialized RX3, Cond.code yX3_of cX3_of 4 (some .int)]
def wsX8_gap_r2 : List Cond := [Cond.fieldLink RX3 9 "CoverSheet$Needs" "numbers" "[I", Cond.methodLink RX8 154 yX7_at, Cond.static yX7_at, Cond.initialized RX7, Cond.code yX7_at cX7_at 2 (some .int), Cond.methodLink RX7 9 yX7_placeOf, Cond.static yX7_placeOf, Cond.code yX7_placeOf cX7_placeOf 1 (some .int)]
def wsX8_gap : List Cond := .code yX8_gap cX8_gap 3 (some .int) :: ((wsX8_gap_r1 ++ wsX8_gap_r2) ++ wsX80 ++ wsX40 ++ wsX30 ++ (vx_atS RX8 82 "java/lang/IndexOutOfBoundsException" ["java/lang/RuntimeException", "java/lang/Exception"]).filter goodWord)
def wsX8_shifts : List Cond := .code yX8_shifts cX8_shifts 3 (some .int) :: ([.classLink RX8 78 "java/lang/IndexOutOfBoundsException", .initialized "java/lang/IndexOutOfBoundsException", .methodLink RX8 104 yX8_personAt, .instanceMethod yX8_personAt, .selects RX8 yX8_personAt yX8_personAt, .initialized RX8, .code yX8_personAt cX8_personAt 2 (some (.object "CoverSheet$Person")), .fieldLink RX8 11 "CoverSheet" "team" "[LCoverSheet$Person;", .methodLink RX8 180 yX7_shiftsFrom, .static yX7_shiftsFrom, .initialized RX7, .code yX7_shiftsFrom cX7_shiftsFrom 4 (some .int), .methodLink RX7 15 yX7_at, .static yX7_at, .code yX7_at cX7_at 2 (some .int), .methodLink RX7 9 yX7_placeOf, .static yX7_placeOf, .code yX7_placeOf cX7_placeOf 1 (some .int)] ++ wsX40 ++ wsX80 ++ (vx_atS RX8 82 "java/lang/IndexOutOfBoundsException" ["java/lang/RuntimeException", "java/lang/Exception"]).filter goodWord)
def wsX8_weekends : List Cond := .code yX8_weekends cX8_weekends 3 (some .int) :: ([.classLink RX8 78 "java/lang/IndexOutOfBoundsException", .initialized "java/lang/IndexOutOfBoundsException", .methodLink RX8 104 yX8_personAt, .instanceMethod yX8_personAt, .selects RX8 yX8_personAt yX8_personAt, .initialized RX8, .code yX8_personAt cX8_personAt 2 (some (.object "CoverSheet$Person")), .fieldLink RX8 11 "CoverSheet" "team" "[LCoverSheet$Person;"] ++ wsX40 ++ wsX80 ++ (vx_atS RX8 82 "java/lang/IndexOutOfBoundsException" ["java/lang/RuntimeException", "java/lang/Exception"]).filter goodWord)
def wsX8_broken_r1 : List Cond := [Cond.classLink RX8 78 "java/lang/IndexOutOfBoundsException", Cond.initialized "java/lang/IndexOutOfBoundsException", Cond.methodLink RX8 104 yX8_personAt, Cond.instanceMethod yX8_personAt, Cond.selects RX8 yX8_personAt yX8_personAt, Cond.initialized RX8, Cond.code yX8_personAt cX8_personAt 2 (some (.object "CoverSheet$Person")), Cond.fieldLink RX8 11 "CoverSheet" "team" "[LCoverSheet$Person;", Cond.methodLink RX8 165 yX4_brokenWishes, Cond.instanceMethod yX4_brokenWishes, Cond.selects RX4 yX4_brokenWishes yX4_brokenWishes, Cond.initialized RX4, Cond.code yX4_brokenWishes cX4_brokenWishes 3 (some .int), Cond.fieldLink RX4 21 "CoverSheet$Person" "week" "I", Cond.methodLink RX4 24 yX7_at, Cond.static yX7_at, Cond.initialized RX7, Cond.code yX7_at cX7_at 2 (some .int), Cond.methodLink RX7 9 yX7_placeOf, Cond.static yX7_placeOf, Cond.code yX7_placeOf cX7_placeOf 1 (some .int), Cond.methodLink RX4 30 yX4_breaksWish, Cond.instanceMethod yX4_breaksWish, Cond.selects RX4 yX4_breaksWish yX4_breaksWish]
def wsX8_broken_r2 : List Cond := [Cond.code yX4_breaksWish cX4_breaksWish 3 (some .boolean), Cond.fieldLink RX4 18 "CoverSheet$Person" "wishes" "I"]
def wsX8_broken : List Cond := .code yX8_broken cX8_broken 3 (some .int) :: ((wsX8_broken_r1 ++ wsX8_broken_r2) ++ wsX80 ++ wsX40 ++ (vx_atS RX8 82 "java/lang/IndexOutOfBoundsException" ["java/lang/RuntimeException", "java/lang/Exception"]).filter goodWord)
def wsX8_runBefore : List Cond := .code yX8_runBefore cX8_runBefore 3 (some .int) :: ([.classLink RX8 78 "java/lang/IndexOutOfBoundsException", .initialized "java/lang/IndexOutOfBoundsException", .methodLink RX8 104 yX8_personAt, .instanceMethod yX8_personAt, .selects RX8 yX8_personAt yX8_personAt, .initialized RX8, .code yX8_personAt cX8_personAt 2 (some (.object "CoverSheet$Person")), .fieldLink RX8 11 "CoverSheet" "team" "[LCoverSheet$Person;"] ++ wsX40 ++ wsX80 ++ (vx_atS RX8 82 "java/lang/IndexOutOfBoundsException" ["java/lang/RuntimeException", "java/lang/Exception"]).filter goodWord)
def wsX8_isFeasible_r1 : List Cond := [Cond.classLink RX8 78 "java/lang/IndexOutOfBoundsException", Cond.initialized "java/lang/IndexOutOfBoundsException", Cond.fieldLink RX8 25 "CoverSheet" "rules" "LCoverSheet$Rules;", Cond.methodLink RX8 104 yX8_personAt, Cond.instanceMethod yX8_personAt, Cond.selects RX8 yX8_personAt yX8_personAt, Cond.initialized RX8, Cond.code yX8_personAt cX8_personAt 2 (some (.object "CoverSheet$Person")), Cond.fieldLink RX8 11 "CoverSheet" "team" "[LCoverSheet$Person;", Cond.methodLink RX8 148 yX4_canHave, Cond.instanceMethod yX4_canHave, Cond.selects RX4 yX4_canHave yX4_canHave, Cond.initialized RX4, Cond.code yX4_canHave cX4_canHave 7 (some .boolean), Cond.fieldLink RX4 41 "CoverSheet$Person" "lastEntry" "I", Cond.fieldLink RX4 44 "CoverSheet$Person" "daysInARow" "I", Cond.fieldLink RX4 15 "CoverSheet$Person" "most" "I", Cond.methodLink RX4 24 yX7_at, Cond.static yX7_at, Cond.initialized RX7, Cond.code yX7_at cX7_at 2 (some .int), Cond.methodLink RX7 9 yX7_placeOf, Cond.static yX7_placeOf, Cond.code yX7_placeOf cX7_placeOf 1 (some .int)]
def wsX8_isFeasible_r2 : List Cond := [Cond.methodLink RX4 47 yX4_mayHave, Cond.instanceMethod yX4_mayHave, Cond.selects RX4 yX4_mayHave yX4_mayHave, Cond.code yX4_mayHave cX4_mayHave 4 (some .boolean), Cond.fieldLink RX4 9 "CoverSheet$Person" "skills" "I", Cond.methodLink RX4 37 yX4_fixedAt, Cond.instanceMethod yX4_fixedAt, Cond.selects RX4 yX4_fixedAt yX4_fixedAt, Cond.code yX4_fixedAt cX4_fixedAt 2 (some .int), Cond.fieldLink RX4 34 "CoverSheet$Person" "fixed" "I", Cond.methodLink RX4 50 yX6_allow, Cond.instanceMethod yX6_allow, Cond.selects RX6 yX6_allow yX6_allow, Cond.initialized RX6, Cond.code yX6_allow cX6_allow 4 (some .boolean), Cond.fieldLink RX6 19 "CoverSheet$Rules" "longestRun" "I", Cond.fieldLink RX6 15 "CoverSheet$Rules" "forbidden" "I", Cond.methodLink RX6 9 yX6_pairOf, Cond.static yX6_pairOf, Cond.code yX6_pairOf cX6_pairOf 2 (some .int), Cond.methodLink RX4 56 yX7_shiftsFrom, Cond.static yX7_shiftsFrom, Cond.code yX7_shiftsFrom cX7_shiftsFrom 4 (some .int), Cond.methodLink RX7 15 yX7_at]
def wsX8_isFeasible : List Cond := .code yX8_isFeasible cX8_isFeasible 3 (some .boolean) :: ((wsX8_isFeasible_r1 ++ wsX8_isFeasible_r2) ++ wsX40 ++ wsX80 ++ wsX60 ++ (vx_atS RX8 82 "java/lang/IndexOutOfBoundsException" ["java/lang/RuntimeException", "java/lang/Exception"]).filter goodWord)
def wsX8_weeks_r1 : List Cond := [Cond.classLink RX8 78 "java/lang/IndexOutOfBoundsException", Cond.initialized "java/lang/IndexOutOfBoundsException", Cond.fieldLink RX8 25 "CoverSheet" "rules" "LCoverSheet$Rules;", Cond.methodLink RX8 104 yX8_personAt, Cond.instanceMethod yX8_personAt, Cond.selects RX8 yX8_personAt yX8_personAt, Cond.initialized RX8, Cond.code yX8_personAt cX8_personAt 2 (some (.object "CoverSheet$Person")), Cond.fieldLink RX8 11 "CoverSheet" "team" "[LCoverSheet$Person;", Cond.methodLink RX8 148 yX4_canHave, Cond.instanceMethod yX4_canHave, Cond.selects RX4 yX4_canHave yX4_canHave, Cond.initialized RX4, Cond.code yX4_canHave cX4_canHave 7 (some .boolean), Cond.fieldLink RX4 41 "CoverSheet$Person" "lastEntry" "I", Cond.fieldLink RX4 44 "CoverSheet$Person" "daysInARow" "I", Cond.fieldLink RX4 15 "CoverSheet$Person" "most" "I", Cond.methodLink RX4 24 yX7_at, Cond.static yX7_at, Cond.initialized RX7, Cond.code yX7_at cX7_at 2 (some .int), Cond.methodLink RX7 9 yX7_placeOf, Cond.static yX7_placeOf, Cond.code yX7_placeOf cX7_placeOf 1 (some .int)]
def wsX8_weeks_r2 : List Cond := [Cond.methodLink RX4 47 yX4_mayHave, Cond.instanceMethod yX4_mayHave, Cond.selects RX4 yX4_mayHave yX4_mayHave, Cond.code yX4_mayHave cX4_mayHave 4 (some .boolean), Cond.fieldLink RX4 9 "CoverSheet$Person" "skills" "I", Cond.methodLink RX4 37 yX4_fixedAt, Cond.instanceMethod yX4_fixedAt, Cond.selects RX4 yX4_fixedAt yX4_fixedAt, Cond.code yX4_fixedAt cX4_fixedAt 2 (some .int), Cond.fieldLink RX4 34 "CoverSheet$Person" "fixed" "I", Cond.methodLink RX4 50 yX6_allow, Cond.instanceMethod yX6_allow, Cond.selects RX6 yX6_allow yX6_allow, Cond.initialized RX6, Cond.code yX6_allow cX6_allow 4 (some .boolean), Cond.fieldLink RX6 19 "CoverSheet$Rules" "longestRun" "I", Cond.fieldLink RX6 15 "CoverSheet$Rules" "forbidden" "I", Cond.methodLink RX6 9 yX6_pairOf, Cond.static yX6_pairOf, Cond.code yX6_pairOf cX6_pairOf 2 (some .int), Cond.methodLink RX4 56 yX7_shiftsFrom, Cond.static yX7_shiftsFrom, Cond.code yX7_shiftsFrom cX7_shiftsFrom 4 (some .int), Cond.methodLink RX7 15 yX7_at]
def wsX8_weeks : List Cond := .code yX8_weeks cX8_weeks 5 (some .int) :: ((wsX8_weeks_r1 ++ wsX8_weeks_r2) ++ wsX80 ++ wsX40 ++ wsX60 ++ (vx_atS RX8 82 "java/lang/IndexOutOfBoundsException" ["java/lang/RuntimeException", "java/lang/Exception"]).filter goodWord)
def wsX8_weeksByDays_r1 : List Cond := [Cond.classLink RX8 78 "java/lang/IndexOutOfBoundsException", Cond.initialized "java/lang/IndexOutOfBoundsException", Cond.fieldLink RX8 32 "CoverSheet" "table" "LCoverSheet$DayTable;", Cond.fieldLink RX8 25 "CoverSheet" "rules" "LCoverSheet$Rules;", Cond.fieldLink RX8 39 "CoverSheet" "counting" "LCoverSheet$Counting;", Cond.methodLink RX8 104 yX8_personAt, Cond.instanceMethod yX8_personAt, Cond.selects RX8 yX8_personAt yX8_personAt, Cond.initialized RX8, Cond.code yX8_personAt cX8_personAt 2 (some (.object "CoverSheet$Person")), Cond.fieldLink RX8 11 "CoverSheet" "team" "[LCoverSheet$Person;", Cond.methodLink RX8 189 yX1_through, Cond.instanceMethod yX1_through, Cond.selects RX1 yX1_through yX1_through, Cond.initialized RX1, Cond.code yX1_through cX1_through 12 (some .long), Cond.fieldLink RX1 11 "CoverSheet$DayTable" "values" "[J", Cond.methodLink RX1 36 Lib.Math.min.name, Cond.static Lib.Math.min.name, Cond.initialized "java/lang/Math", Cond.code Lib.Math.min.name Lib.Math.min.code 2 (some .int), Cond.methodLink RX1 18 ⟨"CoverSheet$Measure", "none", "()J"⟩, Cond.sameMethod "CoverSheet$Measure" "CoverSheet$Measure" "none" "()J", Cond.selects RX0 ⟨"CoverSheet$Measure", "none", "()J"⟩ yX0_none]
def wsX8_weeksByDays_r2 : List Cond := [Cond.instanceMethod yX0_none, Cond.initialized RX0, Cond.code yX0_none cX0_none 1 (some .long), Cond.selects RX5 ⟨"CoverSheet$Measure", "none", "()J"⟩ yX5_none, Cond.instanceMethod yX5_none, Cond.initialized RX5, Cond.code yX5_none cX5_none 1 (some .long), Cond.constantLong RX5 41 (9223372036854775807), Cond.methodLink RX1 24 yJ7_fill_d0a16, Cond.static yJ7_fill_d0a16, Cond.initialized RJ7, Cond.code yJ7_fill_d0a16 cJ7_fill_d0a16 5 none, Cond.methodLink RX1 45 yX1_placeOf, Cond.static yX1_placeOf, Cond.code yX1_placeOf cX1_placeOf 3 (some .int), Cond.methodLink RX1 49 ⟨"CoverSheet$Measure", "start", "()J"⟩, Cond.sameMethod "CoverSheet$Measure" "CoverSheet$Measure" "start" "()J", Cond.selects RX0 ⟨"CoverSheet$Measure", "start", "()J"⟩ yX0_start, Cond.instanceMethod yX0_start, Cond.code yX0_start cX0_start 1 (some .long), Cond.selects RX5 ⟨"CoverSheet$Measure", "start", "()J"⟩ yX5_start, Cond.instanceMethod yX5_start, Cond.code yX5_start cX5_start 1 (some .long), Cond.methodLink RX1 52 yX1_goOn]
def wsX8_weeksByDays_r3 : List Cond := [Cond.instanceMethod yX1_goOn, Cond.selects RX1 yX1_goOn yX1_goOn, Cond.code yX1_goOn cX1_goOn 16 none, Cond.fieldLink RX1 15 "CoverSheet$DayTable" "nextValues" "[J", Cond.methodLink RX1 63 yX4_mayHave, Cond.instanceMethod yX4_mayHave, Cond.selects RX4 yX4_mayHave yX4_mayHave, Cond.initialized RX4, Cond.code yX4_mayHave cX4_mayHave 4 (some .boolean), Cond.fieldLink RX4 9 "CoverSheet$Person" "skills" "I", Cond.methodLink RX4 37 yX4_fixedAt, Cond.instanceMethod yX4_fixedAt, Cond.selects RX4 yX4_fixedAt yX4_fixedAt, Cond.code yX4_fixedAt cX4_fixedAt 2 (some .int), Cond.fieldLink RX4 34 "CoverSheet$Person" "fixed" "I", Cond.methodLink RX1 67 yX6_allow, Cond.instanceMethod yX6_allow, Cond.selects RX6 yX6_allow yX6_allow, Cond.initialized RX6, Cond.code yX6_allow cX6_allow 4 (some .boolean), Cond.fieldLink RX6 19 "CoverSheet$Rules" "longestRun" "I", Cond.fieldLink RX6 15 "CoverSheet$Rules" "forbidden" "I", Cond.methodLink RX6 9 yX6_pairOf, Cond.static yX6_pairOf]
def wsX8_weeksByDays_r4 : List Cond := [Cond.code yX6_pairOf cX6_pairOf 2 (some .int), Cond.methodLink RX1 73 ⟨"CoverSheet$Measure", "longer", "(JII)J"⟩, Cond.sameMethod "CoverSheet$Measure" "CoverSheet$Measure" "longer" "(JII)J", Cond.selects RX0 ⟨"CoverSheet$Measure", "longer", "(JII)J"⟩ yX0_longer, Cond.instanceMethod yX0_longer, Cond.code yX0_longer cX0_longer 5 (some .long), Cond.selects RX5 ⟨"CoverSheet$Measure", "longer", "(JII)J"⟩ yX5_longer, Cond.instanceMethod yX5_longer, Cond.code yX5_longer cX5_longer 6 (some .long), Cond.fieldLink RX5 15 "CoverSheet$Pricing" "prices" "[J", Cond.methodLink RX1 56 ⟨"CoverSheet$Measure", "joined", "(JJ)J"⟩, Cond.sameMethod "CoverSheet$Measure" "CoverSheet$Measure" "joined" "(JJ)J", Cond.selects RX0 ⟨"CoverSheet$Measure", "joined", "(JJ)J"⟩ yX0_joined, Cond.instanceMethod yX0_joined, Cond.code yX0_joined cX0_joined 5 (some .long), Cond.selects RX5 ⟨"CoverSheet$Measure", "joined", "(JJ)J"⟩ yX5_joined, Cond.instanceMethod yX5_joined, Cond.code yX5_joined cX5_joined 5 (some .long), Cond.methodLink RX5 45 Lib.MathLoose.min_long.x, Cond.static Lib.MathLoose.min_long.x, Cond.code Lib.MathLoose.min_long.x Lib.MathLoose.min_long.code 4 (some .long)]
def wsX8_weeksByDays : List Cond := .code yX8_weeksByDays cX8_weeksByDays 3 (some .int) :: ((wsX8_weeksByDays_r1 ++ (wsX8_weeksByDays_r2 ++ (wsX8_weeksByDays_r3 ++ wsX8_weeksByDays_r4))) ++ wsX80 ++ wsX10 ++ wsX40 ++ wsX60 ++ wsX50 ++ (vx_atS RX8 82 "java/lang/IndexOutOfBoundsException" ["java/lang/RuntimeException", "java/lang/Exception"]).filter goodWord)
def wsX8_couldTake_r1 : List Cond := [Cond.classLink RX8 78 "java/lang/IndexOutOfBoundsException", Cond.initialized "java/lang/IndexOutOfBoundsException", Cond.fieldLink RX8 59 "CoverSheet" "teamSize" "I", Cond.fieldLink RX8 25 "CoverSheet" "rules" "LCoverSheet$Rules;", Cond.methodLink RX8 71 yX8_isDay, Cond.static yX8_isDay, Cond.initialized RX8, Cond.code yX8_isDay cX8_isDay 1 (some .boolean), Cond.methodLink RX8 75 yX8_isKind, Cond.static yX8_isKind, Cond.code yX8_isKind cX8_isKind 1 (some .boolean), Cond.methodLink RX8 104 yX8_personAt, Cond.instanceMethod yX8_personAt, Cond.selects RX8 yX8_personAt yX8_personAt, Cond.code yX8_personAt cX8_personAt 2 (some (.object "CoverSheet$Person")), Cond.fieldLink RX8 11 "CoverSheet" "team" "[LCoverSheet$Person;", Cond.methodLink RX8 154 yX7_at, Cond.static yX7_at, Cond.initialized RX7, Cond.code yX7_at cX7_at 2 (some .int), Cond.methodLink RX7 9 yX7_placeOf, Cond.static yX7_placeOf, Cond.code yX7_placeOf cX7_placeOf 1 (some .int), Cond.methodLink RX8 144 yX7_with]
def wsX8_couldTake_r2 : List Cond := [Cond.static yX7_with, Cond.code yX7_with cX7_with 4 (some .int), Cond.methodLink RX8 148 yX4_canHave, Cond.instanceMethod yX4_canHave, Cond.selects RX4 yX4_canHave yX4_canHave, Cond.initialized RX4, Cond.code yX4_canHave cX4_canHave 7 (some .boolean), Cond.fieldLink RX4 41 "CoverSheet$Person" "lastEntry" "I", Cond.fieldLink RX4 44 "CoverSheet$Person" "daysInARow" "I", Cond.fieldLink RX4 15 "CoverSheet$Person" "most" "I", Cond.methodLink RX4 24 yX7_at, Cond.methodLink RX4 47 yX4_mayHave, Cond.instanceMethod yX4_mayHave, Cond.selects RX4 yX4_mayHave yX4_mayHave, Cond.code yX4_mayHave cX4_mayHave 4 (some .boolean), Cond.fieldLink RX4 9 "CoverSheet$Person" "skills" "I", Cond.methodLink RX4 37 yX4_fixedAt, Cond.instanceMethod yX4_fixedAt, Cond.selects RX4 yX4_fixedAt yX4_fixedAt, Cond.code yX4_fixedAt cX4_fixedAt 2 (some .int), Cond.fieldLink RX4 34 "CoverSheet$Person" "fixed" "I", Cond.methodLink RX4 50 yX6_allow, Cond.instanceMethod yX6_allow, Cond.selects RX6 yX6_allow yX6_allow]
def wsX8_couldTake_r3 : List Cond := [Cond.initialized RX6, Cond.code yX6_allow cX6_allow 4 (some .boolean), Cond.fieldLink RX6 19 "CoverSheet$Rules" "longestRun" "I", Cond.fieldLink RX6 15 "CoverSheet$Rules" "forbidden" "I", Cond.methodLink RX6 9 yX6_pairOf, Cond.static yX6_pairOf, Cond.code yX6_pairOf cX6_pairOf 2 (some .int), Cond.methodLink RX4 56 yX7_shiftsFrom, Cond.static yX7_shiftsFrom, Cond.code yX7_shiftsFrom cX7_shiftsFrom 4 (some .int), Cond.methodLink RX7 15 yX7_at]
def wsX8_couldTake : List Cond := .code yX8_couldTake cX8_couldTake 6 (some .int) :: ((wsX8_couldTake_r1 ++ (wsX8_couldTake_r2 ++ wsX8_couldTake_r3)) ++ wsX80 ++ wsX40 ++ wsX60 ++ (vx_atS RX8 82 "java/lang/IndexOutOfBoundsException" ["java/lang/RuntimeException", "java/lang/Exception"]).filter goodWord)
def wsX8_swapFor_r1 : List Cond := [Cond.classLink RX8 78 "java/lang/IndexOutOfBoundsException", Cond.initialized "java/lang/IndexOutOfBoundsException", Cond.fieldLink RX8 59 "CoverSheet" "teamSize" "I", Cond.methodLink RX8 104 yX8_personAt, Cond.instanceMethod yX8_personAt, Cond.selects RX8 yX8_personAt yX8_personAt, Cond.initialized RX8, Cond.code yX8_personAt cX8_personAt 2 (some (.object "CoverSheet$Person")), Cond.fieldLink RX8 11 "CoverSheet" "team" "[LCoverSheet$Person;", Cond.methodLink RX8 71 yX8_isDay, Cond.static yX8_isDay, Cond.code yX8_isDay cX8_isDay 1 (some .boolean), Cond.methodLink RX8 154 yX7_at, Cond.static yX7_at, Cond.initialized RX7, Cond.code yX7_at cX7_at 2 (some .int), Cond.methodLink RX7 9 yX7_placeOf, Cond.static yX7_placeOf, Cond.code yX7_placeOf cX7_placeOf 1 (some .int), Cond.methodLink RX8 180 yX7_shiftsFrom, Cond.static yX7_shiftsFrom, Cond.code yX7_shiftsFrom cX7_shiftsFrom 4 (some .int), Cond.methodLink RX7 15 yX7_at, Cond.methodLink RX8 159 yX8_couldSwap]
def wsX8_swapFor_r2 : List Cond := [Cond.instanceMethod yX8_couldSwap, Cond.selects RX8 yX8_couldSwap yX8_couldSwap, Cond.code yX8_couldSwap cX8_couldSwap 6 (some .boolean), Cond.fieldLink RX8 25 "CoverSheet" "rules" "LCoverSheet$Rules;", Cond.methodLink RX8 144 yX7_with, Cond.static yX7_with, Cond.code yX7_with cX7_with 4 (some .int), Cond.methodLink RX8 148 yX4_canHave, Cond.instanceMethod yX4_canHave, Cond.selects RX4 yX4_canHave yX4_canHave, Cond.initialized RX4, Cond.code yX4_canHave cX4_canHave 7 (some .boolean), Cond.fieldLink RX4 41 "CoverSheet$Person" "lastEntry" "I", Cond.fieldLink RX4 44 "CoverSheet$Person" "daysInARow" "I", Cond.fieldLink RX4 15 "CoverSheet$Person" "most" "I", Cond.methodLink RX4 24 yX7_at, Cond.methodLink RX4 47 yX4_mayHave, Cond.instanceMethod yX4_mayHave, Cond.selects RX4 yX4_mayHave yX4_mayHave, Cond.code yX4_mayHave cX4_mayHave 4 (some .boolean), Cond.fieldLink RX4 9 "CoverSheet$Person" "skills" "I", Cond.methodLink RX4 37 yX4_fixedAt, Cond.instanceMethod yX4_fixedAt, Cond.selects RX4 yX4_fixedAt yX4_fixedAt]
def wsX8_swapFor_r3 : List Cond := [Cond.code yX4_fixedAt cX4_fixedAt 2 (some .int), Cond.fieldLink RX4 34 "CoverSheet$Person" "fixed" "I", Cond.methodLink RX4 50 yX6_allow, Cond.instanceMethod yX6_allow, Cond.selects RX6 yX6_allow yX6_allow, Cond.initialized RX6, Cond.code yX6_allow cX6_allow 4 (some .boolean), Cond.fieldLink RX6 19 "CoverSheet$Rules" "longestRun" "I", Cond.fieldLink RX6 15 "CoverSheet$Rules" "forbidden" "I", Cond.methodLink RX6 9 yX6_pairOf, Cond.static yX6_pairOf, Cond.code yX6_pairOf cX6_pairOf 2 (some .int), Cond.methodLink RX4 56 yX7_shiftsFrom]
def wsX8_swapFor : List Cond := .code yX8_swapFor cX8_swapFor 9 (some .int) :: ((wsX8_swapFor_r1 ++ (wsX8_swapFor_r2 ++ wsX8_swapFor_r3)) ++ wsX80 ++ wsX40 ++ wsX60 ++ (vx_atS RX8 82 "java/lang/IndexOutOfBoundsException" ["java/lang/RuntimeException", "java/lang/Exception"]).filter goodWord)
def wsX8_peopleWithOneOf : List Cond := .code yX8_peopleWithOneOf cX8_peopleWithOneOf 7 (some .int) :: ([.fieldLink RX8 11 "CoverSheet" "team" "[LCoverSheet$Person;"] ++ wsX80 ++ wsX40)
def wsX8_leastGapsOf : List Cond := .code yX8_leastGapsOf cX8_leastGapsOf 6 (some .int) :: ([.fieldLink RX8 18 "CoverSheet" "needs" "LCoverSheet$Needs;", .methodLink RX8 196 Lib.Math.max.name, .static Lib.Math.max.name, .initialized "java/lang/Math", .code Lib.Math.max.name Lib.Math.max.code 2 (some .int), .methodLink RX8 201 yX8_peopleWithOneOf, .instanceMethod yX8_peopleWithOneOf, .selects RX8 yX8_peopleWithOneOf yX8_peopleWithOneOf, .initialized RX8, .code yX8_peopleWithOneOf cX8_peopleWithOneOf 7 (some .int), .fieldLink RX8 11 "CoverSheet" "team" "[LCoverSheet$Person;", .methodLink RX8 85 yX3_of, .instanceMethod yX3_of, .selects RX3 yX3_of yX3_of, .initialized RX3, .code yX3_of cX3_of 4 (some .int), .fieldLink RX3 9 "CoverSheet$Needs" "numbers" "[I"] ++ wsX80 ++ wsX40 ++ wsX30)
def wsX8_bound : List Cond := .code yX8_bound cX8_bound 3 (some .int) :: ([.methodLink RX8 193 yX8_leastGapsOf, .instanceMethod yX8_leastGapsOf, .selects RX8 yX8_leastGapsOf yX8_leastGapsOf, .initialized RX8, .code yX8_leastGapsOf cX8_leastGapsOf 6 (some .int), .fieldLink RX8 18 "CoverSheet" "needs" "LCoverSheet$Needs;", .methodLink RX8 196 Lib.Math.max.name, .static Lib.Math.max.name, .initialized "java/lang/Math", .code Lib.Math.max.name Lib.Math.max.code 2 (some .int), .methodLink RX8 201 yX8_peopleWithOneOf, .instanceMethod yX8_peopleWithOneOf, .selects RX8 yX8_peopleWithOneOf yX8_peopleWithOneOf, .code yX8_peopleWithOneOf cX8_peopleWithOneOf 7 (some .int), .fieldLink RX8 11 "CoverSheet" "team" "[LCoverSheet$Person;", .methodLink RX8 85 yX3_of, .instanceMethod yX3_of, .selects RX3 yX3_of yX3_of, .initialized RX3, .code yX3_of cX3_of 4 (some .int), .fieldLink RX3 9 "CoverSheet$Needs" "numbers" "[I"] ++ wsX80 ++ wsX40 ++ wsX30)
def wsX9_init : List Cond := .code yX9_init cX9_init 1 none :: ([.methodLink RX9 1 objectInit, .instanceMethod objectInit, .code objectInit ⟨#[0xb1]⟩ 1 none, .fieldLink RX9 7 "CoverSheetModel" "run" "I", .arrayClass .int, .fieldLink RX9 13 "CoverSheetModel" "skills" "[I", .fieldLink RX9 17 "CoverSheetModel" "most" "[I", .fieldLink RX9 20 "CoverSheetModel" "need" "[I", .fieldLink RX9 23 "CoverSheetModel" "barred" "[I", .fieldLink RX9 26 "CoverSheetModel" "entries" "[I", .fieldLink RX9 29 "CoverSheetModel" "fixed" "[I", .fieldLink RX9 32 "CoverSheetModel" "wished" "[I", .fieldLink RX9 35 "CoverSheetModel" "last" "[I", .fieldLink RX9 38 "CoverSheetModel" "before" "[I", .fieldLink RX9 41 "CoverSheetModel" "ends" "[I"] ++ wsX90)
def wsX9_thrown : List Cond := .code yX9_thrown cX9_thrown 1 (some .int) :: ([.fieldLink RX9 44 "CoverSheetModel" "thrown" "I"] ++ wsX90)
def wsX9_fails : List Cond := .code yX9_fails cX9_fails 2 (some .int) :: ([.fieldLink RX9 44 "CoverSheetModel" "thrown" "I"] ++ wsX90)
def wsX9_in : List Cond := .code yX9_in cX9_in 3 (some .boolean) :: ([])
def wsX9_isPerson : List Cond := .code yX9_isPerson cX9_isPerson 2 (some .boolean) :: ([.fieldLink RX9 47 "CoverSheetModel" "many" "I", .methodLink RX9 50 yX9_in, .static yX9_in, .initialized RX9, .code yX9_in cX9_in 3 (some .boolean)] ++ wsX90)
def wsX9_isDay : List Cond := .code yX9_isDay cX9_isDay 1 (some .boolean) :: ([.methodLink RX9 50 yX9_in, .static yX9_in, .initialized RX9, .code yX9_in cX9_in 3 (some .boolean)])
def wsX9_isKind : List Cond := .code yX9_isKind cX9_isKind 1 (some .boolean) :: ([.methodLink RX9 50 yX9_in, .static yX9_in, .initialized RX9, .code yX9_in cX9_in 3 (some .boolean)])
def wsX9_isAsked : List Cond := .code yX9_isAsked cX9_isAsked 2 (some .boolean) :: ([.fieldLink RX9 44 "CoverSheetModel" "thrown" "I", .methodLink RX9 54 yX9_isPerson, .instanceMethod yX9_isPerson, .selects RX9 yX9_isPerson yX9_isPerson, .initialized RX9, .code yX9_isPerson cX9_isPerson 2 (some .boolean), .fieldLink RX9 47 "CoverSheetModel" "many" "I", .methodLink RX9 50 yX9_in, .static yX9_in, .code yX9_in cX9_in 3 (some .boolean)] ++ wsX90)
def wsX9_entryOf : List Cond := .code yX9_entryOf cX9_entryOf 2 (some .int) :: ([])
def wsX9_with : List Cond := .code yX9_with cX9_with 3 (some .int) :: ([.methodLink RX9 58 yX9_entryOf, .static yX9_entryOf, .initialized RX9, .code yX9_entryOf cX9_entryOf 2 (some .int)])
def wsX9_weekOf : List Cond := .code yX9_weekOf cX9_weekOf 4 (some .int) :: ([.fieldLink RX9 26 "CoverSheetModel" "entries" "[I"] ++ wsX90)
def wsX9_enter : List Cond := .code yX9_enter cX9_enter 4 none :: ([.fieldLink RX9 26 "CoverSheetModel" "entries" "[I", .methodLink RX9 58 yX9_entryOf, .static yX9_entryOf, .initialized RX9, .code yX9_entryOf cX9_entryOf 2 (some .int)] ++ wsX90)
def wsX9_countShifts : List Cond := .code yX9_countShifts cX9_countShifts 3 (some .int) :: ([.methodLink RX9 58 yX9_entryOf, .static yX9_entryOf, .initialized RX9, .code yX9_entryOf cX9_entryOf 2 (some .int)])
def wsX9_isPossible : List Cond := .code yX9_isPossible cX9_isPossible 9 (some .boolean) :: ([.fieldLink RX9 17 "CoverSheetModel" "most" "[I", .fieldLink RX9 35 "CoverSheetModel" "last" "[I", .fieldLink RX9 38 "CoverSheetModel" "before" "[I", .fieldLink RX9 29 "CoverSheetModel" "fixed" "[I", .fieldLink RX9 13 "CoverSheetModel" "skills" "[I", .fieldLink RX9 23 "CoverSheetModel" "barred" "[I", .fieldLink RX9 7 "CoverSheetModel" "run" "I", .methodLink RX9 62 yX9_countShifts, .static yX9_countShifts, .initialized RX9, .code yX9_countShifts cX9_countShifts 3 (some .int), .methodLink RX9 58 yX9_entryOf, .static yX9_entryOf, .code yX9_entryOf cX9_entryOf 2 (some .int)] ++ wsX90)
def wsX9_brokenBy : List Cond := .code yX9_brokenBy cX9_brokenBy 5 (some .int) :: ([.fieldLink RX9 32 "CoverSheetModel" "wished" "[I", .methodLink RX9 58 yX9_entryOf, .static yX9_entryOf, .initialized RX9, .code yX9_entryOf cX9_entryOf 2 (some .int)] ++ wsX90)
def wsX9_weekendOf : List Cond := .code yX9_weekendOf cX9_weekendOf 1 (some .int) :: ([.methodLink RX9 58 yX9_entryOf, .static yX9_entryOf, .initialized RX9, .code yX9_entryOf cX9_entryOf 2 (some .int)])
def wsX9_addPerson : List Cond := .code yX9_addPerson cX9_addPerson 4 (some .int) :: ([.fieldLink RX9 44 "CoverSheetModel" "thrown" "I", .fieldLink RX9 47 "CoverSheetModel" "many" "I", .fieldLink RX9 13 "CoverSheetModel" "skills" "[I", .fieldLink RX9 17 "CoverSheetModel" "most" "[I", .fieldLink RX9 29 "CoverSheetModel" "fixed" "[I", .methodLink RX9 50 yX9_in, .static yX9_in, .initialized RX9, .code yX9_in cX9_in 3 (some .boolean), .methodLink RX9 66 yX9_fails, .instanceMethod yX9_fails, .selects RX9 yX9_fails yX9_fails, .code yX9_fails cX9_fails 2 (some .int)] ++ wsX90)
def wsX9_setNeed : List Cond := .code yX9_setNeed cX9_setNeed 5 (some .int) :: ([.fieldLink RX9 44 "CoverSheetModel" "thrown" "I", .fieldLink RX9 20 "CoverSheetModel" "need" "[I", .methodLink RX9 69 yX9_isDay, .static yX9_isDay, .initialized RX9, .code yX9_isDay cX9_isDay 1 (some .boolean), .methodLink RX9 50 yX9_in, .static yX9_in, .code yX9_in cX9_in 3 (some .boolean), .methodLink RX9 72 yX9_isKind, .static yX9_isKind, .code yX9_isKind cX9_isKind 1 (some .boolean), .methodLink RX9 66 yX9_fails, .instanceMethod yX9_fails, .selects RX9 yX9_fails yX9_fails, .code yX9_fails cX9_fails 2 (some .int)] ++ wsX90)
def wsX9_forbid : List Cond := .code yX9_forbid cX9_forbid 6 (some .boolean) :: ([.fieldLink RX9 44 "CoverSheetModel" "thrown" "I", .fieldLink RX9 23 "CoverSheetModel" "barred" "[I", .methodLink RX9 72 yX9_isKind, .static yX9_isKind, .initialized RX9, .code yX9_isKind cX9_isKind 1 (some .boolean), .methodLink RX9 50 yX9_in, .static yX9_in, .code yX9_in cX9_in 3 (some .boolean)] ++ wsX90)
def wsX9_setRun : List Cond := .code yX9_setRun cX9_setRun 3 (some .int) :: ([.fieldLink RX9 44 "CoverSheetModel" "thrown" "I", .fieldLink RX9 7 "CoverSheetModel" "run" "I", .methodLink RX9 50 yX9_in, .static yX9_in, .initialized RX9, .code yX9_in cX9_in 3 (some .boolean), .methodLink RX9 66 yX9_fails, .instanceMethod yX9_fails, .selects RX9 yX9_fails yX9_fails, .code yX9_fails cX9_fails 2 (some .int)] ++ wsX90)
def wsX9_wish : List Cond := .code yX9_wish cX9_wish 5 (some .boolean) :: ([.fieldLink RX9 44 "CoverSheetModel" "thrown" "I", .fieldLink RX9 32 "CoverSheetModel" "wished" "[I", .methodLink RX9 54 yX9_isPerson, .instanceMethod yX9_isPerson, .selects RX9 yX9_isPerson yX9_isPerson, .initialized RX9, .code yX9_isPerson cX9_isPerson 2 (some .boolean), .fieldLink RX9 47 "CoverSheetModel" "many" "I", .methodLink RX9 50 yX9_in, .static yX9_in, .code yX9_in cX9_in 3 (some .boolean), .methodLink RX9 69 yX9_isDay, .static yX9_isDay, .code yX9_isDay cX9_isDay 1 (some .boolean)] ++ wsX90)
def wsX9_fix : List Cond := .code yX9_fix cX9_fix 5 (some .int) :: ([.fieldLink RX9 44 "CoverSheetModel" "thrown" "I", .fieldLink RX9 29 "CoverSheetModel" "fixed" "[I", .methodLink RX9 54 yX9_isPerson, .instanceMethod yX9_isPerson, .selects RX9 yX9_isPerson yX9_isPerson, .initialized RX9, .code yX9_isPerson cX9_isPerson 2 (some .boolean), .fieldLink RX9 47 "CoverSheetModel" "many" "I", .methodLink RX9 50 yX9_in, .static yX9_in, .code yX9_in cX9_in 3 (some .boolean), .methodLink RX9 69 yX9_isDay, .static yX9_isDay, .code yX9_isDay cX9_isDay 1 (some .boolean), .methodLink RX9 66 yX9_fails, .instanceMethod yX9_fails, .selects RX9 yX9_fails yX9_fails, .code yX9_fails cX9_fails 2 (some .int)] ++ wsX90)
def wsX9_countEntries : List Cond := .code yX9_countEntries cX9_countEntries 6 (some .int) :: ([.fieldLink RX9 47 "CoverSheetModel" "many" "I", .fieldLink RX9 26 "CoverSheetModel" "entries" "[I"] ++ wsX90)
def wsX9_gapOf : List Cond := .code yX9_gapOf cX9_gapOf 5 (some .int) :: ([.fieldLink RX9 20 "CoverSheetModel" "need" "[I", .methodLink RX9 75 yX9_countEntries, .instanceMethod yX9_countEntries, .selects RX9 yX9_countEntries yX9_countEntries, .initialized RX9, .code yX9_countEntries cX9_countEntries 6 (some .int), .fieldLink RX9 47 "CoverSheetModel" "many" "I", .fieldLink RX9 26 "CoverSheetModel" "entries" "[I"] ++ wsX90)
def wsX9_allGaps : List Cond := .code yX9_allGaps cX9_allGaps 4 (some .int) :: ([.methodLink RX9 79 yX9_gapOf, .instanceMethod yX9_gapOf, .selects RX9 yX9_gapOf yX9_gapOf, .initialized RX9, .code yX9_gapOf cX9_gapOf 5 (some .int), .fieldLink RX9 20 "CoverSheetModel" "need" "[I", .methodLink RX9 75 yX9_countEntries, .instanceMethod yX9_countEntries, .selects RX9 yX9_countEntries yX9_countEntries, .code yX9_countEntries cX9_countEntries 6 (some .int), .fieldLink RX9 47 "CoverSheetModel" "many" "I", .fieldLink RX9 26 "CoverSheetModel" "entries" "[I"] ++ wsX90)
def wsX9_fills : List Cond := .code yX9_fills cX9_fills 5 (some .int) :: ([.methodLink RX9 79 yX9_gapOf, .instanceMethod yX9_gapOf, .selects RX9 yX9_gapOf yX9_gapOf, .initialized RX9, .code yX9_gapOf cX9_gapOf 5 (some .int), .fieldLink RX9 20 "CoverSheetModel" "need" "[I", .methodLink RX9 75 yX9_countEntries, .instanceMethod yX9_countEntries, .selects RX9 yX9_countEntries yX9_countEntries, .code yX9_countEntries cX9_countEntries 6 (some .int), .fieldLink RX9 47 "CoverSheetModel" "many" "I", .fieldLink RX9 26 "CoverSheetModel" "entries" "[I"] ++ wsX90)
def wsX9_price : List Cond := .code yX9_price cX9_price 7 (some .int) :: ([.fieldLink RX9 41 "CoverSheetModel" "ends" "[I", .constant RX9 85 (100000), .methodLink RX9 58 yX9_entryOf, .static yX9_entryOf, .initialized RX9, .code yX9_entryOf cX9_entryOf 2 (some .int), .methodLink RX9 82 yX9_weekendOf, .static yX9_weekendOf, .code yX9_weekendOf cX9_weekendOf 1 (some .int), .methodLink RX9 62 yX9_countShifts, .static yX9_countShifts, .code yX9_countShifts cX9_countShifts 3 (some .int), .methodLink RX9 86 yX9_brokenBy, .instanceMethod yX9_brokenBy, .selects RX9 yX9_brokenBy yX9_brokenBy, .code yX9_brokenBy cX9_brokenBy 5 (some .int), .fieldLink RX9 32 "CoverSheetModel" "wished" "[I"] ++ wsX90)
def wsX9_choice_r1 : List Cond := [Cond.methodLink RX9 89 yX9_fills, Cond.instanceMethod yX9_fills, Cond.selects RX9 yX9_fills yX9_fills, Cond.initialized RX9, Cond.code yX9_fills cX9_fills 5 (some .int), Cond.methodLink RX9 79 yX9_gapOf, Cond.instanceMethod yX9_gapOf, Cond.selects RX9 yX9_gapOf yX9_gapOf, Cond.code yX9_gapOf cX9_gapOf 5 (some .int), Cond.fieldLink RX9 20 "CoverSheetModel" "need" "[I", Cond.methodLink RX9 75 yX9_countEntries, Cond.instanceMethod yX9_countEntries, Cond.selects RX9 yX9_countEntries yX9_countEntries, Cond.code yX9_countEntries cX9_countEntries 6 (some .int), Cond.fieldLink RX9 47 "CoverSheetModel" "many" "I", Cond.fieldLink RX9 26 "CoverSheetModel" "entries" "[I", Cond.methodLink RX9 92 yX9_isPossible, Cond.instanceMethod yX9_isPossible, Cond.selects RX9 yX9_isPossible yX9_isPossible, Cond.code yX9_isPossible cX9_isPossible 9 (some .boolean), Cond.fieldLink RX9 17 "CoverSheetModel" "most" "[I", Cond.fieldLink RX9 35 "CoverSheetModel" "last" "[I", Cond.fieldLink RX9 38 "CoverSheetModel" "before" "[I", Cond.fieldLink RX9 29 "CoverSheetModel" "fixed" "[I"]
def wsX9_choice_r2 : List Cond := [Cond.fieldLink RX9 13 "CoverSheetModel" "skills" "[I", Cond.fieldLink RX9 23 "CoverSheetModel" "barred" "[I", Cond.fieldLink RX9 7 "CoverSheetModel" "run" "I", Cond.methodLink RX9 62 yX9_countShifts, Cond.static yX9_countShifts, Cond.code yX9_countShifts cX9_countShifts 3 (some .int), Cond.methodLink RX9 58 yX9_entryOf, Cond.static yX9_entryOf, Cond.code yX9_entryOf cX9_entryOf 2 (some .int), Cond.methodLink RX9 96 yX9_price, Cond.instanceMethod yX9_price, Cond.selects RX9 yX9_price yX9_price, Cond.code yX9_price cX9_price 7 (some .int), Cond.fieldLink RX9 41 "CoverSheetModel" "ends" "[I", Cond.constant RX9 85 (100000), Cond.methodLink RX9 82 yX9_weekendOf, Cond.static yX9_weekendOf, Cond.code yX9_weekendOf cX9_weekendOf 1 (some .int), Cond.methodLink RX9 86 yX9_brokenBy, Cond.instanceMethod yX9_brokenBy, Cond.selects RX9 yX9_brokenBy yX9_brokenBy, Cond.code yX9_brokenBy cX9_brokenBy 5 (some .int), Cond.fieldLink RX9 32 "CoverSheetModel" "wished" "[I"]
def wsX9_choice : List Cond := .code yX9_choice cX9_choice 7 (some .int) :: ((wsX9_choice_r1 ++ wsX9_choice_r2) ++ wsX90)
def wsX9_plan_r1 : List Cond := [Cond.fieldLink RX9 44 "CoverSheetModel" "thrown" "I", Cond.fieldLink RX9 26 "CoverSheetModel" "entries" "[I", Cond.fieldLink RX9 99 "CoverSheetModel" "rounds" "I", Cond.fieldLink RX9 47 "CoverSheetModel" "many" "I", Cond.methodLink RX9 102 yX9_choice, Cond.instanceMethod yX9_choice, Cond.selects RX9 yX9_choice yX9_choice, Cond.initialized RX9, Cond.code yX9_choice cX9_choice 7 (some .int), Cond.methodLink RX9 89 yX9_fills, Cond.instanceMethod yX9_fills, Cond.selects RX9 yX9_fills yX9_fills, Cond.code yX9_fills cX9_fills 5 (some .int), Cond.methodLink RX9 79 yX9_gapOf, Cond.instanceMethod yX9_gapOf, Cond.selects RX9 yX9_gapOf yX9_gapOf, Cond.code yX9_gapOf cX9_gapOf 5 (some .int), Cond.fieldLink RX9 20 "CoverSheetModel" "need" "[I", Cond.methodLink RX9 75 yX9_countEntries, Cond.instanceMethod yX9_countEntries, Cond.selects RX9 yX9_countEntries yX9_countEntries, Cond.code yX9_countEntries cX9_countEntries 6 (some .int), Cond.methodLink RX9 92 yX9_isPossible, Cond.instanceMethod yX9_isPossible]
def wsX9_plan_r2 : List Cond := [Cond.selects RX9 yX9_isPossible yX9_isPossible, Cond.code yX9_isPossible cX9_isPossible 9 (some .boolean), Cond.fieldLink RX9 17 "CoverSheetModel" "most" "[I", Cond.fieldLink RX9 35 "CoverSheetModel" "last" "[I", Cond.fieldLink RX9 38 "CoverSheetModel" "before" "[I", Cond.fieldLink RX9 29 "CoverSheetModel" "fixed" "[I", Cond.fieldLink RX9 13 "CoverSheetModel" "skills" "[I", Cond.fieldLink RX9 23 "CoverSheetModel" "barred" "[I", Cond.fieldLink RX9 7 "CoverSheetModel" "run" "I", Cond.methodLink RX9 62 yX9_countShifts, Cond.static yX9_countShifts, Cond.code yX9_countShifts cX9_countShifts 3 (some .int), Cond.methodLink RX9 58 yX9_entryOf, Cond.static yX9_entryOf, Cond.code yX9_entryOf cX9_entryOf 2 (some .int), Cond.methodLink RX9 96 yX9_price, Cond.instanceMethod yX9_price, Cond.selects RX9 yX9_price yX9_price, Cond.code yX9_price cX9_price 7 (some .int), Cond.fieldLink RX9 41 "CoverSheetModel" "ends" "[I", Cond.constant RX9 85 (100000), Cond.methodLink RX9 82 yX9_weekendOf, Cond.static yX9_weekendOf, Cond.code yX9_weekendOf cX9_weekendOf 1 (some .int)]
def wsX9_plan_r3 : List Cond := [Cond.methodLink RX9 86 yX9_brokenBy, Cond.instanceMethod yX9_brokenBy, Cond.selects RX9 yX9_brokenBy yX9_brokenBy, Cond.code yX9_brokenBy cX9_brokenBy 5 (some .int), Cond.fieldLink RX9 32 "CoverSheetModel" "wished" "[I", Cond.methodLink RX9 105 yX9_weekOf, Cond.instanceMethod yX9_weekOf, Cond.selects RX9 yX9_weekOf yX9_weekOf, Cond.code yX9_weekOf cX9_weekOf 4 (some .int), Cond.methodLink RX9 108 yX9_enter, Cond.instanceMethod yX9_enter, Cond.selects RX9 yX9_enter yX9_enter, Cond.code yX9_enter cX9_enter 4 none, Cond.methodLink RX9 112 yX9_allGaps, Cond.instanceMethod yX9_allGaps, Cond.selects RX9 yX9_allGaps yX9_allGaps, Cond.code yX9_allGaps cX9_allGaps 4 (some .int)]
def wsX9_plan : List Cond := .code yX9_plan cX9_plan 4 (some .int) :: ((wsX9_plan_r1 ++ (wsX9_plan_r2 ++ wsX9_plan_r3)) ++ wsX90)
def wsX9_rounds : List Cond := .code yX9_rounds cX9_rounds 1 (some .int) :: ([.fieldLink RX9 44 "CoverSheetModel" "thrown" "I", .fieldLink RX9 99 "CoverSheetModel" "rounds" "I"] ++ wsX90)
def wsX9_set_r1 : List Cond := [Cond.fieldLink RX9 44 "CoverSheetModel" "thrown" "I", Cond.fieldLink RX9 26 "CoverSheetModel" "entries" "[I", Cond.methodLink RX9 54 yX9_isPerson, Cond.instanceMethod yX9_isPerson, Cond.selects RX9 yX9_isPerson yX9_isPerson, Cond.initialized RX9, Cond.code yX9_isPerson cX9_isPerson 2 (some .boolean), Cond.fieldLink RX9 47 "CoverSheetModel" "many" "I", Cond.methodLink RX9 50 yX9_in, Cond.static yX9_in, Cond.code yX9_in cX9_in 3 (some .boolean), Cond.methodLink RX9 69 yX9_isDay, Cond.static yX9_isDay, Cond.code yX9_isDay cX9_isDay 1 (some .boolean), Cond.methodLink RX9 66 yX9_fails, Cond.instanceMethod yX9_fails, Cond.selects RX9 yX9_fails yX9_fails, Cond.code yX9_fails cX9_fails 2 (some .int), Cond.methodLink RX9 105 yX9_weekOf, Cond.instanceMethod yX9_weekOf, Cond.selects RX9 yX9_weekOf yX9_weekOf, Cond.code yX9_weekOf cX9_weekOf 4 (some .int), Cond.methodLink RX9 116 yX9_with, Cond.static yX9_with]
def wsX9_set_r2 : List Cond := [Cond.code yX9_with cX9_with 3 (some .int), Cond.methodLink RX9 58 yX9_entryOf, Cond.static yX9_entryOf, Cond.code yX9_entryOf cX9_entryOf 2 (some .int), Cond.methodLink RX9 92 yX9_isPossible, Cond.instanceMethod yX9_isPossible, Cond.selects RX9 yX9_isPossible yX9_isPossible, Cond.code yX9_isPossible cX9_isPossible 9 (some .boolean), Cond.fieldLink RX9 17 "CoverSheetModel" "most" "[I", Cond.fieldLink RX9 35 "CoverSheetModel" "last" "[I", Cond.fieldLink RX9 38 "CoverSheetModel" "before" "[I", Cond.fieldLink RX9 29 "CoverSheetModel" "fixed" "[I", Cond.fieldLink RX9 13 "CoverSheetModel" "skills" "[I", Cond.fieldLink RX9 23 "CoverSheetModel" "barred" "[I", Cond.fieldLink RX9 7 "CoverSheetModel" "run" "I", Cond.methodLink RX9 62 yX9_countShifts, Cond.static yX9_countShifts, Cond.code yX9_countShifts cX9_countShifts 3 (some .int)]
def wsX9_set : List Cond := .code yX9_set cX9_set 5 (some .int) :: ((wsX9_set_r1 ++ wsX9_set_r2) ++ wsX90)
def wsX9_canSwap_r1 : List Cond := [Cond.fieldLink RX9 26 "CoverSheetModel" "entries" "[I", Cond.methodLink RX9 105 yX9_weekOf, Cond.instanceMethod yX9_weekOf, Cond.selects RX9 yX9_weekOf yX9_weekOf, Cond.initialized RX9, Cond.code yX9_weekOf cX9_weekOf 4 (some .int), Cond.methodLink RX9 116 yX9_with, Cond.static yX9_with, Cond.code yX9_with cX9_with 3 (some .int), Cond.methodLink RX9 58 yX9_entryOf, Cond.static yX9_entryOf, Cond.code yX9_entryOf cX9_entryOf 2 (some .int), Cond.methodLink RX9 92 yX9_isPossible, Cond.instanceMethod yX9_isPossible, Cond.selects RX9 yX9_isPossible yX9_isPossible, Cond.code yX9_isPossible cX9_isPossible 9 (some .boolean), Cond.fieldLink RX9 17 "CoverSheetModel" "most" "[I", Cond.fieldLink RX9 35 "CoverSheetModel" "last" "[I", Cond.fieldLink RX9 38 "CoverSheetModel" "before" "[I", Cond.fieldLink RX9 29 "CoverSheetModel" "fixed" "[I", Cond.fieldLink RX9 13 "CoverSheetModel" "skills" "[I", Cond.fieldLink RX9 23 "CoverSheetModel" "barred" "[I", Cond.fieldLink RX9 7 "CoverSheetModel" "run" "I", Cond.methodLink RX9 62 yX9_countShifts]
def wsX9_canSwap_r2 : List Cond := [Cond.static yX9_countShifts, Cond.code yX9_countShifts cX9_countShifts 3 (some .int)]
def wsX9_canSwap : List Cond := .code yX9_canSwap cX9_canSwap 6 (some .boolean) :: ((wsX9_canSwap_r1 ++ wsX9_canSwap_r2) ++ wsX90)
def wsX9_swap_r1 : List Cond := [Cond.fieldLink RX9 44 "CoverSheetModel" "thrown" "I", Cond.fieldLink RX9 26 "CoverSheetModel" "entries" "[I", Cond.methodLink RX9 54 yX9_isPerson, Cond.instanceMethod yX9_isPerson, Cond.selects RX9 yX9_isPerson yX9_isPerson, Cond.initialized RX9, Cond.code yX9_isPerson cX9_isPerson 2 (some .boolean), Cond.fieldLink RX9 47 "CoverSheetModel" "many" "I", Cond.methodLink RX9 50 yX9_in, Cond.static yX9_in, Cond.code yX9_in cX9_in 3 (some .boolean), Cond.methodLink RX9 69 yX9_isDay, Cond.static yX9_isDay, Cond.code yX9_isDay cX9_isDay 1 (some .boolean), Cond.methodLink RX9 66 yX9_fails, Cond.instanceMethod yX9_fails, Cond.selects RX9 yX9_fails yX9_fails, Cond.code yX9_fails cX9_fails 2 (some .int), Cond.methodLink RX9 119 yX9_canSwap, Cond.instanceMethod yX9_canSwap, Cond.selects RX9 yX9_canSwap yX9_canSwap, Cond.code yX9_canSwap cX9_canSwap 6 (some .boolean), Cond.methodLink RX9 105 yX9_weekOf, Cond.instanceMethod yX9_weekOf]
def wsX9_swap_r2 : List Cond := [Cond.selects RX9 yX9_weekOf yX9_weekOf, Cond.code yX9_weekOf cX9_weekOf 4 (some .int), Cond.methodLink RX9 116 yX9_with, Cond.static yX9_with, Cond.code yX9_with cX9_with 3 (some .int), Cond.methodLink RX9 58 yX9_entryOf, Cond.static yX9_entryOf, Cond.code yX9_entryOf cX9_entryOf 2 (some .int), Cond.methodLink RX9 92 yX9_isPossible, Cond.instanceMethod yX9_isPossible, Cond.selects RX9 yX9_isPossible yX9_isPossible, Cond.code yX9_isPossible cX9_isPossible 9 (some .boolean), Cond.fieldLink RX9 17 "CoverSheetModel" "most" "[I", Cond.fieldLink RX9 35 "CoverSheetModel" "last" "[I", Cond.fieldLink RX9 38 "CoverSheetModel" "before" "[I", Cond.fieldLink RX9 29 "CoverSheetModel" "fixed" "[I", Cond.fieldLink RX9 13 "CoverSheetModel" "skills" "[I", Cond.fieldLink RX9 23 "CoverSheetModel" "barred" "[I", Cond.fieldLink RX9 7 "CoverSheetModel" "run" "I", Cond.methodLink RX9 62 yX9_countShifts, Cond.static yX9_countShifts, Cond.code yX9_countShifts cX9_countShifts 3 (some .int), Cond.methodLink RX9 86 yX9_brokenBy, Cond.instanceMethod yX9_brokenBy]
def wsX9_swap_r3 : List Cond := [Cond.selects RX9 yX9_brokenBy yX9_brokenBy, Cond.code yX9_brokenBy cX9_brokenBy 5 (some .int), Cond.fieldLink RX9 32 "CoverSheetModel" "wished" "[I"]
def wsX9_swap : List Cond := .code yX9_swap cX9_swap 5 (some .int) :: ((wsX9_swap_r1 ++ (wsX9_swap_r2 ++ wsX9_swap_r3)) ++ wsX90)
def wsX9_closeWeek : List Cond := .code yX9_closeWeek cX9_closeWeek 4 (some .int) :: ([.fieldLink RX9 44 "CoverSheetModel" "thrown" "I", .fieldLink RX9 47 "CoverSheetModel" "many" "I", .fieldLink RX9 38 "CoverSheetModel" "before" "[I", .fieldLink RX9 29 "CoverSheetModel" "fixed" "[I", .fieldLink RX9 35 "CoverSheetModel" "last" "[I", .fieldLink RX9 41 "CoverSheetModel" "ends" "[I", .fieldLink RX9 32 "CoverSheetModel" "wished" "[I", .fieldLink RX9 122 "CoverSheetModel" "closed" "I", .methodLink RX9 105 yX9_weekOf, .instanceMethod yX9_weekOf, .selects RX9 yX9_weekOf yX9_weekOf, .initialized RX9, .code yX9_weekOf cX9_weekOf 4 (some .int), .fieldLink RX9 26 "CoverSheetModel" "entries" "[I", .methodLink RX9 58 yX9_entryOf, .static yX9_entryOf, .code yX9_entryOf cX9_entryOf 2 (some .int), .methodLink RX9 82 yX9_weekendOf, .static yX9_weekendOf, .code yX9_weekendOf cX9_weekendOf 1 (some .int), .methodLink RX9 108 yX9_enter, .instanceMethod yX9_enter, .selects RX9 yX9_enter yX9_enter, .code yX9_enter cX9_enter 4 none] ++ wsX90)
def wsX9_people : List Cond := .code yX9_people cX9_people 1 (some .int) :: ([.fieldLink RX9 44 "CoverSheetModel" "thrown" "I", .fieldLink RX9 47 "CoverSheetModel" "many" "I"] ++ wsX90)
def wsX9_entry : List Cond := .code yX9_entry cX9_entry 3 (some .int) :: ([.fieldLink RX9 44 "CoverSheetModel" "thrown" "I", .fieldLink RX9 26 "CoverSheetModel" "entries" "[I", .methodLink RX9 54 yX9_isPerson, .instanceMethod yX9_isPerson, .selects RX9 yX9_isPerson yX9_isPerson, .initialized RX9, .code yX9_isPerson cX9_isPerson 2 (some .boolean), .fieldLink RX9 47 "CoverSheetModel" "many" "I", .methodLink RX9 50 yX9_in, .static yX9_in, .code yX9_in cX9_in 3 (some .boolean), .methodLink RX9 69 yX9_isDay, .static yX9_isDay, .code yX9_isDay cX9_isDay 1 (some .boolean), .methodLink RX9 66 yX9_fails, .instanceMethod yX9_fails, .selects RX9 yX9_fails yX9_fails, .code yX9_fails cX9_fails 2 (some .int)] ++ wsX90)
def wsX9_gaps : List Cond := .code yX9_gaps cX9_gaps 1 (some .int) :: ([.fieldLink RX9 44 "CoverSheetModel" "thrown" "I", .methodLink RX9 112 yX9_allGaps, .instanceMethod yX9_allGaps, .selects RX9 yX9_allGaps yX9_allGaps, .initialized RX9, .code yX9_allGaps cX9_allGaps 4 (some .int), .methodLink RX9 79 yX9_gapOf, .instanceMethod yX9_gapOf, .selects RX9 yX9_gapOf yX9_gapOf, .code yX9_gapOf cX9_gapOf 5 (some .int), .fieldLink RX9 20 "CoverSheetModel" "need" "[I", .methodLink RX9 75 yX9_countEntries, .instanceMethod yX9_countEntries, .selects RX9 yX9_countEntries yX9_countEntries, .code yX9_countEntries cX9_countEntries 6 (some .int), .fieldLink RX9 47 "CoverSheetModel" "many" "I", .fieldLink RX9 26 "CoverSheetModel" "entries" "[I"] ++ wsX90)
def wsX9_gap_r1 : List Cond := [Cond.fieldLink RX9 44 "CoverSheetModel" "thrown" "I", Cond.methodLink RX9 69 yX9_isDay, Cond.static yX9_isDay, Cond.initialized RX9, Cond.code yX9_isDay cX9_isDay 1 (some .boolean), Cond.methodLink RX9 50 yX9_in, Cond.static yX9_in, Cond.code yX9_in cX9_in 3 (some .boolean), Cond.methodLink RX9 72 yX9_isKind, Cond.static yX9_isKind, Cond.code yX9_isKind cX9_isKind 1 (some .boolean), Cond.methodLink RX9 79 yX9_gapOf, Cond.instanceMethod yX9_gapOf, Cond.selects RX9 yX9_gapOf yX9_gapOf, Cond.code yX9_gapOf cX9_gapOf 5 (some .int), Cond.fieldLink RX9 20 "CoverSheetModel" "need" "[I", Cond.methodLink RX9 75 yX9_countEntries, Cond.instanceMethod yX9_countEntries, Cond.selects RX9 yX9_countEntries yX9_countEntries, Cond.code yX9_countEntries cX9_countEntries 6 (some .int), Cond.fieldLink RX9 47 "CoverSheetModel" "many" "I", Cond.fieldLink RX9 26 "CoverSheetModel" "entries" "[I", Cond.methodLink RX9 66 yX9_fails, Cond.instanceMethod yX9_fails]
def wsX9_gap_r2 : List Cond := [Cond.selects RX9 yX9_fails yX9_fails, Cond.code yX9_fails cX9_fails 2 (some .int)]
def wsX9_gap : List Cond := .code yX9_gap cX9_gap 3 (some .int) :: ((wsX9_gap_r1 ++ wsX9_gap_r2) ++ wsX90)
def wsX9_shifts_r1 : List Cond := [Cond.methodLink RX9 125 yX9_isAsked, Cond.instanceMethod yX9_isAsked, Cond.selects RX9 yX9_isAsked yX9_isAsked, Cond.initialized RX9, Cond.code yX9_isAsked cX9_isAsked 2 (some .boolean), Cond.fieldLink RX9 44 "CoverSheetModel" "thrown" "I", Cond.methodLink RX9 54 yX9_isPerson, Cond.instanceMethod yX9_isPerson, Cond.selects RX9 yX9_isPerson yX9_isPerson, Cond.code yX9_isPerson cX9_isPerson 2 (some .boolean), Cond.fieldLink RX9 47 "CoverSheetModel" "many" "I", Cond.methodLink RX9 50 yX9_in, Cond.static yX9_in, Cond.code yX9_in cX9_in 3 (some .boolean), Cond.methodLink RX9 105 yX9_weekOf, Cond.instanceMethod yX9_weekOf, Cond.selects RX9 yX9_weekOf yX9_weekOf, Cond.code yX9_weekOf cX9_weekOf 4 (some .int), Cond.fieldLink RX9 26 "CoverSheetModel" "entries" "[I", Cond.methodLink RX9 62 yX9_countShifts, Cond.static yX9_countShifts, Cond.code yX9_countShifts cX9_countShifts 3 (some .int), Cond.methodLink RX9 58 yX9_entryOf, Cond.static yX9_entryOf]
def wsX9_shifts_r2 : List Cond := [Cond.code yX9_entryOf cX9_entryOf 2 (some .int)]
def wsX9_shifts : List Cond := .code yX9_shifts cX9_shifts 2 (some .int) :: ((wsX9_shifts_r1 ++ wsX9_shifts_r2) ++ wsX90)
def wsX9_weekends : List Cond := .code yX9_weekends cX9_weekends 2 (some .int) :: ([.fieldLink RX9 41 "CoverSheetModel" "ends" "[I", .methodLink RX9 125 yX9_isAsked, .instanceMethod yX9_isAsked, .selects RX9 yX9_isAsked yX9_isAsked, .initialized RX9, .code yX9_isAsked cX9_isAsked 2 (some .boolean), .fieldLink RX9 44 "CoverSheetModel" "thrown" "I", .methodLink RX9 54 yX9_isPerson, .instanceMethod yX9_isPerson, .selects RX9 yX9_isPerson yX9_isPerson, .code yX9_isPerson cX9_isPerson 2 (some .boolean), .fieldLink RX9 47 "CoverSheetModel" "many" "I", .methodLink RX9 50 yX9_in, .static yX9_in, .code yX9_in cX9_in 3 (some .boolean)] ++ wsX90)
def wsX9_broken_r1 : List Cond := [Cond.methodLink RX9 125 yX9_isAsked, Cond.instanceMethod yX9_isAsked, Cond.selects RX9 yX9_isAsked yX9_isAsked, Cond.initialized RX9, Cond.code yX9_isAsked cX9_isAsked 2 (some .boolean), Cond.fieldLink RX9 44 "CoverSheetModel" "thrown" "I", Cond.methodLink RX9 54 yX9_isPerson, Cond.instanceMethod yX9_isPerson, Cond.selects RX9 yX9_isPerson yX9_isPerson, Cond.code yX9_isPerson cX9_isPerson 2 (some .boolean), Cond.fieldLink RX9 47 "CoverSheetModel" "many" "I", Cond.methodLink RX9 50 yX9_in, Cond.static yX9_in, Cond.code yX9_in cX9_in 3 (some .boolean), Cond.methodLink RX9 105 yX9_weekOf, Cond.instanceMethod yX9_weekOf, Cond.selects RX9 yX9_weekOf yX9_weekOf, Cond.code yX9_weekOf cX9_weekOf 4 (some .int), Cond.fieldLink RX9 26 "CoverSheetModel" "entries" "[I", Cond.methodLink RX9 86 yX9_brokenBy, Cond.instanceMethod yX9_brokenBy, Cond.selects RX9 yX9_brokenBy yX9_brokenBy, Cond.code yX9_brokenBy cX9_brokenBy 5 (some .int), Cond.fieldLink RX9 32 "CoverSheetModel" "wished" "[I"]
def wsX9_broken_r2 : List Cond := [Cond.methodLink RX9 58 yX9_entryOf, Cond.static yX9_entryOf, Cond.code yX9_entryOf cX9_entryOf 2 (some .int)]
def wsX9_broken : List Cond := .code yX9_broken cX9_broken 2 (some .int) :: ((wsX9_broken_r1 ++ wsX9_broken_r2) ++ wsX90)
def wsX9_runBefore : List Cond := .code yX9_runBefore cX9_runBefore 2 (some .int) :: ([.fieldLink RX9 38 "CoverSheetModel" "before" "[I", .methodLink RX9 125 yX9_isAsked, .instanceMethod yX9_isAsked, .selects RX9 yX9_isAsked yX9_isAsked, .initialized RX9, .code yX9_isAsked cX9_isAsked 2 (some .boolean), .fieldLink RX9 44 "CoverSheetModel" "thrown" "I", .methodLink RX9 54 yX9_isPerson, .instanceMethod yX9_isPerson, .selects RX9 yX9_isPerson yX9_isPerson, .code yX9_isPerson cX9_isPerson 2 (some .boolean), .fieldLink RX9 47 "CoverSheetModel" "many" "I", .methodLink RX9 50 yX9_in, .static yX9_in, .code yX9_in cX9_in 3 (some .boolean)] ++ wsX90)
def wsX9_isFeasible_r1 : List Cond := [Cond.methodLink RX9 125 yX9_isAsked, Cond.instanceMethod yX9_isAsked, Cond.selects RX9 yX9_isAsked yX9_isAsked, Cond.initialized RX9, Cond.code yX9_isAsked cX9_isAsked 2 (some .boolean), Cond.fieldLink RX9 44 "CoverSheetModel" "thrown" "I", Cond.methodLink RX9 54 yX9_isPerson, Cond.instanceMethod yX9_isPerson, Cond.selects RX9 yX9_isPerson yX9_isPerson, Cond.code yX9_isPerson cX9_isPerson 2 (some .boolean), Cond.fieldLink RX9 47 "CoverSheetModel" "many" "I", Cond.methodLink RX9 50 yX9_in, Cond.static yX9_in, Cond.code yX9_in cX9_in 3 (some .boolean), Cond.methodLink RX9 105 yX9_weekOf, Cond.instanceMethod yX9_weekOf, Cond.selects RX9 yX9_weekOf yX9_weekOf, Cond.code yX9_weekOf cX9_weekOf 4 (some .int), Cond.fieldLink RX9 26 "CoverSheetModel" "entries" "[I", Cond.methodLink RX9 92 yX9_isPossible, Cond.instanceMethod yX9_isPossible, Cond.selects RX9 yX9_isPossible yX9_isPossible, Cond.code yX9_isPossible cX9_isPossible 9 (some .boolean), Cond.fieldLink RX9 17 "CoverSheetModel" "most" "[I"]
def wsX9_isFeasible_r2 : List Cond := [Cond.fieldLink RX9 35 "CoverSheetModel" "last" "[I", Cond.fieldLink RX9 38 "CoverSheetModel" "before" "[I", Cond.fieldLink RX9 29 "CoverSheetModel" "fixed" "[I", Cond.fieldLink RX9 13 "CoverSheetModel" "skills" "[I", Cond.fieldLink RX9 23 "CoverSheetModel" "barred" "[I", Cond.fieldLink RX9 7 "CoverSheetModel" "run" "I", Cond.methodLink RX9 62 yX9_countShifts, Cond.static yX9_countShifts, Cond.code yX9_countShifts cX9_countShifts 3 (some .int), Cond.methodLink RX9 58 yX9_entryOf, Cond.static yX9_entryOf, Cond.code yX9_entryOf cX9_entryOf 2 (some .int)]
def wsX9_isFeasible : List Cond := .code yX9_isFeasible cX9_isFeasible 2 (some .boolean) :: ((wsX9_isFeasible_r1 ++ wsX9_isFeasible_r2) ++ wsX90)
def wsX9_countWeeks : List Cond := .code yX9_countWeeks cX9_countWeeks 4 (some .int) :: ([.methodLink RX9 92 yX9_isPossible, .instanceMethod yX9_isPossible, .selects RX9 yX9_isPossible yX9_isPossible, .initialized RX9, .code yX9_isPossible cX9_isPossible 9 (some .boolean), .fieldLink RX9 17 "CoverSheetModel" "most" "[I", .fieldLink RX9 35 "CoverSheetModel" "last" "[I", .fieldLink RX9 38 "CoverSheetModel" "before" "[I", .fieldLink RX9 29 "CoverSheetModel" "fixed" "[I", .fieldLink RX9 13 "CoverSheetModel" "skills" "[I", .fieldLink RX9 23 "CoverSheetModel" "barred" "[I", .fieldLink RX9 7 "CoverSheetModel" "run" "I", .methodLink RX9 62 yX9_countShifts, .static yX9_countShifts, .code yX9_countShifts cX9_countShifts 3 (some .int), .methodLink RX9 58 yX9_entryOf, .static yX9_entryOf, .code yX9_entryOf cX9_entryOf 2 (some .int)] ++ wsX90)
def wsX9_weeks_r1 : List Cond := [Cond.methodLink RX9 125 yX9_isAsked, Cond.instanceMethod yX9_isAsked, Cond.selects RX9 yX9_isAsked yX9_isAsked, Cond.initialized RX9, Cond.code yX9_isAsked cX9_isAsked 2 (some .boolean), Cond.fieldLink RX9 44 "CoverSheetModel" "thrown" "I", Cond.methodLink RX9 54 yX9_isPerson, Cond.instanceMethod yX9_isPerson, Cond.selects RX9 yX9_isPerson yX9_isPerson, Cond.code yX9_isPerson cX9_isPerson 2 (some .boolean), Cond.fieldLink RX9 47 "CoverSheetModel" "many" "I", Cond.methodLink RX9 50 yX9_in, Cond.static yX9_in, Cond.code yX9_in cX9_in 3 (some .boolean), Cond.methodLink RX9 128 yX9_countWeeks, Cond.instanceMethod yX9_countWeeks, Cond.selects RX9 yX9_countWeeks yX9_countWeeks, Cond.code yX9_countWeeks cX9_countWeeks 4 (some .int), Cond.methodLink RX9 92 yX9_isPossible, Cond.instanceMethod yX9_isPossible, Cond.selects RX9 yX9_isPossible yX9_isPossible, Cond.code yX9_isPossible cX9_isPossible 9 (some .boolean), Cond.fieldLink RX9 17 "CoverSheetModel" "most" "[I", Cond.fieldLink RX9 35 "CoverSheetModel" "last" "[I"]
def wsX9_weeks_r2 : List Cond := [Cond.fieldLink RX9 38 "CoverSheetModel" "before" "[I", Cond.fieldLink RX9 29 "CoverSheetModel" "fixed" "[I", Cond.fieldLink RX9 13 "CoverSheetModel" "skills" "[I", Cond.fieldLink RX9 23 "CoverSheetModel" "barred" "[I", Cond.fieldLink RX9 7 "CoverSheetModel" "run" "I", Cond.methodLink RX9 62 yX9_countShifts, Cond.static yX9_countShifts, Cond.code yX9_countShifts cX9_countShifts 3 (some .int), Cond.methodLink RX9 58 yX9_entryOf, Cond.static yX9_entryOf, Cond.code yX9_entryOf cX9_entryOf 2 (some .int)]
def wsX9_weeks : List Cond := .code yX9_weeks cX9_weeks 2 (some .int) :: ((wsX9_weeks_r1 ++ wsX9_weeks_r2) ++ wsX90)
def wsX9_weeksByDays_r1 : List Cond := [Cond.methodLink RX9 125 yX9_isAsked, Cond.instanceMethod yX9_isAsked, Cond.selects RX9 yX9_isAsked yX9_isAsked, Cond.initialized RX9, Cond.code yX9_isAsked cX9_isAsked 2 (some .boolean), Cond.fieldLink RX9 44 "CoverSheetModel" "thrown" "I", Cond.methodLink RX9 54 yX9_isPerson, Cond.instanceMethod yX9_isPerson, Cond.selects RX9 yX9_isPerson yX9_isPerson, Cond.code yX9_isPerson cX9_isPerson 2 (some .boolean), Cond.fieldLink RX9 47 "CoverSheetModel" "many" "I", Cond.methodLink RX9 50 yX9_in, Cond.static yX9_in, Cond.code yX9_in cX9_in 3 (some .boolean), Cond.methodLink RX9 128 yX9_countWeeks, Cond.instanceMethod yX9_countWeeks, Cond.selects RX9 yX9_countWeeks yX9_countWeeks, Cond.code yX9_countWeeks cX9_countWeeks 4 (some .int), Cond.methodLink RX9 92 yX9_isPossible, Cond.instanceMethod yX9_isPossible, Cond.selects RX9 yX9_isPossible yX9_isPossible, Cond.code yX9_isPossible cX9_isPossible 9 (some .boolean), Cond.fieldLink RX9 17 "CoverSheetModel" "most" "[I", Cond.fieldLink RX9 35 "CoverSheetModel" "last" "[I"]
def wsX9_weeksByDays_r2 : List Cond := [Cond.fieldLink RX9 38 "CoverSheetModel" "before" "[I", Cond.fieldLink RX9 29 "CoverSheetModel" "fixed" "[I", Cond.fieldLink RX9 13 "CoverSheetModel" "skills" "[I", Cond.fieldLink RX9 23 "CoverSheetModel" "barred" "[I", Cond.fieldLink RX9 7 "CoverSheetModel" "run" "I", Cond.methodLink RX9 62 yX9_countShifts, Cond.static yX9_countShifts, Cond.code yX9_countShifts cX9_countShifts 3 (some .int), Cond.methodLink RX9 58 yX9_entryOf, Cond.static yX9_entryOf, Cond.code yX9_entryOf cX9_entryOf 2 (some .int)]
def wsX9_weeksByDays : List Cond := .code yX9_weeksByDays cX9_weeksByDays 2 (some .int) :: ((wsX9_weeksByDays_r1 ++ wsX9_weeksByDays_r2) ++ wsX90)
def wsX9_couldTake_r1 : List Cond := [Cond.fieldLink RX9 44 "CoverSheetModel" "thrown" "I", Cond.fieldLink RX9 47 "CoverSheetModel" "many" "I", Cond.fieldLink RX9 26 "CoverSheetModel" "entries" "[I", Cond.methodLink RX9 69 yX9_isDay, Cond.static yX9_isDay, Cond.initialized RX9, Cond.code yX9_isDay cX9_isDay 1 (some .boolean), Cond.methodLink RX9 50 yX9_in, Cond.static yX9_in, Cond.code yX9_in cX9_in 3 (some .boolean), Cond.methodLink RX9 72 yX9_isKind, Cond.static yX9_isKind, Cond.code yX9_isKind cX9_isKind 1 (some .boolean), Cond.methodLink RX9 66 yX9_fails, Cond.instanceMethod yX9_fails, Cond.selects RX9 yX9_fails yX9_fails, Cond.code yX9_fails cX9_fails 2 (some .int), Cond.methodLink RX9 105 yX9_weekOf, Cond.instanceMethod yX9_weekOf, Cond.selects RX9 yX9_weekOf yX9_weekOf, Cond.code yX9_weekOf cX9_weekOf 4 (some .int), Cond.methodLink RX9 116 yX9_with, Cond.static yX9_with, Cond.code yX9_with cX9_with 3 (some .int)]
def wsX9_couldTake_r2 : List Cond := [Cond.methodLink RX9 58 yX9_entryOf, Cond.static yX9_entryOf, Cond.code yX9_entryOf cX9_entryOf 2 (some .int), Cond.methodLink RX9 92 yX9_isPossible, Cond.instanceMethod yX9_isPossible, Cond.selects RX9 yX9_isPossible yX9_isPossible, Cond.code yX9_isPossible cX9_isPossible 9 (some .boolean), Cond.fieldLink RX9 17 "CoverSheetModel" "most" "[I", Cond.fieldLink RX9 35 "CoverSheetModel" "last" "[I", Cond.fieldLink RX9 38 "CoverSheetModel" "before" "[I", Cond.fieldLink RX9 29 "CoverSheetModel" "fixed" "[I", Cond.fieldLink RX9 13 "CoverSheetModel" "skills" "[I", Cond.fieldLink RX9 23 "CoverSheetModel" "barred" "[I", Cond.fieldLink RX9 7 "CoverSheetModel" "run" "I", Cond.methodLink RX9 62 yX9_countShifts, Cond.static yX9_countShifts, Cond.code yX9_countShifts cX9_countShifts 3 (some .int)]
def wsX9_couldTake : List Cond := .code yX9_couldTake cX9_couldTake 6 (some .int) :: ((wsX9_couldTake_r1 ++ wsX9_couldTake_r2) ++ wsX90)
def wsX9_swapFor_r1 : List Cond := [Cond.fieldLink RX9 44 "CoverSheetModel" "thrown" "I", Cond.fieldLink RX9 47 "CoverSheetModel" "many" "I", Cond.fieldLink RX9 26 "CoverSheetModel" "entries" "[I", Cond.methodLink RX9 54 yX9_isPerson, Cond.instanceMethod yX9_isPerson, Cond.selects RX9 yX9_isPerson yX9_isPerson, Cond.initialized RX9, Cond.code yX9_isPerson cX9_isPerson 2 (some .boolean), Cond.methodLink RX9 50 yX9_in, Cond.static yX9_in, Cond.code yX9_in cX9_in 3 (some .boolean), Cond.methodLink RX9 69 yX9_isDay, Cond.static yX9_isDay, Cond.code yX9_isDay cX9_isDay 1 (some .boolean), Cond.methodLink RX9 66 yX9_fails, Cond.instanceMethod yX9_fails, Cond.selects RX9 yX9_fails yX9_fails, Cond.code yX9_fails cX9_fails 2 (some .int), Cond.methodLink RX9 119 yX9_canSwap, Cond.instanceMethod yX9_canSwap, Cond.selects RX9 yX9_canSwap yX9_canSwap, Cond.code yX9_canSwap cX9_canSwap 6 (some .boolean), Cond.methodLink RX9 105 yX9_weekOf, Cond.instanceMethod yX9_weekOf]
def wsX9_swapFor_r2 : List Cond := [Cond.selects RX9 yX9_weekOf yX9_weekOf, Cond.code yX9_weekOf cX9_weekOf 4 (some .int), Cond.methodLink RX9 116 yX9_with, Cond.static yX9_with, Cond.code yX9_with cX9_with 3 (some .int), Cond.methodLink RX9 58 yX9_entryOf, Cond.static yX9_entryOf, Cond.code yX9_entryOf cX9_entryOf 2 (some .int), Cond.methodLink RX9 92 yX9_isPossible, Cond.instanceMethod yX9_isPossible, Cond.selects RX9 yX9_isPossible yX9_isPossible, Cond.code yX9_isPossible cX9_isPossible 9 (some .boolean), Cond.fieldLink RX9 17 "CoverSheetModel" "most" "[I", Cond.fieldLink RX9 35 "CoverSheetModel" "last" "[I", Cond.fieldLink RX9 38 "CoverSheetModel" "before" "[I", Cond.fieldLink RX9 29 "CoverSheetModel" "fixed" "[I", Cond.fieldLink RX9 13 "CoverSheetModel" "skills" "[I", Cond.fieldLink RX9 23 "CoverSheetModel" "barred" "[I", Cond.fieldLink RX9 7 "CoverSheetModel" "run" "I", Cond.methodLink RX9 62 yX9_countShifts, Cond.static yX9_countShifts, Cond.code yX9_countShifts cX9_countShifts 3 (some .int)]
def wsX9_swapFor : List Cond := .code yX9_swapFor cX9_swapFor 8 (some .int) :: ((wsX9_swapFor_r1 ++ wsX9_swapFor_r2) ++ wsX90)
def wsX9_lacking : List Cond := .code yX9_lacking cX9_lacking 6 (some .int) :: ([.fieldLink RX9 20 "CoverSheetModel" "need" "[I", .fieldLink RX9 47 "CoverSheetModel" "many" "I", .fieldLink RX9 13 "CoverSheetModel" "skills" "[I"] ++ wsX90)
def wsX9_bound : List Cond := .code yX9_bound cX9_bound 3 (some .int) :: ([.fieldLink RX9 44 "CoverSheetModel" "thrown" "I", .methodLink RX9 131 yX9_lacking, .instanceMethod yX9_lacking, .selects RX9 yX9_lacking yX9_lacking, .initialized RX9, .code yX9_lacking cX9_lacking 6 (some .int), .fieldLink RX9 20 "CoverSheetModel" "need" "[I", .fieldLink RX9 47 "CoverSheetModel" "many" "I", .fieldLink RX9 13 "CoverSheetModel" "skills" "[I"] ++ wsX90)
def wsJ9_max_7cf53 : List Cond := .code yJ9_max_7cf53 cJ9_max_7cf53 2 (some .int) :: ([])
def wsJ9_min_7cf53 : List Cond := .code yJ9_min_7cf53 cJ9_min_7cf53 2 (some .int) :: ([])
def wsJ9_min_f86c9 : List Cond := .code yJ9_min_f86c9 cJ9_min_f86c9 4 (some .long) :: ([])
def wsL_addPerson : List Cond := .codeWith yL_addPerson cL_addPerson 5 (some .int) [(0, 10, 13, 13), (0, 10, 17, 15)] :: ([.classLink RL 13 "java/lang/IllegalArgumentException", .classLink RL 15 "java/lang/IllegalStateException", .methodLink RL 7 yX8_addPerson, .instanceMethod yX8_addPerson, .selects RX8 yX8_addPerson yX8_addPerson, .initialized RX8, .code yX8_addPerson cX8_addPerson 3 (some .int), .classLink RX8 50 "java/lang/IllegalArgumentException", .initialized "java/lang/IllegalArgumentException", .classLink RX8 63 "java/lang/IllegalStateException", .initialized "java/lang/IllegalStateException", .fieldLink RX8 59 "CoverSheet" "teamSize" "I", .fieldLink RX8 11 "CoverSheet" "team" "[LCoverSheet$Person;", .classLink RX8 9 RX4, .instantiable RX4 8, .initialized RX4, .instanceMethod yX4_init, .code yX4_init cX4_init 3 none, .methodLink RX4 3 objectInit, .instanceMethod objectInit, .code objectInit ⟨#[0xb1]⟩ 1 none, .fieldLink RX4 9 "CoverSheet$Person" "skills" "I", .fieldLink RX4 15 "CoverSheet$Person" "most" "I"] ++ wsX80 ++ wsX40 ++ (vx_atS RX8 54 "java/lang/IllegalArgumentException" ["java/lang/RuntimeException", "java/lang/Exception"]).filter goodWord ++ (vx_atS RX8 67 "java/lang/IllegalStateException" ["java/lang/RuntimeException", "java/lang/Exception"]).filter goodWord)
def wsL_setNeed_r1 : List Cond := [Cond.classLink RL 21 "java/lang/IndexOutOfBoundsException", Cond.classLink RL 13 "java/lang/IllegalArgumentException", Cond.methodLink RL 17 yX8_setNeed, Cond.instanceMethod yX8_setNeed, Cond.selects RX8 yX8_setNeed yX8_setNeed, Cond.initialized RX8, Cond.code yX8_setNeed cX8_setNeed 5 (some .int), Cond.classLink RX8 78 "java/lang/IndexOutOfBoundsException", Cond.initialized "java/lang/IndexOutOfBoundsException", Cond.classLink RX8 50 "java/lang/IllegalArgumentException", Cond.initialized "java/lang/IllegalArgumentException", Cond.fieldLink RX8 18 "CoverSheet" "needs" "LCoverSheet$Needs;", Cond.methodLink RX8 71 yX8_isDay, Cond.static yX8_isDay, Cond.code yX8_isDay cX8_isDay 1 (some .boolean), Cond.methodLink RX8 75 yX8_isKind, Cond.static yX8_isKind, Cond.code yX8_isKind cX8_isKind 1 (some .boolean), Cond.methodLink RX8 85 yX3_of, Cond.instanceMethod yX3_of, Cond.selects RX3 yX3_of yX3_of, Cond.initialized RX3, Cond.code yX3_of cX3_of 4 (some .int), Cond.fieldLink RX3 9 "CoverSheet$Needs" "numbers" "[I"]
def wsL_setNeed_r2 : List Cond := [Cond.methodLink RX8 89 yX3_put, Cond.instanceMethod yX3_put, Cond.selects RX3 yX3_put yX3_put, Cond.code yX3_put cX3_put 5 none]
def wsL_setNeed : List Cond := .codeWith yL_setNeed cL_setNeed 6 (some .int) [(0, 12, 15, 21), (0, 12, 19, 13)] :: ((wsL_setNeed_r1 ++ wsL_setNeed_r2) ++ wsX80 ++ wsX30 ++ (vx_atS RX8 82 "java/lang/IndexOutOfBoundsException" ["java/lang/RuntimeException", "java/lang/Exception"]).filter goodWord ++ (vx_atS RX8 54 "java/lang/IllegalArgumentException" ["java/lang/RuntimeException", "java/lang/Exception"]).filter goodWord)
def wsL_forbid : List Cond := .codeWith yL_forbid cL_forbid 6 (some .int) [(0, 19, 22, 21)] :: ([.classLink RL 21 "java/lang/IndexOutOfBoundsException", .methodLink RL 23 yX8_forbid, .instanceMethod yX8_forbid, .selects RX8 yX8_forbid yX8_forbid, .initialized RX8, .code yX8_forbid cX8_forbid 4 (some .boolean), .classLink RX8 78 "java/lang/IndexOutOfBoundsException", .initialized "java/lang/IndexOutOfBoundsException", .fieldLink RX8 25 "CoverSheet" "rules" "LCoverSheet$Rules;", .methodLink RX8 75 yX8_isKind, .static yX8_isKind, .code yX8_isKind cX8_isKind 1 (some .boolean), .methodLink RX8 95 yX6_changeFollowing, .instanceMethod yX6_changeFollowing, .selects RX6 yX6_changeFollowing yX6_changeFollowing, .initialized RX6, .code yX6_changeFollowing cX6_changeFollowing 5 (some .boolean), .fieldLink RX6 15 "CoverSheet$Rules" "forbidden" "I", .methodLink RX6 9 yX6_pairOf, .static yX6_pairOf, .code yX6_pairOf cX6_pairOf 2 (some .int)] ++ wsX80 ++ wsX60 ++ (vx_atS RX8 82 "java/lang/IndexOutOfBoundsException" ["java/lang/RuntimeException", "java/lang/Exception"]).filter goodWord)
def wsL_setRun : List Cond := .codeWith yL_setRun cL_setRun 4 (some .int) [(0, 9, 12, 13)] :: ([.classLink RL 13 "java/lang/IllegalArgumentException", .methodLink RL 27 yX8_setRun, .instanceMethod yX8_setRun, .selects RX8 yX8_setRun yX8_setRun, .initialized RX8, .code yX8_setRun cX8_setRun 3 (some .int), .classLink RX8 50 "java/lang/IllegalArgumentException", .initialized "java/lang/IllegalArgumentException", .fieldLink RX8 25 "CoverSheet" "rules" "LCoverSheet$Rules;"] ++ wsX80 ++ wsX60 ++ (vx_atS RX8 54 "java/lang/IllegalArgumentException" ["java/lang/RuntimeException", "java/lang/Exception"]).filter goodWord)
def wsL_wish : List Cond := .codeWith yL_wish cL_wish 6 (some .int) [(0, 19, 22, 21)] :: ([.classLink RL 21 "java/lang/IndexOutOfBoundsException", .methodLink RL 31 yX8_wish, .instanceMethod yX8_wish, .selects RX8 yX8_wish yX8_wish, .initialized RX8, .code yX8_wish cX8_wish 5 (some .boolean), .classLink RX8 78 "java/lang/IndexOutOfBoundsException", .initialized "java/lang/IndexOutOfBoundsException", .methodLink RX8 104 yX8_personAt, .instanceMethod yX8_personAt, .selects RX8 yX8_personAt yX8_personAt, .code yX8_personAt cX8_personAt 2 (some (.object "CoverSheet$Person")), .fieldLink RX8 11 "CoverSheet" "team" "[LCoverSheet$Person;", .methodLink RX8 71 yX8_isDay, .static yX8_isDay, .code yX8_isDay cX8_isDay 1 (some .boolean), .methodLink RX8 110 yX4_changeWish, .instanceMethod yX4_changeWish, .selects RX4 yX4_changeWish yX4_changeWish, .initialized RX4, .code yX4_changeWish cX4_changeWish 4 (some .boolean), .fieldLink RX4 18 "CoverSheet$Person" "wishes" "I"] ++ wsX80 ++ wsX40 ++ (vx_atS RX8 82 "java/lang/IndexOutOfBoundsException" ["java/lang/RuntimeException", "java/lang/Exception"]).filter goodWord)
def wsL_fix_r1 : List Cond := [Cond.classLink RL 21 "java/lang/IndexOutOfBoundsException", Cond.classLink RL 13 "java/lang/IllegalArgumentException", Cond.methodLink RL 34 yX8_fix, Cond.instanceMethod yX8_fix, Cond.selects RX8 yX8_fix yX8_fix, Cond.initialized RX8, Cond.code yX8_fix cX8_fix 6 (some .int), Cond.classLink RX8 78 "java/lang/IndexOutOfBoundsException", Cond.initialized "java/lang/IndexOutOfBoundsException", Cond.classLink RX8 50 "java/lang/IllegalArgumentException", Cond.initialized "java/lang/IllegalArgumentException", Cond.methodLink RX8 104 yX8_personAt, Cond.instanceMethod yX8_personAt, Cond.selects RX8 yX8_personAt yX8_personAt, Cond.code yX8_personAt cX8_personAt 2 (some (.object "CoverSheet$Person")), Cond.fieldLink RX8 11 "CoverSheet" "team" "[LCoverSheet$Person;", Cond.methodLink RX8 71 yX8_isDay, Cond.static yX8_isDay, Cond.code yX8_isDay cX8_isDay 1 (some .boolean), Cond.methodLink RX8 114 yX8_isEntry, Cond.static yX8_isEntry, Cond.code yX8_isEntry cX8_isEntry 1 (some .boolean), Cond.methodLink RX8 119 yX4_fixedAt, Cond.instanceMethod yX4_fixedAt]
def wsL_fix_r2 : List Cond := [Cond.selects RX4 yX4_fixedAt yX4_fixedAt, Cond.initialized RX4, Cond.code yX4_fixedAt cX4_fixedAt 2 (some .int), Cond.fieldLink RX4 34 "CoverSheet$Person" "fixed" "I", Cond.methodLink RX8 123 yX4_changeFixed, Cond.instanceMethod yX4_changeFixed, Cond.selects RX4 yX4_changeFixed yX4_changeFixed, Cond.code yX4_changeFixed cX4_changeFixed 4 none]
def wsL_fix : List Cond := .codeWith yL_fix cL_fix 6 (some .int) [(0, 12, 15, 21), (0, 12, 19, 13)] :: ((wsL_fix_r1 ++ wsL_fix_r2) ++ wsX80 ++ wsX40 ++ (vx_atS RX8 82 "java/lang/IndexOutOfBoundsException" ["java/lang/RuntimeException", "java/lang/Exception"]).filter goodWord ++ (vx_atS RX8 54 "java/lang/IllegalArgumentException" ["java/lang/RuntimeException", "java/lang/Exception"]).filter goodWord)
def wsL_set_r1 : List Cond := [Cond.classLink RL 21 "java/lang/IndexOutOfBoundsException", Cond.classLink RL 13 "java/lang/IllegalArgumentException", Cond.classLink RL 15 "java/lang/IllegalStateException", Cond.methodLink RL 37 yX8_set, Cond.instanceMethod yX8_set, Cond.selects RX8 yX8_set yX8_set, Cond.initialized RX8, Cond.code yX8_set cX8_set 7 (some .int), Cond.classLink RX8 78 "java/lang/IndexOutOfBoundsException", Cond.initialized "java/lang/IndexOutOfBoundsException", Cond.classLink RX8 50 "java/lang/IllegalArgumentException", Cond.initialized "java/lang/IllegalArgumentException", Cond.classLink RX8 63 "java/lang/IllegalStateException", Cond.initialized "java/lang/IllegalStateException", Cond.fieldLink RX8 25 "CoverSheet" "rules" "LCoverSheet$Rules;", Cond.methodLink RX8 104 yX8_personAt, Cond.instanceMethod yX8_personAt, Cond.selects RX8 yX8_personAt yX8_personAt, Cond.code yX8_personAt cX8_personAt 2 (some (.object "CoverSheet$Person")), Cond.fieldLink RX8 11 "CoverSheet" "team" "[LCoverSheet$Person;", Cond.methodLink RX8 71 yX8_isDay, Cond.static yX8_isDay, Cond.code yX8_isDay cX8_isDay 1 (some .boolean), Cond.methodLink RX8 114 yX8_isEntry]
def wsL_set_r2 : List Cond := [Cond.static yX8_isEntry, Cond.code yX8_isEntry cX8_isEntry 1 (some .boolean), Cond.methodLink RX8 144 yX7_with, Cond.static yX7_with, Cond.initialized RX7, Cond.code yX7_with cX7_with 4 (some .int), Cond.methodLink RX7 9 yX7_placeOf, Cond.static yX7_placeOf, Cond.code yX7_placeOf cX7_placeOf 1 (some .int), Cond.methodLink RX8 148 yX4_canHave, Cond.instanceMethod yX4_canHave, Cond.selects RX4 yX4_canHave yX4_canHave, Cond.initialized RX4, Cond.code yX4_canHave cX4_canHave 7 (some .boolean), Cond.fieldLink RX4 41 "CoverSheet$Person" "lastEntry" "I", Cond.fieldLink RX4 44 "CoverSheet$Person" "daysInARow" "I", Cond.fieldLink RX4 15 "CoverSheet$Person" "most" "I", Cond.methodLink RX4 24 yX7_at, Cond.static yX7_at, Cond.code yX7_at cX7_at 2 (some .int), Cond.methodLink RX4 47 yX4_mayHave, Cond.instanceMethod yX4_mayHave, Cond.selects RX4 yX4_mayHave yX4_mayHave, Cond.code yX4_mayHave cX4_mayHave 4 (some .boolean)]
def wsL_set_r3 : List Cond := [Cond.fieldLink RX4 9 "CoverSheet$Person" "skills" "I", Cond.methodLink RX4 37 yX4_fixedAt, Cond.instanceMethod yX4_fixedAt, Cond.selects RX4 yX4_fixedAt yX4_fixedAt, Cond.code yX4_fixedAt cX4_fixedAt 2 (some .int), Cond.fieldLink RX4 34 "CoverSheet$Person" "fixed" "I", Cond.methodLink RX4 50 yX6_allow, Cond.instanceMethod yX6_allow, Cond.selects RX6 yX6_allow yX6_allow, Cond.initialized RX6, Cond.code yX6_allow cX6_allow 4 (some .boolean), Cond.fieldLink RX6 19 "CoverSheet$Rules" "longestRun" "I", Cond.fieldLink RX6 15 "CoverSheet$Rules" "forbidden" "I", Cond.methodLink RX6 9 yX6_pairOf, Cond.static yX6_pairOf, Cond.code yX6_pairOf cX6_pairOf 2 (some .int), Cond.methodLink RX4 56 yX7_shiftsFrom, Cond.static yX7_shiftsFrom, Cond.code yX7_shiftsFrom cX7_shiftsFrom 4 (some .int), Cond.methodLink RX7 15 yX7_at, Cond.methodLink RX8 154 yX7_at]
def wsL_set : List Cond := .codeWith yL_set cL_set 6 (some .int) [(0, 12, 15, 21), (0, 12, 19, 13), (0, 12, 23, 15)] :: ((wsL_set_r1 ++ (wsL_set_r2 ++ wsL_set_r3)) ++ wsX40 ++ wsX80 ++ wsX60 ++ (vx_atS RX8 82 "java/lang/IndexOutOfBoundsException" ["java/lang/RuntimeException", "java/lang/Exception"]).filter goodWord ++ (vx_atS RX8 54 "java/lang/IllegalArgumentException" ["java/lang/RuntimeException", "java/lang/Exception"]).filter goodWord ++ (vx_atS RX8 67 "java/lang/IllegalStateException" ["java/lang/RuntimeException", "java/lang/Exception"]).filter goodWord)
def wsL_swap_r1 : List Cond := [Cond.classLink RL 21 "java/lang/IndexOutOfBoundsException", Cond.classLink RL 15 "java/lang/IllegalStateException", Cond.methodLink RL 40 yX8_swap, Cond.instanceMethod yX8_swap, Cond.selects RX8 yX8_swap yX8_swap, Cond.initialized RX8, Cond.code yX8_swap cX8_swap 7 (some .int), Cond.classLink RX8 78 "java/lang/IndexOutOfBoundsException", Cond.initialized "java/lang/IndexOutOfBoundsException", Cond.classLink RX8 63 "java/lang/IllegalStateException", Cond.initialized "java/lang/IllegalStateException", Cond.methodLink RX8 104 yX8_personAt, Cond.instanceMethod yX8_personAt, Cond.selects RX8 yX8_personAt yX8_personAt, Cond.code yX8_personAt cX8_personAt 2 (some (.object "CoverSheet$Person")), Cond.fieldLink RX8 11 "CoverSheet" "team" "[LCoverSheet$Person;", Cond.methodLink RX8 71 yX8_isDay, Cond.static yX8_isDay, Cond.code yX8_isDay cX8_isDay 1 (some .boolean), Cond.methodLink RX8 159 yX8_couldSwap, Cond.instanceMethod yX8_couldSwap, Cond.selects RX8 yX8_couldSwap yX8_couldSwap, Cond.code yX8_couldSwap cX8_couldSwap 6 (some .boolean), Cond.fieldLink RX8 25 "CoverSheet" "rules" "LCoverSheet$Rules;"]
def wsL_swap_r2 : List Cond := [Cond.methodLink RX8 154 yX7_at, Cond.static yX7_at, Cond.initialized RX7, Cond.code yX7_at cX7_at 2 (some .int), Cond.methodLink RX7 9 yX7_placeOf, Cond.static yX7_placeOf, Cond.code yX7_placeOf cX7_placeOf 1 (some .int), Cond.methodLink RX8 144 yX7_with, Cond.static yX7_with, Cond.code yX7_with cX7_with 4 (some .int), Cond.methodLink RX8 148 yX4_canHave, Cond.instanceMethod yX4_canHave, Cond.selects RX4 yX4_canHave yX4_canHave, Cond.initialized RX4, Cond.code yX4_canHave cX4_canHave 7 (some .boolean), Cond.fieldLink RX4 41 "CoverSheet$Person" "lastEntry" "I", Cond.fieldLink RX4 44 "CoverSheet$Person" "daysInARow" "I", Cond.fieldLink RX4 15 "CoverSheet$Person" "most" "I", Cond.methodLink RX4 24 yX7_at, Cond.methodLink RX4 47 yX4_mayHave, Cond.instanceMethod yX4_mayHave, Cond.selects RX4 yX4_mayHave yX4_mayHave, Cond.code yX4_mayHave cX4_mayHave 4 (some .boolean), Cond.fieldLink RX4 9 "CoverSheet$Person" "skills" "I"]
def wsL_swap_r3 : List Cond := [Cond.methodLink RX4 37 yX4_fixedAt, Cond.instanceMethod yX4_fixedAt, Cond.selects RX4 yX4_fixedAt yX4_fixedAt, Cond.code yX4_fixedAt cX4_fixedAt 2 (some .int), Cond.fieldLink RX4 34 "CoverSheet$Person" "fixed" "I", Cond.methodLink RX4 50 yX6_allow, Cond.instanceMethod yX6_allow, Cond.selects RX6 yX6_allow yX6_allow, Cond.initialized RX6, Cond.code yX6_allow cX6_allow 4 (some .boolean), Cond.fieldLink RX6 19 "CoverSheet$Rules" "longestRun" "I", Cond.fieldLink RX6 15 "CoverSheet$Rules" "forbidden" "I", Cond.methodLink RX6 9 yX6_pairOf, Cond.static yX6_pairOf, Cond.code yX6_pairOf cX6_pairOf 2 (some .int), Cond.methodLink RX4 56 yX7_shiftsFrom, Cond.static yX7_shiftsFrom, Cond.code yX7_shiftsFrom cX7_shiftsFrom 4 (some .int), Cond.methodLink RX7 15 yX7_at, Cond.methodLink RX8 165 yX4_brokenWishes, Cond.instanceMethod yX4_brokenWishes, Cond.selects RX4 yX4_brokenWishes yX4_brokenWishes, Cond.code yX4_brokenWishes cX4_brokenWishes 3 (some .int), Cond.fieldLink RX4 21 "CoverSheet$Person" "week" "I"]
def wsL_swap_r4 : List Cond := [Cond.methodLink RX4 30 yX4_breaksWish, Cond.instanceMethod yX4_breaksWish, Cond.selects RX4 yX4_breaksWish yX4_breaksWish, Cond.code yX4_breaksWish cX4_breaksWish 3 (some .boolean), Cond.fieldLink RX4 18 "CoverSheet$Person" "wishes" "I"]
def wsL_swap : List Cond := .codeWith yL_swap cL_swap 6 (some .int) [(0, 12, 15, 21), (0, 12, 19, 15)] :: ((wsL_swap_r1 ++ (wsL_swap_r2 ++ (wsL_swap_r3 ++ wsL_swap_r4))) ++ wsX40 ++ wsX80 ++ wsX60 ++ (vx_atS RX8 82 "java/lang/IndexOutOfBoundsException" ["java/lang/RuntimeException", "java/lang/Exception"]).filter goodWord ++ (vx_atS RX8 67 "java/lang/IllegalStateException" ["java/lang/RuntimeException", "java/lang/Exception"]).filter goodWord)
def wsL_entry : List Cond := .codeWith yL_entry cL_entry 5 (some .int) [(0, 10, 13, 21)] :: ([.classLink RL 21 "java/lang/IndexOutOfBoundsException", .methodLink RL 43 yX8_entry, .instanceMethod yX8_entry, .selects RX8 yX8_entry yX8_entry, .initialized RX8, .code yX8_entry cX8_entry 4 (some .int), .classLink RX8 78 "java/lang/IndexOutOfBoundsException", .initialized "java/lang/IndexOutOfBoundsException", .methodLink RX8 104 yX8_personAt, .instanceMethod yX8_personAt, .selects RX8 yX8_personAt yX8_personAt, .code yX8_personAt cX8_personAt 2 (some (.object "CoverSheet$Person")), .fieldLink RX8 11 "CoverSheet" "team" "[LCoverSheet$Person;", .methodLink RX8 71 yX8_isDay, .static yX8_isDay, .code yX8_isDay cX8_isDay 1 (some .boolean), .methodLink RX8 154 yX7_at, .static yX7_at, .initialized RX7, .code yX7_at cX7_at 2 (some .int), .methodLink RX7 9 yX7_placeOf, .static yX7_placeOf, .code yX7_placeOf cX7_placeOf 1 (some .int)] ++ wsX40 ++ wsX80 ++ (vx_atS RX8 82 "java/lang/IndexOutOfBoundsException" ["java/lang/RuntimeException", "java/lang/Exception"]).filter goodWord)
def wsL_gap_r1 : List Cond := [Cond.classLink RL 21 "java/lang/IndexOutOfBoundsException", Cond.methodLink RL 46 yX8_gap, Cond.instanceMethod yX8_gap, Cond.selects RX8 yX8_gap yX8_gap, Cond.initialized RX8, Cond.code yX8_gap cX8_gap 3 (some .int), Cond.classLink RX8 78 "java/lang/IndexOutOfBoundsException", Cond.initialized "java/lang/IndexOutOfBoundsException", Cond.methodLink RX8 71 yX8_isDay, Cond.static yX8_isDay, Cond.code yX8_isDay cX8_isDay 1 (some .boolean), Cond.methodLink RX8 75 yX8_isKind, Cond.static yX8_isKind, Cond.code yX8_isKind cX8_isKind 1 (some .boolean), Cond.methodLink RX8 174 yX8_gapWithout, Cond.instanceMethod yX8_gapWithout, Cond.selects RX8 yX8_gapWithout yX8_gapWithout, Cond.code yX8_gapWithout cX8_gapWithout 9 (some .int), Cond.fieldLink RX8 18 "CoverSheet" "needs" "LCoverSheet$Needs;", Cond.fieldLink RX8 11 "CoverSheet" "team" "[LCoverSheet$Person;", Cond.methodLink RX8 196 Lib.Math.max.name, Cond.static Lib.Math.max.name, Cond.initialized "java/lang/Math", Cond.code Lib.Math.max.name Lib.Math.max.code 2 (some .int)]
def wsL_gap_r2 : List Cond := [Cond.methodLink RX8 85 yX3_of, Cond.instanceMethod yX3_of, Cond.selects RX3 yX3_of yX3_of, Cond.initialized RX3, Cond.code yX3_of cX3_of 4 (some .int), Cond.fieldLink RX3 9 "CoverSheet$Needs" "numbers" "[I", Cond.methodLink RX8 154 yX7_at, Cond.static yX7_at, Cond.initialized RX7, Cond.code yX7_at cX7_at 2 (some .int), Cond.methodLink RX7 9 yX7_placeOf, Cond.static yX7_placeOf, Cond.code yX7_placeOf cX7_placeOf 1 (some .int)]
def wsL_gap : List Cond := .codeWith yL_gap cL_gap 5 (some .int) [(0, 10, 13, 21)] :: ((wsL_gap_r1 ++ wsL_gap_r2) ++ wsX80 ++ wsX40 ++ wsX30 ++ (vx_atS RX8 82 "java/lang/IndexOutOfBoundsException" ["java/lang/RuntimeException", "java/lang/Exception"]).filter goodWord)
def wsL_shifts : List Cond := .codeWith yL_shifts cL_shifts 4 (some .int) [(0, 9, 12, 21)] :: ([.classLink RL 21 "java/lang/IndexOutOfBoundsException", .methodLink RL 49 yX8_shifts, .instanceMethod yX8_shifts, .selects RX8 yX8_shifts yX8_shifts, .initialized RX8, .code yX8_shifts cX8_shifts 3 (some .int), .classLink RX8 78 "java/lang/IndexOutOfBoundsException", .initialized "java/lang/IndexOutOfBoundsException", .methodLink RX8 104 yX8_personAt, .instanceMethod yX8_personAt, .selects RX8 yX8_personAt yX8_personAt, .code yX8_personAt cX8_personAt 2 (some (.object "CoverSheet$Person")), .fieldLink RX8 11 "CoverSheet" "team" "[LCoverSheet$Person;", .methodLink RX8 180 yX7_shiftsFrom, .static yX7_shiftsFrom, .initialized RX7, .code yX7_shiftsFrom cX7_shiftsFrom 4 (some .int), .methodLink RX7 15 yX7_at, .static yX7_at, .code yX7_at cX7_at 2 (some .int), .methodLink RX7 9 yX7_placeOf, .static yX7_placeOf, .code yX7_placeOf cX7_placeOf 1 (some .int)] ++ wsX40 ++ wsX80 ++ (vx_atS RX8 82 "java/lang/IndexOutOfBoundsException" ["java/lang/RuntimeException", "java/lang/Exception"]).filter goodWord)
def wsL_weekends : List Cond := .codeWith yL_weekends cL_weekends 4 (some .int) [(0, 9, 12, 21)] :: ([.classLink RL 21 "java/lang/IndexOutOfBoundsException", .methodLink RL 52 yX8_weekends, .instanceMethod yX8_weekends, .selects RX8 yX8_weekends yX8_weekends, .initialized RX8, .code yX8_weekends cX8_weekends 3 (some .int), .classLink RX8 78 "java/lang/IndexOutOfBoundsException", .initialized "java/lang/IndexOutOfBoundsException", .methodLink RX8 104 yX8_personAt, .instanceMethod yX8_personAt, .selects RX8 yX8_personAt yX8_personAt, .code yX8_personAt cX8_personAt 2 (some (.object "CoverSheet$Person")), .fieldLink RX8 11 "CoverSheet" "team" "[LCoverSheet$Person;"] ++ wsX40 ++ wsX80 ++ (vx_atS RX8 82 "java/lang/IndexOutOfBoundsException" ["java/lang/RuntimeException", "java/lang/Exception"]).filter goodWord)
def wsL_broken_r1 : List Cond := [Cond.classLink RL 21 "java/lang/IndexOutOfBoundsException", Cond.methodLink RL 55 yX8_broken, Cond.instanceMethod yX8_broken, Cond.selects RX8 yX8_broken yX8_broken, Cond.initialized RX8, Cond.code yX8_broken cX8_broken 3 (some .int), Cond.classLink RX8 78 "java/lang/IndexOutOfBoundsException", Cond.initialized "java/lang/IndexOutOfBoundsException", Cond.methodLink RX8 104 yX8_personAt, Cond.instanceMethod yX8_personAt, Cond.selects RX8 yX8_personAt yX8_personAt, Cond.code yX8_personAt cX8_personAt 2 (some (.object "CoverSheet$Person")), Cond.fieldLink RX8 11 "CoverSheet" "team" "[LCoverSheet$Person;", Cond.methodLink RX8 165 yX4_brokenWishes, Cond.instanceMethod yX4_brokenWishes, Cond.selects RX4 yX4_brokenWishes yX4_brokenWishes, Cond.initialized RX4, Cond.code yX4_brokenWishes cX4_brokenWishes 3 (some .int), Cond.fieldLink RX4 21 "CoverSheet$Person" "week" "I", Cond.methodLink RX4 24 yX7_at, Cond.static yX7_at, Cond.initialized RX7, Cond.code yX7_at cX7_at 2 (some .int), Cond.methodLink RX7 9 yX7_placeOf]
def wsL_broken_r2 : List Cond := [Cond.static yX7_placeOf, Cond.code yX7_placeOf cX7_placeOf 1 (some .int), Cond.methodLink RX4 30 yX4_breaksWish, Cond.instanceMethod yX4_breaksWish, Cond.selects RX4 yX4_breaksWish yX4_breaksWish, Cond.code yX4_breaksWish cX4_breaksWish 3 (some .boolean), Cond.fieldLink RX4 18 "CoverSheet$Person" "wishes" "I"]
def wsL_broken : List Cond := .codeWith yL_broken cL_broken 4 (some .int) [(0, 9, 12, 21)] :: ((wsL_broken_r1 ++ wsL_broken_r2) ++ wsX80 ++ wsX40 ++ (vx_atS RX8 82 "java/lang/IndexOutOfBoundsException" ["java/lang/RuntimeException", "java/lang/Exception"]).filter goodWord)
def wsL_runBefore : List Cond := .codeWith yL_runBefore cL_runBefore 4 (some .int) [(0, 9, 12, 21)] :: ([.classLink RL 21 "java/lang/IndexOutOfBoundsException", .methodLink RL 58 yX8_runBefore, .instanceMethod yX8_runBefore, .selects RX8 yX8_runBefore yX8_runBefore, .initialized RX8, .code yX8_runBefore cX8_runBefore 3 (some .int), .classLink RX8 78 "java/lang/IndexOutOfBoundsException", .initialized "java/lang/IndexOutOfBoundsException", .methodLink RX8 104 yX8_personAt, .instanceMethod yX8_personAt, .selects RX8 yX8_personAt yX8_personAt, .code yX8_personAt cX8_personAt 2 (some (.object "CoverSheet$Person")), .fieldLink RX8 11 "CoverSheet" "team" "[LCoverSheet$Person;"] ++ wsX40 ++ wsX80 ++ (vx_atS RX8 82 "java/lang/IndexOutOfBoundsException" ["java/lang/RuntimeException", "java/lang/Exception"]).filter goodWord)
def wsL_isFeasible_r1 : List Cond := [Cond.classLink RL 21 "java/lang/IndexOutOfBoundsException", Cond.methodLink RL 61 yX8_isFeasible, Cond.instanceMethod yX8_isFeasible, Cond.selects RX8 yX8_isFeasible yX8_isFeasible, Cond.initialized RX8, Cond.code yX8_isFeasible cX8_isFeasible 3 (some .boolean), Cond.classLink RX8 78 "java/lang/IndexOutOfBoundsException", Cond.initialized "java/lang/IndexOutOfBoundsException", Cond.fieldLink RX8 25 "CoverSheet" "rules" "LCoverSheet$Rules;", Cond.methodLink RX8 104 yX8_personAt, Cond.instanceMethod yX8_personAt, Cond.selects RX8 yX8_personAt yX8_personAt, Cond.code yX8_personAt cX8_personAt 2 (some (.object "CoverSheet$Person")), Cond.fieldLink RX8 11 "CoverSheet" "team" "[LCoverSheet$Person;", Cond.methodLink RX8 148 yX4_canHave, Cond.instanceMethod yX4_canHave, Cond.selects RX4 yX4_canHave yX4_canHave, Cond.initialized RX4, Cond.code yX4_canHave cX4_canHave 7 (some .boolean), Cond.fieldLink RX4 41 "CoverSheet$Person" "lastEntry" "I", Cond.fieldLink RX4 44 "CoverSheet$Person" "daysInARow" "I", Cond.fieldLink RX4 15 "CoverSheet$Person" "most" "I", Cond.methodLink RX4 24 yX7_at, Cond.static yX7_at]
def wsL_isFeasible_r2 : List Cond := [Cond.initialized RX7, Cond.code yX7_at cX7_at 2 (some .int), Cond.methodLink RX7 9 yX7_placeOf, Cond.static yX7_placeOf, Cond.code yX7_placeOf cX7_placeOf 1 (some .int), Cond.methodLink RX4 47 yX4_mayHave, Cond.instanceMethod yX4_mayHave, Cond.selects RX4 yX4_mayHave yX4_mayHave, Cond.code yX4_mayHave cX4_mayHave 4 (some .boolean), Cond.fieldLink RX4 9 "CoverSheet$Person" "skills" "I", Cond.methodLink RX4 37 yX4_fixedAt, Cond.instanceMethod yX4_fixedAt, Cond.selects RX4 yX4_fixedAt yX4_fixedAt, Cond.code yX4_fixedAt cX4_fixedAt 2 (some .int), Cond.fieldLink RX4 34 "CoverSheet$Person" "fixed" "I", Cond.methodLink RX4 50 yX6_allow, Cond.instanceMethod yX6_allow, Cond.selects RX6 yX6_allow yX6_allow, Cond.initialized RX6, Cond.code yX6_allow cX6_allow 4 (some .boolean), Cond.fieldLink RX6 19 "CoverSheet$Rules" "longestRun" "I", Cond.fieldLink RX6 15 "CoverSheet$Rules" "forbidden" "I", Cond.methodLink RX6 9 yX6_pairOf, Cond.static yX6_pairOf]
def wsL_isFeasible_r3 : List Cond := [Cond.code yX6_pairOf cX6_pairOf 2 (some .int), Cond.methodLink RX4 56 yX7_shiftsFrom, Cond.static yX7_shiftsFrom, Cond.code yX7_shiftsFrom cX7_shiftsFrom 4 (some .int), Cond.methodLink RX7 15 yX7_at]
def wsL_isFeasible : List Cond := .codeWith yL_isFeasible cL_isFeasible 4 (some .int) [(0, 16, 19, 21)] :: ((wsL_isFeasible_r1 ++ (wsL_isFeasible_r2 ++ wsL_isFeasible_r3)) ++ wsX40 ++ wsX80 ++ wsX60 ++ (vx_atS RX8 82 "java/lang/IndexOutOfBoundsException" ["java/lang/RuntimeException", "java/lang/Exception"]).filter goodWord)
def wsL_weeks_r1 : List Cond := [Cond.classLink RL 21 "java/lang/IndexOutOfBoundsException", Cond.methodLink RL 65 yX8_weeks, Cond.instanceMethod yX8_weeks, Cond.selects RX8 yX8_weeks yX8_weeks, Cond.initialized RX8, Cond.code yX8_weeks cX8_weeks 5 (some .int), Cond.classLink RX8 78 "java/lang/IndexOutOfBoundsException", Cond.initialized "java/lang/IndexOutOfBoundsException", Cond.fieldLink RX8 25 "CoverSheet" "rules" "LCoverSheet$Rules;", Cond.methodLink RX8 104 yX8_personAt, Cond.instanceMethod yX8_personAt, Cond.selects RX8 yX8_personAt yX8_personAt, Cond.code yX8_personAt cX8_personAt 2 (some (.object "CoverSheet$Person")), Cond.fieldLink RX8 11 "CoverSheet" "team" "[LCoverSheet$Person;", Cond.methodLink RX8 148 yX4_canHave, Cond.instanceMethod yX4_canHave, Cond.selects RX4 yX4_canHave yX4_canHave, Cond.initialized RX4, Cond.code yX4_canHave cX4_canHave 7 (some .boolean), Cond.fieldLink RX4 41 "CoverSheet$Person" "lastEntry" "I", Cond.fieldLink RX4 44 "CoverSheet$Person" "daysInARow" "I", Cond.fieldLink RX4 15 "CoverSheet$Person" "most" "I", Cond.methodLink RX4 24 yX7_at, Cond.static yX7_at]
def wsL_weeks_r2 : List Cond := [Cond.initialized RX7, Cond.code yX7_at cX7_at 2 (some .int), Cond.methodLink RX7 9 yX7_placeOf, Cond.static yX7_placeOf, Cond.code yX7_placeOf cX7_placeOf 1 (some .int), Cond.methodLink RX4 47 yX4_mayHave, Cond.instanceMethod yX4_mayHave, Cond.selects RX4 yX4_mayHave yX4_mayHave, Cond.code yX4_mayHave cX4_mayHave 4 (some .boolean), Cond.fieldLink RX4 9 "CoverSheet$Person" "skills" "I", Cond.methodLink RX4 37 yX4_fixedAt, Cond.instanceMethod yX4_fixedAt, Cond.selects RX4 yX4_fixedAt yX4_fixedAt, Cond.code yX4_fixedAt cX4_fixedAt 2 (some .int), Cond.fieldLink RX4 34 "CoverSheet$Person" "fixed" "I", Cond.methodLink RX4 50 yX6_allow, Cond.instanceMethod yX6_allow, Cond.selects RX6 yX6_allow yX6_allow, Cond.initialized RX6, Cond.code yX6_allow cX6_allow 4 (some .boolean), Cond.fieldLink RX6 19 "CoverSheet$Rules" "longestRun" "I", Cond.fieldLink RX6 15 "CoverSheet$Rules" "forbidden" "I", Cond.methodLink RX6 9 yX6_pairOf, Cond.static yX6_pairOf]
def wsL_weeks_r3 : List Cond := [Cond.code yX6_pairOf cX6_pairOf 2 (some .int), Cond.methodLink RX4 56 yX7_shiftsFrom, Cond.static yX7_shiftsFrom, Cond.code yX7_shiftsFrom cX7_shiftsFrom 4 (some .int), Cond.methodLink RX7 15 yX7_at]
def wsL_weeks : List Cond := .codeWith yL_weeks cL_weeks 4 (some .int) [(0, 9, 12, 21)] :: ((wsL_weeks_r1 ++ (wsL_weeks_r2 ++ wsL_weeks_r3)) ++ wsX80 ++ wsX40 ++ wsX60 ++ (vx_atS RX8 82 "java/lang/IndexOutOfBoundsException" ["java/lang/RuntimeException", "java/lang/Exception"]).filter goodWord)
def wsL_weeksByDays_r1 : List Cond := [Cond.classLink RL 21 "java/lang/IndexOutOfBoundsException", Cond.methodLink RL 68 yX8_weeksByDays, Cond.instanceMethod yX8_weeksByDays, Cond.selects RX8 yX8_weeksByDays yX8_weeksByDays, Cond.initialized RX8, Cond.code yX8_weeksByDays cX8_weeksByDays 3 (some .int), Cond.classLink RX8 78 "java/lang/IndexOutOfBoundsException", Cond.initialized "java/lang/IndexOutOfBoundsException", Cond.fieldLink RX8 32 "CoverSheet" "table" "LCoverSheet$DayTable;", Cond.fieldLink RX8 25 "CoverSheet" "rules" "LCoverSheet$Rules;", Cond.fieldLink RX8 39 "CoverSheet" "counting" "LCoverSheet$Counting;", Cond.methodLink RX8 104 yX8_personAt, Cond.instanceMethod yX8_personAt, Cond.selects RX8 yX8_personAt yX8_personAt, Cond.code yX8_personAt cX8_personAt 2 (some (.object "CoverSheet$Person")), Cond.fieldLink RX8 11 "CoverSheet" "team" "[LCoverSheet$Person;", Cond.methodLink RX8 189 yX1_through, Cond.instanceMethod yX1_through, Cond.selects RX1 yX1_through yX1_through, Cond.initialized RX1, Cond.code yX1_through cX1_through 12 (some .long), Cond.fieldLink RX1 11 "CoverSheet$DayTable" "values" "[J", Cond.methodLink RX1 36 Lib.Math.min.name, Cond.static Lib.Math.min.name]
def wsL_weeksByDays_r2 : List Cond := [Cond.initialized "java/lang/Math", Cond.code Lib.Math.min.name Lib.Math.min.code 2 (some .int), Cond.methodLink RX1 18 ⟨"CoverSheet$Measure", "none", "()J"⟩, Cond.sameMethod "CoverSheet$Measure" "CoverSheet$Measure" "none" "()J", Cond.selects RX0 ⟨"CoverSheet$Measure", "none", "()J"⟩ yX0_none, Cond.instanceMethod yX0_none, Cond.initialized RX0, Cond.code yX0_none cX0_none 1 (some .long), Cond.selects RX5 ⟨"CoverSheet$Measure", "none", "()J"⟩ yX5_none, Cond.instanceMethod yX5_none, Cond.initialized RX5, Cond.code yX5_none cX5_none 1 (some .long), Cond.constantLong RX5 41 (9223372036854775807), Cond.methodLink RX1 24 yJ7_fill_d0a16, Cond.static yJ7_fill_d0a16, Cond.initialized RJ7, Cond.code yJ7_fill_d0a16 cJ7_fill_d0a16 5 none, Cond.methodLink RX1 45 yX1_placeOf, Cond.static yX1_placeOf, Cond.code yX1_placeOf cX1_placeOf 3 (some .int), Cond.methodLink RX1 49 ⟨"CoverSheet$Measure", "start", "()J"⟩, Cond.sameMethod "CoverSheet$Measure" "CoverSheet$Measure" "start" "()J", Cond.selects RX0 ⟨"CoverSheet$Measure", "start", "()J"⟩ yX0_start, Cond.instanceMethod yX0_start]
def wsL_weeksByDays_r3 : List Cond := [Cond.code yX0_start cX0_start 1 (some .long), Cond.selects RX5 ⟨"CoverSheet$Measure", "start", "()J"⟩ yX5_start, Cond.instanceMethod yX5_start, Cond.code yX5_start cX5_start 1 (some .long), Cond.methodLink RX1 52 yX1_goOn, Cond.instanceMethod yX1_goOn, Cond.selects RX1 yX1_goOn yX1_goOn, Cond.code yX1_goOn cX1_goOn 16 none, Cond.fieldLink RX1 15 "CoverSheet$DayTable" "nextValues" "[J", Cond.methodLink RX1 63 yX4_mayHave, Cond.instanceMethod yX4_mayHave, Cond.selects RX4 yX4_mayHave yX4_mayHave, Cond.initialized RX4, Cond.code yX4_mayHave cX4_mayHave 4 (some .boolean), Cond.fieldLink RX4 9 "CoverSheet$Person" "skills" "I", Cond.methodLink RX4 37 yX4_fixedAt, Cond.instanceMethod yX4_fixedAt, Cond.selects RX4 yX4_fixedAt yX4_fixedAt, Cond.code yX4_fixedAt cX4_fixedAt 2 (some .int), Cond.fieldLink RX4 34 "CoverSheet$Person" "fixed" "I", Cond.methodLink RX1 67 yX6_allow, Cond.instanceMethod yX6_allow, Cond.selects RX6 yX6_allow yX6_allow, Cond.initialized RX6]
def wsL_weeksByDays_r4 : List Cond := [Cond.code yX6_allow cX6_allow 4 (some .boolean), Cond.fieldLink RX6 19 "CoverSheet$Rules" "longestRun" "I", Cond.fieldLink RX6 15 "CoverSheet$Rules" "forbidden" "I", Cond.methodLink RX6 9 yX6_pairOf, Cond.static yX6_pairOf, Cond.code yX6_pairOf cX6_pairOf 2 (some .int), Cond.methodLink RX1 73 ⟨"CoverSheet$Measure", "longer", "(JII)J"⟩, Cond.sameMethod "CoverSheet$Measure" "CoverSheet$Measure" "longer" "(JII)J", Cond.selects RX0 ⟨"CoverSheet$Measure", "longer", "(JII)J"⟩ yX0_longer, Cond.instanceMethod yX0_longer, Cond.code yX0_longer cX0_longer 5 (some .long), Cond.selects RX5 ⟨"CoverSheet$Measure", "longer", "(JII)J"⟩ yX5_longer, Cond.instanceMethod yX5_longer, Cond.code yX5_longer cX5_longer 6 (some .long), Cond.fieldLink RX5 15 "CoverSheet$Pricing" "prices" "[J", Cond.methodLink RX1 56 ⟨"CoverSheet$Measure", "joined", "(JJ)J"⟩, Cond.sameMethod "CoverSheet$Measure" "CoverSheet$Measure" "joined" "(JJ)J", Cond.selects RX0 ⟨"CoverSheet$Measure", "joined", "(JJ)J"⟩ yX0_joined, Cond.instanceMethod yX0_joined, Cond.code yX0_joined cX0_joined 5 (some .long), Cond.selects RX5 ⟨"CoverSheet$Measure", "joined", "(JJ)J"⟩ yX5_joined, Cond.instanceMethod yX5_joined, Cond.code yX5_joined cX5_joined 5 (some .long), Cond.methodLink RX5 45 Lib.MathLoose.min_long.x]
def wsL_weeksByDays_r5 : List Cond := [Cond.static Lib.MathLoose.min_long.x, Cond.code Lib.MathLoose.min_long.x Lib.MathLoose.min_long.code 4 (some .long)]
def wsL_weeksByDays : List Cond := .codeWith yL_weeksByDays cL_weeksByDays 4 (some .int) [(0, 9, 12, 21)] :: ((wsL_weeksByDays_r1 ++ (wsL_weeksByDays_r2 ++ (wsL_weeksByDays_r3 ++ (wsL_weeksByDays_r4 ++ wsL_weeksByDays_r5)))) ++ wsX80 ++ wsX10 ++ wsX40 ++ wsX60 ++ wsX50 ++ (vx_atS RX8 82 "java/lang/IndexOutOfBoundsException" ["java/lang/RuntimeException", "java/lang/Exception"]).filter goodWord)
def wsL_couldTake_r1 : List Cond := [Cond.classLink RL 21 "java/lang/IndexOutOfBoundsException", Cond.methodLink RL 71 yX8_couldTake, Cond.instanceMethod yX8_couldTake, Cond.selects RX8 yX8_couldTake yX8_couldTake, Cond.initialized RX8, Cond.code yX8_couldTake cX8_couldTake 6 (some .int), Cond.classLink RX8 78 "java/lang/IndexOutOfBoundsException", Cond.initialized "java/lang/IndexOutOfBoundsException", Cond.fieldLink RX8 59 "CoverSheet" "teamSize" "I", Cond.fieldLink RX8 25 "CoverSheet" "rules" "LCoverSheet$Rules;", Cond.methodLink RX8 71 yX8_isDay, Cond.static yX8_isDay, Cond.code yX8_isDay cX8_isDay 1 (some .boolean), Cond.methodLink RX8 75 yX8_isKind, Cond.static yX8_isKind, Cond.code yX8_isKind cX8_isKind 1 (some .boolean), Cond.methodLink RX8 104 yX8_personAt, Cond.instanceMethod yX8_personAt, Cond.selects RX8 yX8_personAt yX8_personAt, Cond.code yX8_personAt cX8_personAt 2 (some (.object "CoverSheet$Person")), Cond.fieldLink RX8 11 "CoverSheet" "team" "[LCoverSheet$Person;", Cond.methodLink RX8 154 yX7_at, Cond.static yX7_at, Cond.initialized RX7]
def wsL_couldTake_r2 : List Cond := [Cond.code yX7_at cX7_at 2 (some .int), Cond.methodLink RX7 9 yX7_placeOf, Cond.static yX7_placeOf, Cond.code yX7_placeOf cX7_placeOf 1 (some .int), Cond.methodLink RX8 144 yX7_with, Cond.static yX7_with, Cond.code yX7_with cX7_with 4 (some .int), Cond.methodLink RX8 148 yX4_canHave, Cond.instanceMethod yX4_canHave, Cond.selects RX4 yX4_canHave yX4_canHave, Cond.initialized RX4, Cond.code yX4_canHave cX4_canHave 7 (some .boolean), Cond.fieldLink RX4 41 "CoverSheet$Person" "lastEntry" "I", Cond.fieldLink RX4 44 "CoverSheet$Person" "daysInARow" "I", Cond.fieldLink RX4 15 "CoverSheet$Person" "most" "I", Cond.methodLink RX4 24 yX7_at, Cond.methodLink RX4 47 yX4_mayHave, Cond.instanceMethod yX4_mayHave, Cond.selects RX4 yX4_mayHave yX4_mayHave, Cond.code yX4_mayHave cX4_mayHave 4 (some .boolean), Cond.fieldLink RX4 9 "CoverSheet$Person" "skills" "I", Cond.methodLink RX4 37 yX4_fixedAt, Cond.instanceMethod yX4_fixedAt, Cond.selects RX4 yX4_fixedAt yX4_fixedAt]
def wsL_couldTake_r3 : List Cond := [Cond.code yX4_fixedAt cX4_fixedAt 2 (some .int), Cond.fieldLink RX4 34 "CoverSheet$Person" "fixed" "I", Cond.methodLink RX4 50 yX6_allow, Cond.instanceMethod yX6_allow, Cond.selects RX6 yX6_allow yX6_allow, Cond.initialized RX6, Cond.code yX6_allow cX6_allow 4 (some .boolean), Cond.fieldLink RX6 19 "CoverSheet$Rules" "longestRun" "I", Cond.fieldLink RX6 15 "CoverSheet$Rules" "forbidden" "I", Cond.methodLink RX6 9 yX6_pairOf, Cond.static yX6_pairOf, Cond.code yX6_pairOf cX6_pairOf 2 (some .int), Cond.methodLink RX4 56 yX7_shiftsFrom, Cond.static yX7_shiftsFrom, Cond.code yX7_shiftsFrom cX7_shiftsFrom 4 (some .int), Cond.methodLink RX7 15 yX7_at]
def wsL_couldTake : List Cond := .codeWith yL_couldTake cL_couldTake 5 (some .int) [(0, 10, 13, 21)] :: ((wsL_couldTake_r1 ++ (wsL_couldTake_r2 ++ wsL_couldTake_r3)) ++ wsX80 ++ wsX40 ++ wsX60 ++ (vx_atS RX8 82 "java/lang/IndexOutOfBoundsException" ["java/lang/RuntimeException", "java/lang/Exception"]).filter goodWord)
def wsL_swapFor_r1 : List Cond := [Cond.classLink RL 21 "java/lang/IndexOutOfBoundsException", Cond.methodLink RL 74 yX8_swapFor, Cond.instanceMethod yX8_swapFor, Cond.selects RX8 yX8_swapFor yX8_swapFor, Cond.initialized RX8, Cond.code yX8_swapFor cX8_swapFor 9 (some .int), Cond.classLink RX8 78 "java/lang/IndexOutOfBoundsException", Cond.initialized "java/lang/IndexOutOfBoundsException", Cond.fieldLink RX8 59 "CoverSheet" "teamSize" "I", Cond.methodLink RX8 104 yX8_personAt, Cond.instanceMethod yX8_personAt, Cond.selects RX8 yX8_personAt yX8_personAt, Cond.code yX8_personAt cX8_personAt 2 (some (.object "CoverSheet$Person")), Cond.fieldLink RX8 11 "CoverSheet" "team" "[LCoverSheet$Person;", Cond.methodLink RX8 71 yX8_isDay, Cond.static yX8_isDay, Cond.code yX8_isDay cX8_isDay 1 (some .boolean), Cond.methodLink RX8 154 yX7_at, Cond.static yX7_at, Cond.initialized RX7, Cond.code yX7_at cX7_at 2 (some .int), Cond.methodLink RX7 9 yX7_placeOf, Cond.static yX7_placeOf, Cond.code yX7_placeOf cX7_placeOf 1 (some .int)]
def wsL_swapFor_r2 : List Cond := [Cond.methodLink RX8 180 yX7_shiftsFrom, Cond.static yX7_shiftsFrom, Cond.code yX7_shiftsFrom cX7_shiftsFrom 4 (some .int), Cond.methodLink RX7 15 yX7_at, Cond.methodLink RX8 159 yX8_couldSwap, Cond.instanceMethod yX8_couldSwap, Cond.selects RX8 yX8_couldSwap yX8_couldSwap, Cond.code yX8_couldSwap cX8_couldSwap 6 (some .boolean), Cond.fieldLink RX8 25 "CoverSheet" "rules" "LCoverSheet$Rules;", Cond.methodLink RX8 144 yX7_with, Cond.static yX7_with, Cond.code yX7_with cX7_with 4 (some .int), Cond.methodLink RX8 148 yX4_canHave, Cond.instanceMethod yX4_canHave, Cond.selects RX4 yX4_canHave yX4_canHave, Cond.initialized RX4, Cond.code yX4_canHave cX4_canHave 7 (some .boolean), Cond.fieldLink RX4 41 "CoverSheet$Person" "lastEntry" "I", Cond.fieldLink RX4 44 "CoverSheet$Person" "daysInARow" "I", Cond.fieldLink RX4 15 "CoverSheet$Person" "most" "I", Cond.methodLink RX4 24 yX7_at, Cond.methodLink RX4 47 yX4_mayHave, Cond.instanceMethod yX4_mayHave, Cond.selects RX4 yX4_mayHave yX4_mayHave]
def wsL_swapFor_r3 : List Cond := [Cond.code yX4_mayHave cX4_mayHave 4 (some .boolean), Cond.fieldLink RX4 9 "CoverSheet$Person" "skills" "I", Cond.methodLink RX4 37 yX4_fixedAt, Cond.instanceMethod yX4_fixedAt, Cond.selects RX4 yX4_fixedAt yX4_fixedAt, Cond.code yX4_fixedAt cX4_fixedAt 2 (some .int), Cond.fieldLink RX4 34 "CoverSheet$Person" "fixed" "I", Cond.methodLink RX4 50 yX6_allow, Cond.instanceMethod yX6_allow, Cond.selects RX6 yX6_allow yX6_allow, Cond.initialized RX6, Cond.code yX6_allow cX6_allow 4 (some .boolean), Cond.fieldLink RX6 19 "CoverSheet$Rules" "longestRun" "I", Cond.fieldLink RX6 15 "CoverSheet$Rules" "forbidden" "I", Cond.methodLink RX6 9 yX6_pairOf, Cond.static yX6_pairOf, Cond.code yX6_pairOf cX6_pairOf 2 (some .int), Cond.methodLink RX4 56 yX7_shiftsFrom]
def wsL_swapFor : List Cond := .codeWith yL_swapFor cL_swapFor 5 (some .int) [(0, 10, 13, 21)] :: ((wsL_swapFor_r1 ++ (wsL_swapFor_r2 ++ wsL_swapFor_r3)) ++ wsX80 ++ wsX40 ++ wsX60 ++ (vx_atS RX8 82 "java/lang/IndexOutOfBoundsException" ["java/lang/RuntimeException", "java/lang/Exception"]).filter goodWord)
end
section
def wsL_law0_r1 : List Cond := [Cond.classLink RL 8 RX8, Cond.instantiable RX8 9, Cond.initialized RX8, Cond.classLink RL 78 RX9, Cond.instantiable RX9 15, Cond.initialized RX9, Cond.arrayClass .long, Cond.methodLink RL 77 yX8_init, Cond.instanceMethod yX8_init, Cond.code yX8_init cX8_init 1 none, Cond.methodLink RX8 3 objectInit, Cond.instanceMethod objectInit, Cond.code objectInit ⟨#[0xb1]⟩ 1 none, Cond.classLink RX8 9 RX4, Cond.fieldLink RX8 11 "CoverSheet" "team" "[LCoverSheet$Person;", Cond.classLink RX8 15 RX3, Cond.instantiable RX3 1, Cond.initialized RX3, Cond.fieldLink RX8 18 "CoverSheet" "needs" "LCoverSheet$Needs;", Cond.classLink RX8 22 RX6, Cond.instantiable RX6 2, Cond.initialized RX6, Cond.fieldLink RX8 25 "CoverSheet" "rules" "LCoverSheet$Rules;", Cond.classLink RX8 29 RX1]
def wsL_law0_r2 : List Cond := [Cond.instantiable RX1 2, Cond.initialized RX1, Cond.fieldLink RX8 32 "CoverSheet" "table" "LCoverSheet$DayTable;", Cond.classLink RX8 36 RX0, Cond.instantiable RX0 0, Cond.initialized RX0, Cond.fieldLink RX8 39 "CoverSheet" "counting" "LCoverSheet$Counting;", Cond.classLink RX8 43 RX5, Cond.instantiable RX5 1, Cond.initialized RX5, Cond.fieldLink RX8 46 "CoverSheet" "pricing" "LCoverSheet$Pricing;", Cond.instanceMethod yX3_init, Cond.code yX3_init cX3_init 1 none, Cond.methodLink RX3 3 objectInit, Cond.arrayClass .int, Cond.fieldLink RX3 9 "CoverSheet$Needs" "numbers" "[I", Cond.instanceMethod yX6_init, Cond.code yX6_init cX6_init 1 none, Cond.methodLink RX6 3 objectInit, Cond.fieldLink RX6 15 "CoverSheet$Rules" "forbidden" "I", Cond.fieldLink RX6 19 "CoverSheet$Rules" "longestRun" "I", Cond.methodLink RX6 9 yX6_pairOf, Cond.static yX6_pairOf, Cond.code yX6_pairOf cX6_pairOf 2 (some .int)]
def wsL_law0_r3 : List Cond := [Cond.instanceMethod yX1_init, Cond.code yX1_init cX1_init 1 none, Cond.methodLink RX1 5 objectInit, Cond.fieldLink RX1 11 "CoverSheet$DayTable" "values" "[J", Cond.fieldLink RX1 15 "CoverSheet$DayTable" "nextValues" "[J", Cond.instanceMethod yX0_init, Cond.code yX0_init cX0_init 1 none, Cond.instanceMethod yX2_init, Cond.initialized RX2, Cond.code yX2_init cX2_init 1 none, Cond.methodLink RX2 1 objectInit, Cond.instanceMethod yX5_init, Cond.code yX5_init cX5_init 1 none, Cond.fieldLink RX5 15 "CoverSheet$Pricing" "prices" "[J", Cond.methodLink RL 80 yX9_init, Cond.instanceMethod yX9_init, Cond.code yX9_init cX9_init 1 none, Cond.methodLink RX9 1 objectInit, Cond.fieldLink RX9 7 "CoverSheetModel" "run" "I", Cond.fieldLink RX9 13 "CoverSheetModel" "skills" "[I", Cond.fieldLink RX9 17 "CoverSheetModel" "most" "[I", Cond.fieldLink RX9 20 "CoverSheetModel" "need" "[I", Cond.fieldLink RX9 23 "CoverSheetModel" "barred" "[I", Cond.fieldLink RX9 26 "CoverSheetModel" "entries" "[I"]
def wsL_law0_r4 : List Cond := [Cond.fieldLink RX9 29 "CoverSheetModel" "fixed" "[I", Cond.fieldLink RX9 32 "CoverSheetModel" "wished" "[I", Cond.fieldLink RX9 35 "CoverSheetModel" "last" "[I", Cond.fieldLink RX9 38 "CoverSheetModel" "before" "[I", Cond.fieldLink RX9 41 "CoverSheetModel" "ends" "[I", Cond.methodLink RL 81 yL_addPerson, Cond.static yL_addPerson, Cond.initialized RL, Cond.codeWith yL_addPerson cL_addPerson 5 (some .int) [(0, 10, 13, 13), (0, 10, 17, 15)], Cond.classLink RL 13 "java/lang/IllegalArgumentException", Cond.classLink RL 15 "java/lang/IllegalStateException", Cond.methodLink RL 7 yX8_addPerson, Cond.instanceMethod yX8_addPerson, Cond.selects RX8 yX8_addPerson yX8_addPerson, Cond.code yX8_addPerson cX8_addPerson 3 (some .int), Cond.classLink RX8 50 "java/lang/IllegalArgumentException", Cond.initialized "java/lang/IllegalArgumentException", Cond.classLink RX8 63 "java/lang/IllegalStateException", Cond.initialized "java/lang/IllegalStateException", Cond.fieldLink RX8 59 "CoverSheet" "teamSize" "I", Cond.instantiable RX4 8, Cond.initialized RX4, Cond.instanceMethod yX4_init, Cond.code yX4_init cX4_init 3 none]
def wsL_law0_r5 : List Cond := [Cond.methodLink RX4 3 objectInit, Cond.fieldLink RX4 9 "CoverSheet$Person" "skills" "I", Cond.fieldLink RX4 15 "CoverSheet$Person" "most" "I", Cond.methodLink RL 86 yX9_addPerson, Cond.instanceMethod yX9_addPerson, Cond.selects RX9 yX9_addPerson yX9_addPerson, Cond.code yX9_addPerson cX9_addPerson 4 (some .int), Cond.fieldLink RX9 44 "CoverSheetModel" "thrown" "I", Cond.fieldLink RX9 47 "CoverSheetModel" "many" "I", Cond.methodLink RX9 50 yX9_in, Cond.static yX9_in, Cond.code yX9_in cX9_in 3 (some .boolean), Cond.methodLink RX9 66 yX9_fails, Cond.instanceMethod yX9_fails, Cond.selects RX9 yX9_fails yX9_fails, Cond.code yX9_fails cX9_fails 2 (some .int), Cond.methodLink RL 87 yX9_thrown, Cond.instanceMethod yX9_thrown, Cond.selects RX9 yX9_thrown yX9_thrown, Cond.code yX9_thrown cX9_thrown 1 (some .int), Cond.methodLink RL 91 yL_setNeed, Cond.static yL_setNeed, Cond.codeWith yL_setNeed cL_setNeed 6 (some .int) [(0, 12, 15, 21), (0, 12, 19, 13)], Cond.classLink RL 21 "java/lang/IndexOutOfBoundsException"]
def wsL_law0_r6 : List Cond := [Cond.methodLink RL 17 yX8_setNeed, Cond.instanceMethod yX8_setNeed, Cond.selects RX8 yX8_setNeed yX8_setNeed, Cond.code yX8_setNeed cX8_setNeed 5 (some .int), Cond.classLink RX8 78 "java/lang/IndexOutOfBoundsException", Cond.initialized "java/lang/IndexOutOfBoundsException", Cond.methodLink RX8 71 yX8_isDay, Cond.static yX8_isDay, Cond.code yX8_isDay cX8_isDay 1 (some .boolean), Cond.methodLink RX8 75 yX8_isKind, Cond.static yX8_isKind, Cond.code yX8_isKind cX8_isKind 1 (some .boolean), Cond.methodLink RX8 85 yX3_of, Cond.instanceMethod yX3_of, Cond.selects RX3 yX3_of yX3_of, Cond.code yX3_of cX3_of 4 (some .int), Cond.methodLink RX8 89 yX3_put, Cond.instanceMethod yX3_put, Cond.selects RX3 yX3_put yX3_put, Cond.code yX3_put cX3_put 5 none, Cond.methodLink RL 94 yX9_setNeed, Cond.instanceMethod yX9_setNeed, Cond.selects RX9 yX9_setNeed yX9_setNeed, Cond.code yX9_setNeed cX9_setNeed 5 (some .int)]
def wsL_law0_r7 : List Cond := [Cond.methodLink RX9 69 yX9_isDay, Cond.static yX9_isDay, Cond.code yX9_isDay cX9_isDay 1 (some .boolean), Cond.methodLink RX9 72 yX9_isKind, Cond.static yX9_isKind, Cond.code yX9_isKind cX9_isKind 1 (some .boolean), Cond.methodLink RL 95 yL_forbid, Cond.static yL_forbid, Cond.codeWith yL_forbid cL_forbid 6 (some .int) [(0, 19, 22, 21)], Cond.methodLink RL 23 yX8_forbid, Cond.instanceMethod yX8_forbid, Cond.selects RX8 yX8_forbid yX8_forbid, Cond.code yX8_forbid cX8_forbid 4 (some .boolean), Cond.methodLink RX8 95 yX6_changeFollowing, Cond.instanceMethod yX6_changeFollowing, Cond.selects RX6 yX6_changeFollowing yX6_changeFollowing, Cond.code yX6_changeFollowing cX6_changeFollowing 5 (some .boolean), Cond.methodLink RL 98 yX9_forbid, Cond.instanceMethod yX9_forbid, Cond.selects RX9 yX9_forbid yX9_forbid, Cond.code yX9_forbid cX9_forbid 6 (some .boolean), Cond.methodLink RL 99 yL_setRun, Cond.static yL_setRun, Cond.codeWith yL_setRun cL_setRun 4 (some .int) [(0, 9, 12, 13)]]
def wsL_law0_r8 : List Cond := [Cond.methodLink RL 27 yX8_setRun, Cond.instanceMethod yX8_setRun, Cond.selects RX8 yX8_setRun yX8_setRun, Cond.code yX8_setRun cX8_setRun 3 (some .int), Cond.methodLink RL 102 yX9_setRun, Cond.instanceMethod yX9_setRun, Cond.selects RX9 yX9_setRun yX9_setRun, Cond.code yX9_setRun cX9_setRun 3 (some .int), Cond.methodLink RL 103 yL_wish, Cond.static yL_wish, Cond.codeWith yL_wish cL_wish 6 (some .int) [(0, 19, 22, 21)], Cond.methodLink RL 31 yX8_wish, Cond.instanceMethod yX8_wish, Cond.selects RX8 yX8_wish yX8_wish, Cond.code yX8_wish cX8_wish 5 (some .boolean), Cond.methodLink RX8 104 yX8_personAt, Cond.instanceMethod yX8_personAt, Cond.selects RX8 yX8_personAt yX8_personAt, Cond.code yX8_personAt cX8_personAt 2 (some (.object "CoverSheet$Person")), Cond.methodLink RX8 110 yX4_changeWish, Cond.instanceMethod yX4_changeWish, Cond.selects RX4 yX4_changeWish yX4_changeWish, Cond.code yX4_changeWish cX4_changeWish 4 (some .boolean), Cond.fieldLink RX4 18 "CoverSheet$Person" "wishes" "I"]
def wsL_law0_r9 : List Cond := [Cond.methodLink RL 105 yX9_wish, Cond.instanceMethod yX9_wish, Cond.selects RX9 yX9_wish yX9_wish, Cond.code yX9_wish cX9_wish 5 (some .boolean), Cond.methodLink RX9 54 yX9_isPerson, Cond.instanceMethod yX9_isPerson, Cond.selects RX9 yX9_isPerson yX9_isPerson, Cond.code yX9_isPerson cX9_isPerson 2 (some .boolean), Cond.methodLink RL 106 yL_fix, Cond.static yL_fix, Cond.codeWith yL_fix cL_fix 6 (some .int) [(0, 12, 15, 21), (0, 12, 19, 13)], Cond.methodLink RL 34 yX8_fix, Cond.instanceMethod yX8_fix, Cond.selects RX8 yX8_fix yX8_fix, Cond.code yX8_fix cX8_fix 6 (some .int), Cond.methodLink RX8 114 yX8_isEntry, Cond.static yX8_isEntry, Cond.code yX8_isEntry cX8_isEntry 1 (some .boolean), Cond.methodLink RX8 119 yX4_fixedAt, Cond.instanceMethod yX4_fixedAt, Cond.selects RX4 yX4_fixedAt yX4_fixedAt, Cond.code yX4_fixedAt cX4_fixedAt 2 (some .int), Cond.fieldLink RX4 34 "CoverSheet$Person" "fixed" "I", Cond.methodLink RX8 123 yX4_changeFixed]
def wsL_law0_r10 : List Cond := [Cond.instanceMethod yX4_changeFixed, Cond.selects RX4 yX4_changeFixed yX4_changeFixed, Cond.code yX4_changeFixed cX4_changeFixed 4 none, Cond.methodLink RL 108 yX9_fix, Cond.instanceMethod yX9_fix, Cond.selects RX9 yX9_fix yX9_fix, Cond.code yX9_fix cX9_fix 5 (some .int), Cond.methodLink RL 109 yX8_plan, Cond.instanceMethod yX8_plan, Cond.selects RX8 yX8_plan yX8_plan, Cond.code yX8_plan cX8_plan 5 (some .int), Cond.fieldLink RX8 135 "CoverSheet" "lastRounds" "I", Cond.methodLink RX8 131 yX8_planRound, Cond.instanceMethod yX8_planRound, Cond.selects RX8 yX8_planRound yX8_planRound, Cond.code yX8_planRound cX8_planRound 7 (some .boolean), Cond.methodLink RX8 207 yX8_chosenWeek, Cond.instanceMethod yX8_chosenWeek, Cond.selects RX8 yX8_chosenWeek yX8_chosenWeek, Cond.code yX8_chosenWeek cX8_chosenWeek 5 (some .int), Cond.methodLink RX8 174 yX8_gapWithout, Cond.instanceMethod yX8_gapWithout, Cond.selects RX8 yX8_gapWithout yX8_gapWithout, Cond.code yX8_gapWithout cX8_gapWithout 9 (some .int)]
def wsL_law0_r11 : List Cond := [Cond.methodLink RX8 196 Lib.Math.max.name, Cond.static Lib.Math.max.name, Cond.initialized "java/lang/Math", Cond.code Lib.Math.max.name Lib.Math.max.code 2 (some .int), Cond.methodLink RX8 154 yX7_at, Cond.static yX7_at, Cond.initialized RX7, Cond.code yX7_at cX7_at 2 (some .int), Cond.methodLink RX7 9 yX7_placeOf, Cond.static yX7_placeOf, Cond.code yX7_placeOf cX7_placeOf 1 (some .int), Cond.methodLink RX8 211 yX5_priceOf, Cond.static yX5_priceOf, Cond.code yX5_priceOf cX5_priceOf 6 (some .long), Cond.constantLong RX5 23 (4503599627370496), Cond.constantLong RX5 25 (562949953421312), Cond.constantLong RX5 27 (131072), Cond.constantLong RX5 39 (16384), Cond.methodLink RX5 19 yX7_with, Cond.static yX7_with, Cond.code yX7_with cX7_with 4 (some .int), Cond.methodLink RX5 35 yX4_breaksWish, Cond.instanceMethod yX4_breaksWish, Cond.selects RX4 yX4_breaksWish yX4_breaksWish]
def wsL_law0_r12 : List Cond := [Cond.code yX4_breaksWish cX4_breaksWish 3 (some .boolean), Cond.methodLink RX8 215 yX5_put, Cond.instanceMethod yX5_put, Cond.selects RX5 yX5_put yX5_put, Cond.code yX5_put cX5_put 6 none, Cond.methodLink RX8 189 yX1_through, Cond.instanceMethod yX1_through, Cond.selects RX1 yX1_through yX1_through, Cond.code yX1_through cX1_through 12 (some .long), Cond.methodLink RX1 36 Lib.Math.min.name, Cond.static Lib.Math.min.name, Cond.code Lib.Math.min.name Lib.Math.min.code 2 (some .int), Cond.methodLink RX1 18 ⟨"CoverSheet$Measure", "none", "()J"⟩, Cond.sameMethod "CoverSheet$Measure" "CoverSheet$Measure" "none" "()J", Cond.selects RX0 ⟨"CoverSheet$Measure", "none", "()J"⟩ yX0_none, Cond.instanceMethod yX0_none, Cond.code yX0_none cX0_none 1 (some .long), Cond.selects RX5 ⟨"CoverSheet$Measure", "none", "()J"⟩ yX5_none, Cond.instanceMethod yX5_none, Cond.code yX5_none cX5_none 1 (some .long), Cond.constantLong RX5 41 (9223372036854775807), Cond.methodLink RX1 24 yJ7_fill_d0a16, Cond.static yJ7_fill_d0a16, Cond.initialized RJ7]
def wsL_law0_r13 : List Cond := [Cond.code yJ7_fill_d0a16 cJ7_fill_d0a16 5 none, Cond.methodLink RX1 45 yX1_placeOf, Cond.static yX1_placeOf, Cond.code yX1_placeOf cX1_placeOf 3 (some .int), Cond.methodLink RX1 49 ⟨"CoverSheet$Measure", "start", "()J"⟩, Cond.sameMethod "CoverSheet$Measure" "CoverSheet$Measure" "start" "()J", Cond.selects RX0 ⟨"CoverSheet$Measure", "start", "()J"⟩ yX0_start, Cond.instanceMethod yX0_start, Cond.code yX0_start cX0_start 1 (some .long), Cond.selects RX5 ⟨"CoverSheet$Measure", "start", "()J"⟩ yX5_start, Cond.instanceMethod yX5_start, Cond.code yX5_start cX5_start 1 (some .long), Cond.methodLink RX1 52 yX1_goOn, Cond.instanceMethod yX1_goOn, Cond.selects RX1 yX1_goOn yX1_goOn, Cond.code yX1_goOn cX1_goOn 16 none, Cond.methodLink RX1 63 yX4_mayHave, Cond.instanceMethod yX4_mayHave, Cond.selects RX4 yX4_mayHave yX4_mayHave, Cond.code yX4_mayHave cX4_mayHave 4 (some .boolean), Cond.methodLink RX4 37 yX4_fixedAt, Cond.methodLink RX1 67 yX6_allow, Cond.instanceMethod yX6_allow, Cond.selects RX6 yX6_allow yX6_allow]
def wsL_law0_r14 : List Cond := [Cond.code yX6_allow cX6_allow 4 (some .boolean), Cond.methodLink RX1 73 ⟨"CoverSheet$Measure", "longer", "(JII)J"⟩, Cond.sameMethod "CoverSheet$Measure" "CoverSheet$Measure" "longer" "(JII)J", Cond.selects RX0 ⟨"CoverSheet$Measure", "longer", "(JII)J"⟩ yX0_longer, Cond.instanceMethod yX0_longer, Cond.code yX0_longer cX0_longer 5 (some .long), Cond.selects RX5 ⟨"CoverSheet$Measure", "longer", "(JII)J"⟩ yX5_longer, Cond.instanceMethod yX5_longer, Cond.code yX5_longer cX5_longer 6 (some .long), Cond.methodLink RX1 56 ⟨"CoverSheet$Measure", "joined", "(JJ)J"⟩, Cond.sameMethod "CoverSheet$Measure" "CoverSheet$Measure" "joined" "(JJ)J", Cond.selects RX0 ⟨"CoverSheet$Measure", "joined", "(JJ)J"⟩ yX0_joined, Cond.instanceMethod yX0_joined, Cond.code yX0_joined cX0_joined 5 (some .long), Cond.selects RX5 ⟨"CoverSheet$Measure", "joined", "(JJ)J"⟩ yX5_joined, Cond.instanceMethod yX5_joined, Cond.code yX5_joined cX5_joined 5 (some .long), Cond.methodLink RX5 45 Lib.MathLoose.min_long.x, Cond.static Lib.MathLoose.min_long.x, Cond.code Lib.MathLoose.min_long.x Lib.MathLoose.min_long.code 4 (some .long), Cond.methodLink RX8 218 yX5_weekOf, Cond.static yX5_weekOf, Cond.code yX5_weekOf cX5_weekOf 2 (some .int), Cond.constantLong RX5 43 (16383)]
def wsL_law0_r15 : List Cond := [Cond.methodLink RX8 138 yX8_allGaps, Cond.instanceMethod yX8_allGaps, Cond.selects RX8 yX8_allGaps yX8_allGaps, Cond.code yX8_allGaps cX8_allGaps 4 (some .int), Cond.methodLink RL 112 yX9_plan, Cond.instanceMethod yX9_plan, Cond.selects RX9 yX9_plan yX9_plan, Cond.code yX9_plan cX9_plan 4 (some .int), Cond.fieldLink RX9 99 "CoverSheetModel" "rounds" "I", Cond.methodLink RX9 102 yX9_choice, Cond.instanceMethod yX9_choice, Cond.selects RX9 yX9_choice yX9_choice, Cond.code yX9_choice cX9_choice 7 (some .int), Cond.methodLink RX9 89 yX9_fills, Cond.instanceMethod yX9_fills, Cond.selects RX9 yX9_fills yX9_fills, Cond.code yX9_fills cX9_fills 5 (some .int), Cond.methodLink RX9 79 yX9_gapOf, Cond.instanceMethod yX9_gapOf, Cond.selects RX9 yX9_gapOf yX9_gapOf, Cond.code yX9_gapOf cX9_gapOf 5 (some .int), Cond.methodLink RX9 75 yX9_countEntries, Cond.instanceMethod yX9_countEntries, Cond.selects RX9 yX9_countEntries yX9_countEntries]
def wsL_law0_r16 : List Cond := [Cond.code yX9_countEntries cX9_countEntries 6 (some .int), Cond.methodLink RX9 92 yX9_isPossible, Cond.instanceMethod yX9_isPossible, Cond.selects RX9 yX9_isPossible yX9_isPossible, Cond.code yX9_isPossible cX9_isPossible 9 (some .boolean), Cond.methodLink RX9 62 yX9_countShifts, Cond.static yX9_countShifts, Cond.code yX9_countShifts cX9_countShifts 3 (some .int), Cond.methodLink RX9 58 yX9_entryOf, Cond.static yX9_entryOf, Cond.code yX9_entryOf cX9_entryOf 2 (some .int), Cond.methodLink RX9 96 yX9_price, Cond.instanceMethod yX9_price, Cond.selects RX9 yX9_price yX9_price, Cond.code yX9_price cX9_price 7 (some .int), Cond.constant RX9 85 (100000), Cond.methodLink RX9 82 yX9_weekendOf, Cond.static yX9_weekendOf, Cond.code yX9_weekendOf cX9_weekendOf 1 (some .int), Cond.methodLink RX9 86 yX9_brokenBy, Cond.instanceMethod yX9_brokenBy, Cond.selects RX9 yX9_brokenBy yX9_brokenBy, Cond.code yX9_brokenBy cX9_brokenBy 5 (some .int), Cond.methodLink RX9 105 yX9_weekOf]
def wsL_law0_r17 : List Cond := [Cond.instanceMethod yX9_weekOf, Cond.selects RX9 yX9_weekOf yX9_weekOf, Cond.code yX9_weekOf cX9_weekOf 4 (some .int), Cond.methodLink RX9 108 yX9_enter, Cond.instanceMethod yX9_enter, Cond.selects RX9 yX9_enter yX9_enter, Cond.code yX9_enter cX9_enter 4 none, Cond.methodLink RX9 112 yX9_allGaps, Cond.instanceMethod yX9_allGaps, Cond.selects RX9 yX9_allGaps yX9_allGaps, Cond.code yX9_allGaps cX9_allGaps 4 (some .int), Cond.methodLink RL 113 yX8_rounds, Cond.instanceMethod yX8_rounds, Cond.selects RX8 yX8_rounds yX8_rounds, Cond.code yX8_rounds cX8_rounds 1 (some .int), Cond.methodLink RL 116 yX9_rounds, Cond.instanceMethod yX9_rounds, Cond.selects RX9 yX9_rounds yX9_rounds, Cond.code yX9_rounds cX9_rounds 1 (some .int), Cond.methodLink RL 117 yL_set, Cond.static yL_set, Cond.codeWith yL_set cL_set 6 (some .int) [(0, 12, 15, 21), (0, 12, 19, 13), (0, 12, 23, 15)], Cond.methodLink RL 37 yX8_set, Cond.instanceMethod yX8_set]
def wsL_law0_r18 : List Cond := [Cond.selects RX8 yX8_set yX8_set, Cond.code yX8_set cX8_set 7 (some .int), Cond.methodLink RX8 144 yX7_with, Cond.methodLink RX8 148 yX4_canHave, Cond.instanceMethod yX4_canHave, Cond.selects RX4 yX4_canHave yX4_canHave, Cond.code yX4_canHave cX4_canHave 7 (some .boolean), Cond.fieldLink RX4 41 "CoverSheet$Person" "lastEntry" "I", Cond.fieldLink RX4 44 "CoverSheet$Person" "daysInARow" "I", Cond.methodLink RX4 24 yX7_at, Cond.methodLink RX4 47 yX4_mayHave, Cond.methodLink RX4 50 yX6_allow, Cond.methodLink RX4 56 yX7_shiftsFrom, Cond.static yX7_shiftsFrom, Cond.code yX7_shiftsFrom cX7_shiftsFrom 4 (some .int), Cond.methodLink RX7 15 yX7_at, Cond.methodLink RL 119 yX9_set, Cond.instanceMethod yX9_set, Cond.selects RX9 yX9_set yX9_set, Cond.code yX9_set cX9_set 5 (some .int), Cond.methodLink RX9 116 yX9_with, Cond.static yX9_with, Cond.code yX9_with cX9_with 3 (some .int), Cond.methodLink RL 120 yL_swap]
def wsL_law0_r19 : List Cond := [Cond.static yL_swap, Cond.codeWith yL_swap cL_swap 6 (some .int) [(0, 12, 15, 21), (0, 12, 19, 15)], Cond.methodLink RL 40 yX8_swap, Cond.instanceMethod yX8_swap, Cond.selects RX8 yX8_swap yX8_swap, Cond.code yX8_swap cX8_swap 7 (some .int), Cond.methodLink RX8 159 yX8_couldSwap, Cond.instanceMethod yX8_couldSwap, Cond.selects RX8 yX8_couldSwap yX8_couldSwap, Cond.code yX8_couldSwap cX8_couldSwap 6 (some .boolean), Cond.methodLink RX8 165 yX4_brokenWishes, Cond.instanceMethod yX4_brokenWishes, Cond.selects RX4 yX4_brokenWishes yX4_brokenWishes, Cond.code yX4_brokenWishes cX4_brokenWishes 3 (some .int), Cond.fieldLink RX4 21 "CoverSheet$Person" "week" "I", Cond.methodLink RX4 30 yX4_breaksWish, Cond.methodLink RL 122 yX9_swap, Cond.instanceMethod yX9_swap, Cond.selects RX9 yX9_swap yX9_swap, Cond.code yX9_swap cX9_swap 5 (some .int), Cond.methodLink RX9 119 yX9_canSwap, Cond.instanceMethod yX9_canSwap, Cond.selects RX9 yX9_canSwap yX9_canSwap, Cond.code yX9_canSwap cX9_canSwap 6 (some .boolean)]
def wsL_law0_r20 : List Cond := [Cond.methodLink RL 123 yX8_closeWeek, Cond.instanceMethod yX8_closeWeek, Cond.selects RX8 yX8_closeWeek yX8_closeWeek, Cond.code yX8_closeWeek cX8_closeWeek 5 (some .int), Cond.fieldLink RX8 171 "CoverSheet" "closedWeeks" "I", Cond.methodLink RX8 168 yX4_noteWeek, Cond.instanceMethod yX4_noteWeek, Cond.selects RX4 yX4_noteWeek yX4_noteWeek, Cond.code yX4_noteWeek cX4_noteWeek 2 none, Cond.fieldLink RX4 59 "CoverSheet$Person" "weekendShifts" "I", Cond.methodLink RL 126 yX9_closeWeek, Cond.instanceMethod yX9_closeWeek, Cond.selects RX9 yX9_closeWeek yX9_closeWeek, Cond.code yX9_closeWeek cX9_closeWeek 4 (some .int), Cond.fieldLink RX9 122 "CoverSheetModel" "closed" "I", Cond.methodLink RL 127 yX8_people, Cond.instanceMethod yX8_people, Cond.selects RX8 yX8_people yX8_people, Cond.code yX8_people cX8_people 1 (some .int), Cond.methodLink RL 130 yX9_people, Cond.instanceMethod yX9_people, Cond.selects RX9 yX9_people yX9_people, Cond.code yX9_people cX9_people 1 (some .int), Cond.methodLink RL 131 yL_entry]
def wsL_law0_r21 : List Cond := [Cond.static yL_entry, Cond.codeWith yL_entry cL_entry 5 (some .int) [(0, 10, 13, 21)], Cond.methodLink RL 43 yX8_entry, Cond.instanceMethod yX8_entry, Cond.selects RX8 yX8_entry yX8_entry, Cond.code yX8_entry cX8_entry 4 (some .int), Cond.methodLink RL 133 yX9_entry, Cond.instanceMethod yX9_entry, Cond.selects RX9 yX9_entry yX9_entry, Cond.code yX9_entry cX9_entry 3 (some .int), Cond.methodLink RL 134 yX8_gaps, Cond.instanceMethod yX8_gaps, Cond.selects RX8 yX8_gaps yX8_gaps, Cond.code yX8_gaps cX8_gaps 1 (some .int), Cond.methodLink RL 137 yX9_gaps, Cond.instanceMethod yX9_gaps, Cond.selects RX9 yX9_gaps yX9_gaps, Cond.code yX9_gaps cX9_gaps 1 (some .int), Cond.methodLink RL 138 yL_gap, Cond.static yL_gap, Cond.codeWith yL_gap cL_gap 5 (some .int) [(0, 10, 13, 21)], Cond.methodLink RL 46 yX8_gap, Cond.instanceMethod yX8_gap, Cond.selects RX8 yX8_gap yX8_gap]
def wsL_law0_r22 : List Cond := [Cond.code yX8_gap cX8_gap 3 (some .int), Cond.methodLink RL 140 yX9_gap, Cond.instanceMethod yX9_gap, Cond.selects RX9 yX9_gap yX9_gap, Cond.code yX9_gap cX9_gap 3 (some .int), Cond.methodLink RL 141 yL_shifts, Cond.static yL_shifts, Cond.codeWith yL_shifts cL_shifts 4 (some .int) [(0, 9, 12, 21)], Cond.methodLink RL 49 yX8_shifts, Cond.instanceMethod yX8_shifts, Cond.selects RX8 yX8_shifts yX8_shifts, Cond.code yX8_shifts cX8_shifts 3 (some .int), Cond.methodLink RX8 180 yX7_shiftsFrom, Cond.methodLink RL 143 yX9_shifts, Cond.instanceMethod yX9_shifts, Cond.selects RX9 yX9_shifts yX9_shifts, Cond.code yX9_shifts cX9_shifts 2 (some .int), Cond.methodLink RX9 125 yX9_isAsked, Cond.instanceMethod yX9_isAsked, Cond.selects RX9 yX9_isAsked yX9_isAsked, Cond.code yX9_isAsked cX9_isAsked 2 (some .boolean), Cond.methodLink RL 144 yL_weekends, Cond.static yL_weekends, Cond.codeWith yL_weekends cL_weekends 4 (some .int) [(0, 9, 12, 21)]]
def wsL_law0_r23 : List Cond := [Cond.methodLink RL 52 yX8_weekends, Cond.instanceMethod yX8_weekends, Cond.selects RX8 yX8_weekends yX8_weekends, Cond.code yX8_weekends cX8_weekends 3 (some .int), Cond.methodLink RL 146 yX9_weekends, Cond.instanceMethod yX9_weekends, Cond.selects RX9 yX9_weekends yX9_weekends, Cond.code yX9_weekends cX9_weekends 2 (some .int), Cond.methodLink RL 147 yL_broken, Cond.static yL_broken, Cond.codeWith yL_broken cL_broken 4 (some .int) [(0, 9, 12, 21)], Cond.methodLink RL 55 yX8_broken, Cond.instanceMethod yX8_broken, Cond.selects RX8 yX8_broken yX8_broken, Cond.code yX8_broken cX8_broken 3 (some .int), Cond.methodLink RL 149 yX9_broken, Cond.instanceMethod yX9_broken, Cond.selects RX9 yX9_broken yX9_broken, Cond.code yX9_broken cX9_broken 2 (some .int), Cond.methodLink RL 150 yL_runBefore, Cond.static yL_runBefore, Cond.codeWith yL_runBefore cL_runBefore 4 (some .int) [(0, 9, 12, 21)], Cond.methodLink RL 58 yX8_runBefore, Cond.instanceMethod yX8_runBefore]
def wsL_law0_r24 : List Cond := [Cond.selects RX8 yX8_runBefore yX8_runBefore, Cond.code yX8_runBefore cX8_runBefore 3 (some .int), Cond.methodLink RL 152 yX9_runBefore, Cond.instanceMethod yX9_runBefore, Cond.selects RX9 yX9_runBefore yX9_runBefore, Cond.code yX9_runBefore cX9_runBefore 2 (some .int), Cond.methodLink RL 153 yL_isFeasible, Cond.static yL_isFeasible, Cond.codeWith yL_isFeasible cL_isFeasible 4 (some .int) [(0, 16, 19, 21)], Cond.methodLink RL 61 yX8_isFeasible, Cond.instanceMethod yX8_isFeasible, Cond.selects RX8 yX8_isFeasible yX8_isFeasible, Cond.code yX8_isFeasible cX8_isFeasible 3 (some .boolean), Cond.methodLink RL 155 yX9_isFeasible, Cond.instanceMethod yX9_isFeasible, Cond.selects RX9 yX9_isFeasible yX9_isFeasible, Cond.code yX9_isFeasible cX9_isFeasible 2 (some .boolean), Cond.methodLink RL 156 yL_weeks, Cond.static yL_weeks, Cond.codeWith yL_weeks cL_weeks 4 (some .int) [(0, 9, 12, 21)], Cond.methodLink RL 65 yX8_weeks, Cond.instanceMethod yX8_weeks, Cond.selects RX8 yX8_weeks yX8_weeks, Cond.code yX8_weeks cX8_weeks 5 (some .int)]
def wsL_law0_r25 : List Cond := [Cond.methodLink RL 158 yX9_weeks, Cond.instanceMethod yX9_weeks, Cond.selects RX9 yX9_weeks yX9_weeks, Cond.code yX9_weeks cX9_weeks 2 (some .int), Cond.methodLink RX9 128 yX9_countWeeks, Cond.instanceMethod yX9_countWeeks, Cond.selects RX9 yX9_countWeeks yX9_countWeeks, Cond.code yX9_countWeeks cX9_countWeeks 4 (some .int), Cond.methodLink RL 159 yL_weeksByDays, Cond.static yL_weeksByDays, Cond.codeWith yL_weeksByDays cL_weeksByDays 4 (some .int) [(0, 9, 12, 21)], Cond.methodLink RL 68 yX8_weeksByDays, Cond.instanceMethod yX8_weeksByDays, Cond.selects RX8 yX8_weeksByDays yX8_weeksByDays, Cond.code yX8_weeksByDays cX8_weeksByDays 3 (some .int), Cond.methodLink RL 161 yX9_weeksByDays, Cond.instanceMethod yX9_weeksByDays, Cond.selects RX9 yX9_weeksByDays yX9_weeksByDays, Cond.code yX9_weeksByDays cX9_weeksByDays 2 (some .int), Cond.methodLink RL 162 yL_couldTake, Cond.static yL_couldTake, Cond.codeWith yL_couldTake cL_couldTake 5 (some .int) [(0, 10, 13, 21)], Cond.methodLink RL 71 yX8_couldTake, Cond.instanceMethod yX8_couldTake]
def wsL_law0_r26 : List Cond := [Cond.selects RX8 yX8_couldTake yX8_couldTake, Cond.code yX8_couldTake cX8_couldTake 6 (some .int), Cond.methodLink RL 164 yX9_couldTake, Cond.instanceMethod yX9_couldTake, Cond.selects RX9 yX9_couldTake yX9_couldTake, Cond.code yX9_couldTake cX9_couldTake 6 (some .int), Cond.methodLink RL 165 yL_swapFor, Cond.static yL_swapFor, Cond.codeWith yL_swapFor cL_swapFor 5 (some .int) [(0, 10, 13, 21)], Cond.methodLink RL 74 yX8_swapFor, Cond.instanceMethod yX8_swapFor, Cond.selects RX8 yX8_swapFor yX8_swapFor, Cond.code yX8_swapFor cX8_swapFor 9 (some .int), Cond.methodLink RL 167 yX9_swapFor, Cond.instanceMethod yX9_swapFor, Cond.selects RX9 yX9_swapFor yX9_swapFor, Cond.code yX9_swapFor cX9_swapFor 8 (some .int), Cond.methodLink RL 168 yX8_bound, Cond.instanceMethod yX8_bound, Cond.selects RX8 yX8_bound yX8_bound, Cond.code yX8_bound cX8_bound 3 (some .int), Cond.methodLink RX8 193 yX8_leastGapsOf, Cond.instanceMethod yX8_leastGapsOf, Cond.selects RX8 yX8_leastGapsOf yX8_leastGapsOf]
def wsL_law0_r27 : List Cond := [Cond.code yX8_leastGapsOf cX8_leastGapsOf 6 (some .int), Cond.methodLink RX8 201 yX8_peopleWithOneOf, Cond.instanceMethod yX8_peopleWithOneOf, Cond.selects RX8 yX8_peopleWithOneOf yX8_peopleWithOneOf, Cond.code yX8_peopleWithOneOf cX8_peopleWithOneOf 7 (some .int), Cond.methodLink RL 171 yX9_bound, Cond.instanceMethod yX9_bound, Cond.selects RX9 yX9_bound yX9_bound, Cond.code yX9_bound cX9_bound 3 (some .int), Cond.methodLink RX9 131 yX9_lacking, Cond.instanceMethod yX9_lacking, Cond.selects RX9 yX9_lacking yX9_lacking, Cond.code yX9_lacking cX9_lacking 6 (some .int)]
def wsL_law0 : List Cond := (wsL_law0_r1 ++ (wsL_law0_r2 ++ (wsL_law0_r3 ++ (wsL_law0_r4 ++ (wsL_law0_r5 ++ (wsL_law0_r6 ++ (wsL_law0_r7 ++ (wsL_law0_r8 ++ (wsL_law0_r9 ++ (wsL_law0_r10 ++ (wsL_law0_r11 ++ (wsL_law0_r12 ++ (wsL_law0_r13 ++ (wsL_law0_r14 ++ (wsL_law0_r15 ++ (wsL_law0_r16 ++ (wsL_law0_r17 ++ (wsL_law0_r18 ++ (wsL_law0_r19 ++ (wsL_law0_r20 ++ (wsL_law0_r21 ++ (wsL_law0_r22 ++ (wsL_law0_r23 ++ (wsL_law0_r24 ++ (wsL_law0_r25 ++ (wsL_law0_r26 ++ wsL_law0_r27)))))))))))))))))))))))))) ++ wsX80 ++ wsX90 ++ wsX30 ++ wsX60 ++ wsX10 ++ wsX00 ++ wsX50 ++ wsX40 ++ ([] : List Cond)
def wsL_law : List Cond := wsL_law0 ++ (vx_atS RX8 54 "java/lang/IllegalArgumentException" ["java/lang/RuntimeException", "java/lang/Exception"]).filter goodWord ++ (vx_atS RX8 67 "java/lang/IllegalStateException" ["java/lang/RuntimeException", "java/lang/Exception"]).filter goodWord ++ (vx_atS RX8 82 "java/lang/IndexOutOfBoundsException" ["java/lang/RuntimeException", "java/lang/Exception"]).filter goodWord
set_option maxRecDepth 20000 in
theorem wsL_law0_r1_in0 : ∀ w ∈ wsL_law0_r1, w ∈ lw_tbl := fun w h => (goodIn_p wsL_law0_r1 [49, 52] (by decide +kernel) (by decide +kernel) w h).1
set_option maxRecDepth 20000 in
theorem wsL_law0_r2_in0 : ∀ w ∈ wsL_law0_r2, w ∈ lw_tbl := fun w h => (goodIn_p wsL_law0_r2 [59, 70, 74] (by decide +kernel) (by decide +kernel) w h).1
set_option maxRecDepth 20000 in
theorem wsL_law0_r3_in0 : ∀ w ∈ wsL_law0_r3, w ∈ lw_tbl := fun w h => (goodIn_p wsL_law0_r3 [87, 101, 104, 111, 642] (by decide +kernel) (by decide +kernel) w h).1
set_option maxRecDepth 20000 in
theorem wsL_law0_r4_in0 : ∀ w ∈ wsL_law0_r4, w ∈ lw_tbl := fun w h => (goodIn_p wsL_law0_r4 [314, 403] (by decide +kernel) (by decide +kernel) w h).1
set_option maxRecDepth 20000 in
theorem wsL_law0_r5_in0 : ∀ w ∈ wsL_law0_r5, w ∈ lw_tbl := fun w h => (goodIn_p wsL_law0_r5 [697, 700, 704, 693] (by decide +kernel) (by decide +kernel) w h).1
set_option maxRecDepth 20000 in
theorem wsL_law0_r6_in0 : ∀ w ∈ wsL_law0_r6, w ∈ lw_tbl := fun w h => (goodIn_p wsL_law0_r6 [445, 448, 451, 164, 472, 708] (by decide +kernel) (by decide +kernel) w h).1
set_option maxRecDepth 20000 in
theorem wsL_law0_r7_in0 : ∀ w ∈ wsL_law0_r7, w ∈ lw_tbl := fun w h => (goodIn_p wsL_law0_r7 [711, 714, 479, 484, 718] (by decide +kernel) (by decide +kernel) w h).1
set_option maxRecDepth 20000 in
theorem wsL_law0_r8_in0 : ∀ w ∈ wsL_law0_r8, w ∈ lw_tbl := fun w h => (goodIn_p wsL_law0_r8 [491, 722, 499, 503, 508] (by decide +kernel) (by decide +kernel) w h).1
set_option maxRecDepth 20000 in
theorem wsL_law0_r9_in0 : ∀ w ∈ wsL_law0_r9, w ∈ lw_tbl := fun w h => (goodIn_p wsL_law0_r9 [726, 730, 515, 518, 235] (by decide +kernel) (by decide +kernel) w h).1
set_option maxRecDepth 20000 in
theorem wsL_law0_r10_in0 : ∀ w ∈ wsL_law0_r10, w ∈ lw_tbl := fun w h => (goodIn_p wsL_law0_r10 [524, 734, 148, 152, 156, 160] (by decide +kernel) (by decide +kernel) w h).1
set_option maxRecDepth 20000 in
theorem wsL_law0_r11_in0 : ∀ w ∈ wsL_law0_r11, w ∈ lw_tbl := fun w h => (goodIn_p wsL_law0_r11 [173, 167, 170, 176, 179] (by decide +kernel) (by decide +kernel) w h).1
set_option maxRecDepth 20000 in
theorem wsL_law0_r12_in0 : ∀ w ∈ wsL_law0_r12, w ∈ lw_tbl := fun w h => (goodIn_p wsL_law0_r12 [186, 191, 195, 211, 201, 204] (by decide +kernel) (by decide +kernel) w h).1
set_option maxRecDepth 20000 in
theorem wsL_law0_r13_in0 : ∀ w ∈ wsL_law0_r13, w ∈ lw_tbl := fun w h => (goodIn_p wsL_law0_r13 [208, 214, 220, 223, 227, 231] (by decide +kernel) (by decide +kernel) w h).1
set_option maxRecDepth 20000 in
theorem wsL_law0_r14_in0 : ∀ w ∈ wsL_law0_r14, w ∈ lw_tbl := fun w h => (goodIn_p wsL_law0_r14 [239, 245, 248, 254, 257, 260, 263] (by decide +kernel) (by decide +kernel) w h).1
set_option maxRecDepth 20000 in
theorem wsL_law0_r15_in0 : ∀ w ∈ wsL_law0_r15, w ∈ lw_tbl := fun w h => (goodIn_p wsL_law0_r15 [268, 738, 742, 746, 750] (by decide +kernel) (by decide +kernel) w h).1
set_option maxRecDepth 20000 in
theorem wsL_law0_r16_in0 : ∀ w ∈ wsL_law0_r16, w ∈ lw_tbl := fun w h => (goodIn_p wsL_law0_r16 [754, 758, 761, 764, 768, 771, 776] (by decide +kernel) (by decide +kernel) w h).1
set_option maxRecDepth 20000 in
theorem wsL_law0_r17_in0 : ∀ w ∈ wsL_law0_r17, w ∈ lw_tbl := fun w h => (goodIn_p wsL_law0_r17 [780, 784, 788, 272, 792] (by decide +kernel) (by decide +kernel) w h).1
set_option maxRecDepth 20000 in
theorem wsL_law0_r18_in0 : ∀ w ∈ wsL_law0_r18, w ∈ lw_tbl := fun w h => (goodIn_p wsL_law0_r18 [531, 537, 284, 796, 799] (by decide +kernel) (by decide +kernel) w h).1
set_option maxRecDepth 20000 in
theorem wsL_law0_r19_in0 : ∀ w ∈ wsL_law0_r19, w ∈ lw_tbl := fun w h => (goodIn_p wsL_law0_r19 [547, 552, 557, 803, 807] (by decide +kernel) (by decide +kernel) w h).1
set_option maxRecDepth 20000 in
theorem wsL_law0_r20_in0 : ∀ w ∈ wsL_law0_r20, w ∈ lw_tbl := fun w h => (goodIn_p wsL_law0_r20 [276, 280, 811, 289, 815] (by decide +kernel) (by decide +kernel) w h).1
set_option maxRecDepth 20000 in
theorem wsL_law0_r21_in0 : ∀ w ∈ wsL_law0_r21, w ∈ lw_tbl := fun w h => (goodIn_p wsL_law0_r21 [565, 819, 293, 823] (by decide +kernel) (by decide +kernel) w h).1
set_option maxRecDepth 20000 in
theorem wsL_law0_r22_in0 : ∀ w ∈ wsL_law0_r22, w ∈ lw_tbl := fun w h => (goodIn_p wsL_law0_r22 [572, 827, 579, 831, 835] (by decide +kernel) (by decide +kernel) w h).1
set_option maxRecDepth 20000 in
theorem wsL_law0_r23_in0 : ∀ w ∈ wsL_law0_r23, w ∈ lw_tbl := fun w h => (goodIn_p wsL_law0_r23 [588, 839, 595, 843] (by decide +kernel) (by decide +kernel) w h).1
set_option maxRecDepth 20000 in
theorem wsL_law0_r24_in0 : ∀ w ∈ wsL_law0_r24, w ∈ lw_tbl := fun w h => (goodIn_p wsL_law0_r24 [602, 847, 609, 851, 616] (by decide +kernel) (by decide +kernel) w h).1
set_option maxRecDepth 20000 in
theorem wsL_law0_r25_in0 : ∀ w ∈ wsL_law0_r25, w ∈ lw_tbl := fun w h => (goodIn_p wsL_law0_r25 [855, 859, 623, 863] (by decide +kernel) (by decide +kernel) w h).1
set_option maxRecDepth 20000 in
theorem wsL_law0_r26_in0 : ∀ w ∈ wsL_law0_r26, w ∈ lw_tbl := fun w h => (goodIn_p wsL_law0_r26 [630, 867, 637, 871, 297] (by decide +kernel) (by decide +kernel) w h).1
set_option maxRecDepth 20000 in
theorem wsL_law0_r27_in0 : ∀ w ∈ wsL_law0_r27, w ∈ lw_tbl := fun w h => (goodIn_p wsL_law0_r27 [301, 305, 875, 879] (by decide +kernel) (by decide +kernel) w h).1
set_option maxRecDepth 20000 in
theorem wsX80_in0 : ∀ w ∈ wsX80, w ∈ lw_tbl := fun w h => (goodIn_p wsX80 [] (by decide +kernel) (by decide +kernel) w h).1
set_option maxRecDepth 20000 in
theorem wsX90_in0 : ∀ w ∈ wsX90, w ∈ lw_tbl := fun w h => (goodIn_p wsX90 [] (by decide +kernel) (by decide +kernel) w h).1
set_option maxRecDepth 20000 in
theorem wsX30_in0 : ∀ w ∈ wsX30, w ∈ lw_tbl := fun w h => (goodIn_p wsX30 [] (by decide +kernel) (by decide +kernel) w h).1
set_option maxRecDepth 20000 in
theorem wsX60_in0 : ∀ w ∈ wsX60, w ∈ lw_tbl := fun w h => (goodIn_p wsX60 [] (by decide +kernel) (by decide +kernel) w h).1
set_option maxRecDepth 20000 in
theorem wsX10_in0 : ∀ w ∈ wsX10, w ∈ lw_tbl := fun w h => (goodIn_p wsX10 [] (by decide +kernel) (by decide +kernel) w h).1
set_option maxRecDepth 20000 in
theorem wsX00_in0 : ∀ w ∈ wsX00, w ∈ lw_tbl := fun w h => (goodIn_p wsX00 [] (by decide +kernel) (by decide +kernel) w h).1
set_option maxRecDepth 20000 in
theorem wsX50_in0 : ∀ w ∈ wsX50, w ∈ lw_tbl := fun w h => (goodIn_p wsX50 [] (by decide +kernel) (by decide +kernel) w h).1
set_option maxRecDepth 20000 in
theorem wsX40_in0 : ∀ w ∈ wsX40, w ∈ lw_tbl := fun w h => (goodIn_p wsX40 [] (by decide +kernel) (by decide +kernel) w h).1
theorem wsL_law_in0 : ∀ w ∈ wsL_law0, w ∈ lw_tbl := fun w h => (fun h => (List.mem_append.mp h).elim (fun h => (List.mem_append.mp h).elim (fun h => (List.mem_append.mp h).elim (fun h => (List.mem_append.mp h).elim (fun h => (List.mem_append.mp h).elim (fun h => (List.mem_append.mp h).elim (fun h => (List.mem_append.mp h).elim (fun h => (List.mem_append.mp h).elim (fun h => (List.mem_append.mp h).elim (fun h => (List.mem_append.mp h).elim (wsL_law0_r1_in0 w) (fun h => (List.mem_append.mp h).elim (wsL_law0_r2_in0 w) (fun h => (List.mem_append.mp h).elim (wsL_law0_r3_in0 w) (fun h => (List.mem_append.mp h).elim (wsL_law0_r4_in0 w) (fun h => (List.mem_append.mp h).elim (wsL_law0_r5_in0 w) (fun h => (List.mem_append.mp h).elim (wsL_law0_r6_in0 w) (fun h => (List.mem_append.mp h).elim (wsL_law0_r7_in0 w) (fun h => (List.mem_append.mp h).elim (wsL_law0_r8_in0 w) (fun h => (List.mem_append.mp h).elim (wsL_law0_r9_in0 w) (fun h => (List.mem_append.mp h).elim (wsL_law0_r10_in0 w) (fun h => (List.mem_append.mp h).elim (wsL_law0_r11_in0 w) (fun h => (List.mem_append.mp h).elim (wsL_law0_r12_in0 w) (fun h => (List.mem_append.mp h).elim (wsL_law0_r13_in0 w) (fun h => (List.mem_append.mp h).elim (wsL_law0_r14_in0 w) (fun h => (List.mem_append.mp h).elim (wsL_law0_r15_in0 w) (fun h => (List.mem_append.mp h).elim (wsL_law0_r16_in0 w) (fun h => (List.mem_append.mp h).elim (wsL_law0_r17_in0 w) (fun h => (List.mem_append.mp h).elim (wsL_law0_r18_in0 w) (fun h => (List.mem_append.mp h).elim (wsL_law0_r19_in0 w) (fun h => (List.mem_append.mp h).elim (wsL_law0_r20_in0 w) (fun h => (List.mem_append.mp h).elim (wsL_law0_r21_in0 w) (fun h => (List.mem_append.mp h).elim (wsL_law0_r22_in0 w) (fun h => (List.mem_append.mp h).elim (wsL_law0_r23_in0 w) (fun h => (List.mem_append.mp h).elim (wsL_law0_r24_in0 w) (fun h => (List.mem_append.mp h).elim (wsL_law0_r25_in0 w) (fun h => (List.mem_append.mp h).elim (wsL_law0_r26_in0 w) (wsL_law0_r27_in0 w))))))))))))))))))))))))))) (wsX80_in0 w)) (wsX90_in0 w)) (wsX30_in0 w)) (wsX60_in0 w)) (wsX10_in0 w)) (wsX00_in0 w)) (wsX50_in0 w)) (wsX40_in0 w)) (fun h => absurd h List.not_mem_nil)) h
theorem wsL_law_x0 : ∀ w ∈ (vx_atS RX8 54 "java/lang/IllegalArgumentException" ["java/lang/RuntimeException", "java/lang/Exception"]).filter goodWord, w ∈ lw_tbl := by decide +kernel
theorem wsL_law_x1 : ∀ w ∈ (vx_atS RX8 67 "java/lang/IllegalStateException" ["java/lang/RuntimeException", "java/lang/Exception"]).filter goodWord, w ∈ lw_tbl := by decide +kernel
theorem wsL_law_x2 : ∀ w ∈ (vx_atS RX8 82 "java/lang/IndexOutOfBoundsException" ["java/lang/RuntimeException", "java/lang/Exception"]).filter goodWord, w ∈ lw_tbl := by decide +kernel
theorem wsL_law_in : ∀ w ∈ wsL_law, w ∈ lw_tbl := fun w h => (List.mem_append.mp h).elim (fun h => (List.mem_append.mp h).elim (fun h => (List.mem_append.mp h).elim (fun h => wsL_law_in0 w h) (fun h => wsL_law_x0 w h)) (fun h => wsL_law_x1 w h)) (fun h => wsL_law_x2 w h)
theorem inlX0 : ∀ w ∈ wsX00, w ∈ wsL_law := fun _ h => List.mem_append_left _ (List.mem_append_left _ (List.mem_append_left _ (List.mem_append_left _ (List.mem_append_left _ (List.mem_append_left _ (List.mem_append_right _ h))))))
theorem inX0 : ∀ w ∈ wsX00, w ∈ lw_tbl := fun w h => wsL_law_in w (inlX0 w h)
theorem inlX1 : ∀ w ∈ wsX10, w ∈ wsL_law := fun _ h => List.mem_append_left _ (List.mem_append_left _ (List.mem_append_left _ (List.mem_append_left _ (List.mem_append_left _ (List.mem_append_left _ (List.mem_append_left _ (List.mem_append_right _ h)))))))
theorem inX1 : ∀ w ∈ wsX10, w ∈ lw_tbl := fun w h => wsL_law_in w (inlX1 w h)
theorem inX2 : ∀ w ∈ wsX20, w ∈ lw_tbl := by decide +kernel
theorem inlX3 : ∀ w ∈ wsX30, w ∈ wsL_law := fun _ h => List.mem_append_left _ (List.mem_append_left _ (List.mem_append_left _ (List.mem_append_left _ (List.mem_append_left _ (List.mem_append_left _ (List.mem_append_left _ (List.mem_append_left _ (List.mem_append_left _ (List.mem_append_right _ h)))))))))
theorem inX3 : ∀ w ∈ wsX30, w ∈ lw_tbl := fun w h => wsL_law_in w (inlX3 w h)
theorem inlX4 : ∀ w ∈ wsX40, w ∈ wsL_law := fun _ h => List.mem_append_left _ (List.mem_append_left _ (List.mem_append_left _ (List.mem_append_left _ (List.mem_append_right _ h))))
theorem inX4 : ∀ w ∈ wsX40, w ∈ lw_tbl := fun w h => wsL_law_in w (inlX4 w h)
theorem inlX5 : ∀ w ∈ wsX50, w ∈ wsL_law := fun _ h => List.mem_append_left _ (List.mem_append_left _ (List.mem_append_left _ (List.mem_append_left _ (List.mem_append_left _ (List.mem_append_right _ h)))))
theorem inX5 : ∀ w ∈ wsX50, w ∈ lw_tbl := fun w h => wsL_law_in w (inlX5 w h)
theorem inlX6 : ∀ w ∈ wsX60, w ∈ wsL_law := fun _ h => List.mem_append_left _ (List.mem_append_left _ (List.mem_append_left _ (List.mem_append_left _ (List.mem_append_left _ (List.mem_append_left _ (List.mem_append_left _ (List.mem_append_left _ (List.mem_append_right _ h))))))))
theorem inX6 : ∀ w ∈ wsX60, w ∈ lw_tbl := fun w h => wsL_law_in w (inlX6 w h)
theorem inX7 : ∀ w ∈ wsX70, w ∈ lw_tbl := by decide +kernel
theorem inlX8 : ∀ w ∈ wsX80, w ∈ wsL_law := fun _ h => List.mem_append_left _ (List.mem_append_left _ (List.mem_append_left _ (List.mem_append_left _ (List.mem_append_left _ (List.mem_append_left _ (List.mem_append_left _ (List.mem_append_left _ (List.mem_append_left _ (List.mem_append_left _ (List.mem_append_left _ (List.mem_append_right _ h)))))))))))
theorem inX8 : ∀ w ∈ wsX80, w ∈ lw_tbl := fun w h => wsL_law_in w (inlX8 w h)
theorem inlX9 : ∀ w ∈ wsX90, w ∈ wsL_law := fun _ h => List.mem_append_left _ (List.mem_append_left _ (List.mem_append_left _ (List.mem_append_left _ (List.mem_append_left _ (List.mem_append_left _ (List.mem_append_left _ (List.mem_append_left _ (List.mem_append_left _ (List.mem_append_left _ (List.mem_append_right _ h))))))))))
theorem inX9 : ∀ w ∈ wsX90, w ∈ lw_tbl := fun w h => wsL_law_in w (inlX9 w h)
theorem inJx145de : ∀ w ∈ wsJx145de0, w ∈ lw_tbl := by decide +kernel
theorem inJ9 : ∀ w ∈ wsJ90, w ∈ lw_tbl := by decide +kernel
theorem inJ0 : ∀ w ∈ wsJ00, w ∈ lw_tbl := by decide +kernel
theorem inJ7 : ∀ w ∈ wsJ70, w ∈ lw_tbl := by decide +kernel
abbrev vwCl : List vw_C := [(RX0, TX0, 0), (RX1, TX1, 2), (RX3, TX3, 1), (RX4, TX4, 8), (RX5, TX5, 1), (RX6, TX6, 2), (RX8, TX8, 9), (RX9, TX9, 15)]
end
section
set_option maxRecDepth 20000 in
theorem ggX0_init_X2_init : GoodIn wsX0_init wsX2_init := goodIn_r _ [3, 4, 5, 6] (by decide +kernel) (by decide +kernel)
set_option maxRecDepth 20000 in
theorem gX0_init_X2_init_n1 : GoodIn wsX0_init (wsX2_init) := ggX0_init_X2_init
theorem dX0_init_0 : decode cX0_init 0 = .ok (.aload_n 0, 1) := by decide +kernel
theorem dX0_init_1 : decode cX0_init 1 = .ok (.invokespecial 1, 3) := by decide +kernel
theorem dX0_init_4 : decode cX0_init 4 = .ok (.return_, 1) := by decide +kernel
theorem dX0_none_0 : decode cX0_none 0 = .ok (.lconst 0, 1) := by decide +kernel
theorem dX0_none_1 : decode cX0_none 1 = .ok (.lreturn, 1) := by decide +kernel
theorem dX0_start_0 : decode cX0_start 0 = .ok (.lconst 1, 1) := by decide +kernel
theorem dX0_start_1 : decode cX0_start 1 = .ok (.lreturn, 1) := by decide +kernel
theorem dX0_longer_0 : decode cX0_longer 0 = .ok (.lload_n 1, 1) := by decide +kernel
theorem dX0_longer_1 : decode cX0_longer 1 = .ok (.lreturn, 1) := by decide +kernel
theorem dX0_joined_0 : decode cX0_joined 0 = .ok (.lload_n 1, 1) := by decide +kernel
theorem dX0_joined_1 : decode cX0_joined 1 = .ok (.lload_n 3, 1) := by decide +kernel
theorem dX0_joined_2 : decode cX0_joined 2 = .ok (.ladd, 1) := by decide +kernel
theorem dX0_joined_3 : decode cX0_joined 3 = .ok (.lreturn, 1) := by decide +kernel
theorem dX1_init_0 : decode cX1_init 0 = .ok (.aload_n 0, 1) := by decide +kernel
theorem dX1_init_1 : decode cX1_init 1 = .ok (.invokespecial 5, 3) := by decide +kernel
theorem dX1_init_4 : decode cX1_init 4 = .ok (.aload_n 0, 1) := by decide +kernel
theorem dX1_init_5 : decode cX1_init 5 = .ok (.sipush 480, 3) := by decide +kernel
theorem dX1_init_8 : decode cX1_init 8 = .ok (.newarray .long, 2) := by decide +kernel
theorem dX1_init_10 : decode cX1_init 10 = .ok (.putfield 11, 3) := by decide +kernel
theorem dX1_init_13 : decode cX1_init 13 = .ok (.aload_n 0, 1) := by decide +kernel
theorem dX1_init_14 : decode cX1_init 14 = .ok (.sipush 480, 3) := by decide +kernel
theorem dX1_init_17 : decode cX1_init 17 = .ok (.newarray .long, 2) := by decide +kernel
theorem dX1_init_19 : decode cX1_init 19 = .ok (.putfield 15, 3) := by decide +kernel
theorem dX1_init_22 : decode cX1_init 22 = .ok (.return_, 1) := by decide +kernel
theorem dX1_placeOf_0 : decode cX1_placeOf 0 = .ok (.iload_n 0, 1) := by decide +kernel
theorem dX1_placeOf_1 : decode cX1_placeOf 1 = .ok (.bipush 15, 2) := by decide +kernel
theorem dX1_placeOf_3 : decode cX1_placeOf 3 = .ok (.imul, 1) := by decide +kernel
theorem dX1_placeOf_4 : decode cX1_placeOf 4 = .ok (.iload_n 1, 1) := by decide +kernel
theorem dX1_placeOf_5 : decode cX1_placeOf 5 = .ok (.iadd, 1) := by decide +kernel
theorem dX1_placeOf_6 : decode cX1_placeOf 6 = .ok (.iconst 4, 1) := by decide +kernel
theorem dX1_placeOf_7 : decode cX1_placeOf 7 = .ok (.imul, 1) := by decide +kernel
theorem dX1_placeOf_8 : decode cX1_placeOf 8 = .ok (.iload_n 2, 1) := by decide +kernel
theorem dX1_placeOf_9 : decode cX1_placeOf 9 = .ok (.iadd, 1) := by decide +kernel
theorem dX1_placeOf_10 : decode cX1_placeOf 10 = .ok (.ireturn, 1) := by decide +kernel
set_option maxRecDepth 20000 in
theorem ggX1_through_X0_none : GoodIn wsX1_through wsX0_none := goodIn_r _ [11] (by decide +kernel) (by decide +kernel)
set_option maxRecDepth 20000 in
theorem gX1_through_X0_none_u18X0 : GoodIn wsX1_through (va_wsU RX1 18 RX0 "CoverSheet$Measure" ⟨"CoverSheet$Measure", "none", "()J"⟩ yX0_none wsX0_none) := goodIn_app (goodIn_of _ (by decide +kernel)) ggX1_through_X0_none
set_option maxRecDepth 20000 in
theorem ggX1_through_X5_none : GoodIn wsX1_through wsX5_none := goodIn_r _ [15, 16] (by decide +kernel) (by decide +kernel)
set_option maxRecDepth 20000 in
theorem gX1_through_X5_none_u18X5 : GoodIn wsX1_through (va_wsU RX1 18 RX5 "CoverSheet$Measure" ⟨"CoverSheet$Measure", "none", "()J"⟩ yX5_none wsX5_none) := goodIn_app (goodIn_of _ (by decide +kernel)) ggX1_through_X5_none
set_option maxRecDepth 20000 in
theorem ggX1_through_J7_fill_d0a16 : GoodIn wsX1_through wsJ7_fill_d0a16 := goodIn_r _ [20] (by decide +kernel) (by decide +kernel)
set_option maxRecDepth 20000 in
theorem gX1_through_J7_fill_d0a16 : GoodIn wsX1_through (va_wsS RX1 24 yJ7_fill_d0a16 wsJ7_fill_d0a16) := goodIn_app (goodIn_of _ (by decide +kernel)) ggX1_through_J7_fill_d0a16
set_option maxRecDepth 20000 in
theorem ggX1_through_X1_placeOf : GoodIn wsX1_through wsX1_placeOf := goodIn_r _ [24] (by decide +kernel) (by decide +kernel)
set_option maxRecDepth 20000 in
theorem gX1_through_X1_placeOf : GoodIn wsX1_through (va_wsS RX1 45 yX1_placeOf wsX1_placeOf) := goodIn_app (goodIn_of _ (by decide +kernel)) ggX1_through_X1_placeOf
set_option maxRecDepth 20000 in
theorem ggX1_through_X0_start : GoodIn wsX1_through wsX0_start := goodIn_r _ [29] (by decide +kernel) (by decide +kernel)
set_option maxRecDepth 20000 in
theorem gX1_through_X0_start_u49X0 : GoodIn wsX1_through (va_wsU RX1 49 RX0 "CoverSheet$Measure" ⟨"CoverSheet$Measure", "start", "()J"⟩ yX0_start wsX0_start) := goodIn_app (goodIn_of _ (by decide +kernel)) ggX1_through_X0_start
set_option maxRecDepth 20000 in
theorem ggX1_through_X5_start : GoodIn wsX1_through wsX5_start := goodIn_r _ [32] (by decide +kernel) (by decide +kernel)
set_option maxRecDepth 20000 in
theorem gX1_through_X5_start_u49X5 : GoodIn wsX1_through (va_wsU RX1 49 RX5 "CoverSheet$Measure" ⟨"CoverSheet$Measure", "start", "()J"⟩ yX5_start wsX5_start) := goodIn_app (goodIn_of _ (by decide +kernel)) ggX1_through_X5_start
set_option maxRecDepth 20000 in
theorem ggX1_through_X1_goOn : GoodIn wsX1_through wsX1_goOn := goodIn_r _ [36, 37, 1, 6, 7, 8, 9, 10, 11, 12, 13, 14, 15, 16, 17, 18, 19, 20, 38, 39, 40, 41, 42, 43, 44, 45, 46, 47, 48, 49, 50, 51, 52, 53, 54, 55, 56, 57, 58, 21, 22, 23, 24, 59, 60, 61, 62, 63, 64, 65, 66, 67, 68, 69, 70, 71, 72, 73, 74, 75, 76, 77, 4, 78, 79, 80, 81, 82, 83, 84, 85, 86, 87, 88, 89, 90, 91] (by decide +kernel) (by decide +kernel)
set_option maxRecDepth 20000 in
theorem gX1_through_X1_goOn : GoodIn wsX1_through (wsV RX1 52 RX1 yX1_goOn wsX1_goOn) := goodIn_app (goodIn_of _ (by decide +kernel)) ggX1_through_X1_goOn
set_option maxRecDepth 20000 in
theorem ggX1_through_X0_joined : GoodIn wsX1_through wsX0_joined := goodIn_r _ [72] (by decide +kernel) (by decide +kernel)
set_option maxRecDepth 20000 in
theorem gX1_through_X0_joined_u56X0 : GoodIn wsX1_through (va_wsU RX1 56 RX0 "CoverSheet$Measure" ⟨"CoverSheet$Measure", "joined", "(JJ)J"⟩ yX0_joined wsX0_joined) := goodIn_app (goodIn_of _ (by decide +kernel)) ggX1_through_X0_joined
set_option maxRecDepth 20000 in
theorem ggX1_through_X5_joined : GoodIn wsX1_through wsX5_joined := goodIn_r _ [75, 76, 77, 4, 78] (by decide +kernel) (by decide +kernel)
set_option maxRecDepth 20000 in
theorem gX1_through_X5_joined_u56X5 : GoodIn wsX1_through (va_wsU RX1 56 RX5 "CoverSheet$Measure" ⟨"CoverSheet$Measure", "joined", "(JJ)J"⟩ yX5_joined wsX5_joined) := goodIn_app (goodIn_of _ (by decide +kernel)) ggX1_through_X5_joined
theorem dX1_through_0 : decode cX1_through 0 = .ok (.aload_n 0, 1) := by decide +kernel
theorem dX1_through_1 : decode cX1_through 1 = .ok (.getfield 11, 3) := by decide +kernel
theorem dX1_through_4 : decode cX1_through 4 = .ok (.aload_n 3, 1) := by decide +kernel
theorem dX1_through_5 : decode cX1_through 5 = .ok (.invokevirtual 18, 3) := by decide +kernel
theorem dX1_through_8 : decode cX1_through 8 = .ok (.invokestatic 24, 3) := by decide +kernel
theorem dX1_through_11 : decode cX1_through 11 = .ok (.iconst 0, 1) := by decide +kernel
theorem dX1_through_12 : decode cX1_through 12 = .ok (.aload_n 1, 1) := by decide +kernel
theorem dX1_through_13 : decode cX1_through 13 = .ok (.getfield 30, 3) := by decide +kernel
theorem dX1_through_16 : decode cX1_through 16 = .ok (.bipush 14, 2) := by decide +kernel
theorem dX1_through_18 : decode cX1_through 18 = .ok (.invokestatic 36, 3) := by decide +kernel
theorem dX1_through_21 : decode cX1_through 21 = .ok (.aload_n 1, 1) := by decide +kernel
theorem dX1_through_22 : decode cX1_through 22 = .ok (.getfield 42, 3) := by decide +kernel
theorem dX1_through_25 : decode cX1_through 25 = .ok (.invokestatic 45, 3) := by decide +kernel
theorem dX1_through_28 : decode cX1_through 28 = .ok (.istore 4, 2) := by decide +kernel
theorem dX1_through_30 : decode cX1_through 30 = .ok (.iload 4, 2) := by decide +kernel
theorem dX1_through_32 : decode cX1_through 32 = .ok (.ifCond .lt 24, 3) := by decide +kernel
theorem dX1_through_35 : decode cX1_through 35 = .ok (.iload 4, 2) := by decide +kernel
theorem dX1_through_37 : decode cX1_through 37 = .ok (.aload_n 0, 1) := by decide +kernel
theorem dX1_through_38 : decode cX1_through 38 = .ok (.getfield 11, 3) := by decide +kernel
theorem dX1_through_41 : decode cX1_through 41 = .ok (.arraylength, 1) := by decide +kernel
theorem dX1_through_42 : decode cX1_through 42 = .ok (.if_icmp .ge 14, 3) := by decide +kernel
theorem dX1_through_45 : decode cX1_through 45 = .ok (.aload_n 0, 1) := by decide +kernel
theorem dX1_through_46 : decode cX1_through 46 = .ok (.getfield 11, 3) := by decide +kernel
theorem dX1_through_49 : decode cX1_through 49 = .ok (.iload 4, 2) := by decide +kernel
theorem dX1_through_51 : decode cX1_through 51 = .ok (.aload_n 3, 1) := by decide +kernel
theorem dX1_through_52 : decode cX1_through 52 = .ok (.invokevirtual 49, 3) := by decide +kernel
theorem dX1_through_55 : decode cX1_through 55 = .ok (.lastore, 1) := by decide +kernel
theorem dX1_through_56 : decode cX1_through 56 = .ok (.iconst 0, 1) := by decide +kernel
theorem dX1_through_57 : decode cX1_through 57 = .ok (.istore 5, 2) := by decide +kernel
theorem dX1_through_59 : decode cX1_through 59 = .ok (.iload 5, 2) := by decide +kernel
theorem dX1_through_61 : decode cX1_through 61 = .ok (.bipush 7, 2) := by decide +kernel
theorem dX1_through_63 : decode cX1_through 63 = .ok (.if_icmp .ge 18, 3) := by decide +kernel
theorem dX1_through_66 : decode cX1_through 66 = .ok (.aload_n 0, 1) := by decide +kernel
theorem dX1_through_67 : decode cX1_through 67 = .ok (.aload_n 1, 1) := by decide +kernel
theorem dX1_through_68 : decode cX1_through 68 = .ok (.aload_n 2, 1) := by decide +kernel
theorem dX1_through_69 : decode cX1_through 69 = .ok (.aload_n 3, 1) := by decide +kernel
theorem dX1_through_70 : decode cX1_through 70 = .ok (.iload 5, 2) := by decide +kernel
theorem dX1_through_72 : decode cX1_through 72 = .ok (.invokevirtual 52, 3) := by decide +kernel
theorem dX1_through_75 : decode cX1_through 75 = .ok (.iinc 5 1, 3) := by decide +kernel
theorem dX1_through_78 : decode cX1_through 78 = .ok (.goto (-19), 3) := by decide +kernel
theorem dX1_through_81 : decode cX1_through 81 = .ok (.aload_n 3, 1) := by decide +kernel
theorem dX1_through_82 : decode cX1_through 82 = .ok (.invokevirtual 18, 3) := by decide +kernel
theorem dX1_through_85 : decode cX1_through 85 = .ok (.lstore 5, 2) := by decide +kernel
theorem dX1_through_87 : decode cX1_through 87 = .ok (.aload_n 0, 1) := by decide +kernel
theorem dX1_through_88 : decode cX1_through 88 = .ok (.getfield 11, 3) := by decide +kernel
theorem dX1_through_91 : decode cX1_through 91 = .ok (.astore 7, 2) := by decide +kernel
theorem dX1_through_93 : decode cX1_through 93 = .ok (.aload 7, 2) := by decide +kernel
theorem dX1_through_95 : decode cX1_through 95 = .ok (.arraylength, 1) := by decide +kernel
theorem dX1_through_96 : decode cX1_through 96 = .ok (.istore 8, 2) := by decide +kernel
theorem dX1_through_98 : decode cX1_through 98 = .ok (.iconst 0, 1) := by decide +kernel
theorem dX1_through_99 : decode cX1_through 99 = .ok (.istore 9, 2) := by decide +kernel
theorem dX1_through_101 : decode cX1_through 101 = .ok (.iload 9, 2) := by decide +kernel
theorem dX1_through_103 : decode cX1_through 103 = .ok (.iload 8, 2) := by decide +kernel
theorem dX1_through_105 : decode cX1_through 105 = .ok (.if_icmp .ge 26, 3) := by decide +kernel
theorem dX1_through_108 : decode cX1_through 108 = .ok (.aload 7, 2) := by decide +kernel
theorem dX1_through_110 : decode cX1_through 110 = .ok (.iload 9, 2) := by decide +kernel
theorem dX1_through_112 : decode cX1_through 112 = .ok (.laload, 1) := by decide +kernel
theorem dX1_through_113 : decode cX1_through 113 = .ok (.lstore 10, 2) := by decide +kernel
theorem dX1_through_115 : decode cX1_through 115 = .ok (.aload_n 3, 1) := by decide +kernel
theorem dX1_through_116 : decode cX1_through 116 = .ok (.lload 5, 2) := by decide +kernel
theorem dX1_through_118 : decode cX1_through 118 = .ok (.lload 10, 2) := by decide +kernel
theorem dX1_through_120 : decode cX1_through 120 = .ok (.invokevirtual 56, 3) := by decide +kernel
theorem dX1_through_123 : decode cX1_through 123 = .ok (.lstore 5, 2) := by decide +kernel
theorem dX1_through_125 : decode cX1_through 125 = .ok (.iinc 9 1, 3) := by decide +kernel
theorem dX1_through_128 : decode cX1_through 128 = .ok (.goto (-27), 3) := by decide +kernel
theorem dX1_through_131 : decode cX1_through 131 = .ok (.lload 5, 2) := by decide +kernel
theorem dX1_through_133 : decode cX1_through 133 = .ok (.lreturn, 1) := by decide +kernel
set_option maxRecDepth 20000 in
theorem ggX1_goOn_X0_none : GoodIn wsX1_goOn wsX0_none := goodIn_r _ [8] (by decide +kernel) (by decide +kernel)
set_option maxRecDepth 20000 in
theorem gX1_goOn_X0_none_u18X0 : GoodIn wsX1_goOn (va_wsU RX1 18 RX0 "CoverSheet$Measure" ⟨"CoverSheet$Measure", "none", "()J"⟩ yX0_none wsX0_none) := goodIn_app (goodIn_of _ (by decide +kernel)) ggX1_goOn_X0_none
set_option maxRecDepth 20000 in
theorem ggX1_goOn_X5_none : GoodIn wsX1_goOn wsX5_none := goodIn_r _ [12, 13] (by decide +kernel) (by decide +kernel)
set_option maxRecDepth 20000 in
theorem gX1_goOn_X5_none_u18X5 : GoodIn wsX1_goOn (va_wsU RX1 18 RX5 "CoverSheet$Measure" ⟨"CoverSheet$Measure", "none", "()J"⟩ yX5_none wsX5_none) := goodIn_app (goodIn_of _ (by decide +kernel)) ggX1_goOn_X5_none
set_option maxRecDepth 20000 in
theorem ggX1_goOn_J7_fill_d0a16 : GoodIn wsX1_goOn wsJ7_fill_d0a16 := goodIn_r _ [17] (by decide +kernel) (by decide +kernel)
set_option maxRecDepth 20000 in
theorem gX1_goOn_J7_fill_d0a16 : GoodIn wsX1_goOn (va_wsS RX1 24 yJ7_fill_d0a16 wsJ7_fill_d0a16) := goodIn_app (goodIn_of _ (by decide +kernel)) ggX1_goOn_J7_fill_d0a16
set_option maxRecDepth 20000 in
theorem ggX1_goOn_X4_mayHave : GoodIn wsX1_goOn wsX4_mayHave := goodIn_r _ [22, 23, 24, 25, 26, 21, 27, 28, 66, 67, 68, 69, 70, 71, 72, 73] (by decide +kernel) (by decide +kernel)
set_option maxRecDepth 20000 in
theorem gX1_goOn_X4_mayHave : GoodIn wsX1_goOn (wsV RX1 63 RX4 yX4_mayHave wsX4_mayHave) := goodIn_app (goodIn_of _ (by decide +kernel)) ggX1_goOn_X4_mayHave
set_option maxRecDepth 20000 in
theorem ggX1_goOn_X6_allow : GoodIn wsX1_goOn wsX6_allow := goodIn_r _ [33, 34, 35, 36, 37, 32, 38, 74, 75] (by decide +kernel) (by decide +kernel)
set_option maxRecDepth 20000 in
theorem gX1_goOn_X6_allow : GoodIn wsX1_goOn (wsV RX1 67 RX6 yX6_allow wsX6_allow) := goodIn_app (goodIn_of _ (by decide +kernel)) ggX1_goOn_X6_allow
set_option maxRecDepth 20000 in
theorem ggX1_goOn_X1_placeOf : GoodIn wsX1_goOn wsX1_placeOf := goodIn_r _ [42] (by decide +kernel) (by decide +kernel)
set_option maxRecDepth 20000 in
theorem gX1_goOn_X1_placeOf : GoodIn wsX1_goOn (va_wsS RX1 45 yX1_placeOf wsX1_placeOf) := goodIn_app (goodIn_of _ (by decide +kernel)) ggX1_goOn_X1_placeOf
set_option maxRecDepth 20000 in
theorem ggX1_goOn_X0_longer : GoodIn wsX1_goOn wsX0_longer := goodIn_r _ [47] (by decide +kernel) (by decide +kernel)
set_option maxRecDepth 20000 in
theorem gX1_goOn_X0_longer_u73X0 : GoodIn wsX1_goOn (va_wsU RX1 73 RX0 "CoverSheet$Measure" ⟨"CoverSheet$Measure", "longer", "(JII)J"⟩ yX0_longer wsX0_longer) := goodIn_app (goodIn_of _ (by decide +kernel)) ggX1_goOn_X0_longer
set_option maxRecDepth 20000 in
theorem ggX1_goOn_X5_longer : GoodIn wsX1_goOn wsX5_longer := goodIn_r _ [50, 51, 13, 76] (by decide +kernel) (by decide +kernel)
set_option maxRecDepth 20000 in
theorem gX1_goOn_X5_longer_u73X5 : GoodIn wsX1_goOn (va_wsU RX1 73 RX5 "CoverSheet$Measure" ⟨"CoverSheet$Measure", "longer", "(JII)J"⟩ yX5_longer wsX5_longer) := goodIn_app (goodIn_of _ (by decide +kernel)) ggX1_goOn_X5_longer
set_option maxRecDepth 20000 in
theorem ggX1_goOn_X0_joined : GoodIn wsX1_goOn wsX0_joined := goodIn_r _ [56] (by decide +kernel) (by decide +kernel)
set_option maxRecDepth 20000 in
theorem gX1_goOn_X0_joined_u56X0 : GoodIn wsX1_goOn (va_wsU RX1 56 RX0 "CoverSheet$Measure" ⟨"CoverSheet$Measure", "joined", "(JJ)J"⟩ yX0_joined wsX0_joined) := goodIn_app (goodIn_of _ (by decide +kernel)) ggX1_goOn_X0_joined
set_option maxRecDepth 20000 in
theorem ggX1_goOn_X5_joined : GoodIn wsX1_goOn wsX5_joined := goodIn_r _ [59, 60, 61, 62, 63] (by decide +kernel) (by decide +kernel)
set_option maxRecDepth 20000 in
theorem gX1_goOn_X5_joined_u56X5 : GoodIn wsX1_goOn (va_wsU RX1 56 RX5 "CoverSheet$Measure" ⟨"CoverSheet$Measure", "joined", "(JJ)J"⟩ yX5_joined wsX5_joined) := goodIn_app (goodIn_of _ (by decide +kernel)) ggX1_goOn_X5_joined
theorem dX1_goOn_0 : decode cX1_goOn 0 = .ok (.aload_n 0, 1) := by decide +kernel
theorem dX1_goOn_1 : decode cX1_goOn 1 = .ok (.getfield 15, 3) := by decide +kernel
theorem dX1_goOn_4 : decode cX1_goOn 4 = .ok (.aload_n 3, 1) := by decide +kernel
theorem dX1_goOn_5 : decode cX1_goOn 5 = .ok (.invokevirtual 18, 3) := by decide +kernel
theorem dX1_goOn_8 : decode cX1_goOn 8 = .ok (.invokestatic 24, 3) := by decide +kernel
theorem dX1_goOn_11 : decode cX1_goOn 11 = .ok (.iconst 0, 1) := by decide +kernel
theorem dX1_goOn_12 : decode cX1_goOn 12 = .ok (.istore 5, 2) := by decide +kernel
theorem dX1_goOn_14 : decode cX1_goOn 14 = .ok (.iload 5, 2) := by decide +kernel
theorem dX1_goOn_16 : decode cX1_goOn 16 = .ok (.aload_n 0, 1) := by decide +kernel
theorem dX1_goOn_17 : decode cX1_goOn 17 = .ok (.getfield 11, 3) := by decide +kernel
theorem dX1_goOn_20 : decode cX1_goOn 20 = .ok (.arraylength, 1) := by decide +kernel
theorem dX1_goOn_21 : decode cX1_goOn 21 = .ok (.if_icmp .ge 200, 3) := by decide +kernel
theorem dX1_goOn_24 : decode cX1_goOn 24 = .ok (.aload_n 0, 1) := by decide +kernel
theorem dX1_goOn_25 : decode cX1_goOn 25 = .ok (.getfield 11, 3) := by decide +kernel
theorem dX1_goOn_28 : decode cX1_goOn 28 = .ok (.iload 5, 2) := by decide +kernel
theorem dX1_goOn_30 : decode cX1_goOn 30 = .ok (.laload, 1) := by decide +kernel
theorem dX1_goOn_31 : decode cX1_goOn 31 = .ok (.lstore 6, 2) := by decide +kernel
theorem dX1_goOn_33 : decode cX1_goOn 33 = .ok (.lload 6, 2) := by decide +kernel
theorem dX1_goOn_35 : decode cX1_goOn 35 = .ok (.aload_n 3, 1) := by decide +kernel
theorem dX1_goOn_36 : decode cX1_goOn 36 = .ok (.invokevirtual 18, 3) := by decide +kernel
theorem dX1_goOn_39 : decode cX1_goOn 39 = .ok (.lcmp, 1) := by decide +kernel
theorem dX1_goOn_40 : decode cX1_goOn 40 = .ok (.ifCond .ne 6, 3) := by decide +kernel
theorem dX1_goOn_43 : decode cX1_goOn 43 = .ok (.goto 172, 3) := by decide +kernel
theorem dX1_goOn_46 : decode cX1_goOn 46 = .ok (.iload 5, 2) := by decide +kernel
theorem dX1_goOn_48 : decode cX1_goOn 48 = .ok (.iconst 4, 1) := by decide +kernel
theorem dX1_goOn_49 : decode cX1_goOn 49 = .ok (.irem, 1) := by decide +kernel
theorem dX1_goOn_50 : decode cX1_goOn 50 = .ok (.istore 8, 2) := by decide +kernel
theorem dX1_goOn_52 : decode cX1_goOn 52 = .ok (.iload 5, 2) := by decide +kernel
theorem dX1_goOn_54 : decode cX1_goOn 54 = .ok (.iconst 4, 1) := by decide +kernel
theorem dX1_goOn_55 : decode cX1_goOn 55 = .ok (.idiv, 1) := by decide +kernel
theorem dX1_goOn_56 : decode cX1_goOn 56 = .ok (.bipush 15, 2) := by decide +kernel
theorem dX1_goOn_58 : decode cX1_goOn 58 = .ok (.irem, 1) := by decide +kernel
theorem dX1_goOn_59 : decode cX1_goOn 59 = .ok (.istore 9, 2) := by decide +kernel
theorem dX1_goOn_61 : decode cX1_goOn 61 = .ok (.iload 5, 2) := by decide +kernel
theorem dX1_goOn_63 : decode cX1_goOn 63 = .ok (.iconst 4, 1) := by decide +kernel
theorem dX1_goOn_64 : decode cX1_goOn 64 = .ok (.idiv, 1) := by decide +kernel
theorem dX1_goOn_65 : decode cX1_goOn 65 = .ok (.bipush 15, 2) := by decide +kernel
theorem dX1_goOn_67 : decode cX1_goOn 67 = .ok (.idiv, 1) := by decide +kernel
theorem dX1_goOn_68 : decode cX1_goOn 68 = .ok (.istore 10, 2) := by decide +kernel
theorem dX1_goOn_70 : decode cX1_goOn 70 = .ok (.iconst 0, 1) := by decide +kernel
theorem dX1_goOn_71 : decode cX1_goOn 71 = .ok (.istore 11, 2) := by decide +kernel
theorem dX1_goOn_73 : decode cX1_goOn 73 = .ok (.iload 11, 2) := by decide +kernel
theorem dX1_goOn_75 : decode cX1_goOn 75 = .ok (.iconst 3, 1) := by decide +kernel
theorem dX1_goOn_76 : decode cX1_goOn 76 = .ok (.if_icmp .gt 139, 3) := by decide +kernel
theorem dX1_goOn_79 : decode cX1_goOn 79 = .ok (.iload 11, 2) := by decide +kernel
theorem dX1_goOn_81 : decode cX1_goOn 81 = .ok (.ifCond .eq 16, 3) := by decide +kernel
theorem dX1_goOn_84 : decode cX1_goOn 84 = .ok (.iload 10, 2) := by decide +kernel
theorem dX1_goOn_86 : decode cX1_goOn 86 = .ok (.aload_n 1, 1) := by decide +kernel
theorem dX1_goOn_87 : decode cX1_goOn 87 = .ok (.getfield 60, 3) := by decide +kernel
theorem dX1_goOn_90 : decode cX1_goOn 90 = .ok (.if_icmp .lt 7, 3) := by decide +kernel
theorem dX1_goOn_93 : decode cX1_goOn 93 = .ok (.iconst 1, 1) := by decide +kernel
theorem dX1_goOn_94 : decode cX1_goOn 94 = .ok (.goto 4, 3) := by decide +kernel
theorem dX1_goOn_97 : decode cX1_goOn 97 = .ok (.iconst 0, 1) := by decide +kernel
theorem dX1_goOn_98 : decode cX1_goOn 98 = .ok (.istore 12, 2) := by decide +kernel
theorem dX1_goOn_100 : decode cX1_goOn 100 = .ok (.iload 12, 2) := by decide +kernel
theorem dX1_goOn_102 : decode cX1_goOn 102 = .ok (.ifCond .ne 107, 3) := by decide +kernel
theorem dX1_goOn_105 : decode cX1_goOn 105 = .ok (.aload_n 1, 1) := by decide +kernel
theorem dX1_goOn_106 : decode cX1_goOn 106 = .ok (.iload 4, 2) := by decide +kernel
theorem dX1_goOn_108 : decode cX1_goOn 108 = .ok (.iload 11, 2) := by decide +kernel
theorem dX1_goOn_110 : decode cX1_goOn 110 = .ok (.invokevirtual 63, 3) := by decide +kernel
theorem dX1_goOn_113 : decode cX1_goOn 113 = .ok (.ifCond .eq 96, 3) := by decide +kernel
theorem dX1_goOn_116 : decode cX1_goOn 116 = .ok (.aload_n 2, 1) := by decide +kernel
theorem dX1_goOn_117 : decode cX1_goOn 117 = .ok (.iload 8, 2) := by decide +kernel
theorem dX1_goOn_119 : decode cX1_goOn 119 = .ok (.iload 9, 2) := by decide +kernel
theorem dX1_goOn_121 : decode cX1_goOn 121 = .ok (.iload 11, 2) := by decide +kernel
theorem dX1_goOn_123 : decode cX1_goOn 123 = .ok (.invokevirtual 67, 3) := by decide +kernel
theorem dX1_goOn_126 : decode cX1_goOn 126 = .ok (.ifCond .ne 6, 3) := by decide +kernel
theorem dX1_goOn_129 : decode cX1_goOn 129 = .ok (.goto 80, 3) := by decide +kernel
theorem dX1_goOn_132 : decode cX1_goOn 132 = .ok (.iload 11, 2) := by decide +kernel
theorem dX1_goOn_134 : decode cX1_goOn 134 = .ok (.ifCond .ne 13, 3) := by decide +kernel
theorem dX1_goOn_137 : decode cX1_goOn 137 = .ok (.iload 10, 2) := by decide +kernel
theorem dX1_goOn_139 : decode cX1_goOn 139 = .ok (.iconst 0, 1) := by decide +kernel
theorem dX1_goOn_140 : decode cX1_goOn 140 = .ok (.iconst 0, 1) := by decide +kernel
theorem dX1_goOn_141 : decode cX1_goOn 141 = .ok (.invokestatic 45, 3) := by decide +kernel
theorem dX1_goOn_144 : decode cX1_goOn 144 = .ok (.goto 16, 3) := by decide +kernel
theorem dX1_goOn_147 : decode cX1_goOn 147 = .ok (.iload 10, 2) := by decide +kernel
theorem dX1_goOn_149 : decode cX1_goOn 149 = .ok (.iconst 1, 1) := by decide +kernel
theorem dX1_goOn_150 : decode cX1_goOn 150 = .ok (.iadd, 1) := by decide +kernel
theorem dX1_goOn_151 : decode cX1_goOn 151 = .ok (.iload 9, 2) := by decide +kernel
theorem dX1_goOn_153 : decode cX1_goOn 153 = .ok (.iconst 1, 1) := by decide +kernel
theorem dX1_goOn_154 : decode cX1_goOn 154 = .ok (.iadd, 1) := by decide +kernel
theorem dX1_goOn_155 : decode cX1_goOn 155 = .ok (.iload 11, 2) := by decide +kernel
theorem dX1_goOn_157 : decode cX1_goOn 157 = .ok (.invokestatic 45, 3) := by decide +kernel
theorem dX1_goOn_160 : decode cX1_goOn 160 = .ok (.istore 13, 2) := by decide +kernel
theorem dX1_goOn_162 : decode cX1_goOn 162 = .ok (.iload 13, 2) := by decide +kernel
theorem dX1_goOn_164 : decode cX1_goOn 164 = .ok (.ifCond .lt 45, 3) := by decide +kernel
theorem dX1_goOn_167 : decode cX1_goOn 167 = .ok (.iload 13, 2) := by decide +kernel
theorem dX1_goOn_169 : decode cX1_goOn 169 = .ok (.aload_n 0, 1) := by decide +kernel
theorem dX1_goOn_170 : decode cX1_goOn 170 = .ok (.getfield 15, 3) := by decide +kernel
theorem dX1_goOn_173 : decode cX1_goOn 173 = .ok (.arraylength, 1) := by decide +kernel
theorem dX1_goOn_174 : decode cX1_goOn 174 = .ok (.if_icmp .ge 35, 3) := by decide +kernel
theorem dX1_goOn_177 : decode cX1_goOn 177 = .ok (.aload_n 3, 1) := by decide +kernel
theorem dX1_goOn_178 : decode cX1_goOn 178 = .ok (.lload 6, 2) := by decide +kernel
theorem dX1_goOn_180 : decode cX1_goOn 180 = .ok (.iload 4, 2) := by decide +kernel
theorem dX1_goOn_182 : decode cX1_goOn 182 = .ok (.iload 11, 2) := by decide +kernel
theorem dX1_goOn_184 : decode cX1_goOn 184 = .ok (.invokevirtual 73, 3) := by decide +kernel
theorem dX1_goOn_187 : decode cX1_goOn 187 = .ok (.lstore 14, 2) := by decide +kernel
theorem dX1_goOn_189 : decode cX1_goOn 189 = .ok (.aload_n 0, 1) := by decide +kernel
theorem dX1_goOn_190 : decode cX1_goOn 190 = .ok (.getfield 15, 3) := by decide +kernel
theorem dX1_goOn_193 : decode cX1_goOn 193 = .ok (.iload 13, 2) := by decide +kernel
theorem dX1_goOn_195 : decode cX1_goOn 195 = .ok (.aload_n 3, 1) := by decide +kernel
theorem dX1_goOn_196 : decode cX1_goOn 196 = .ok (.aload_n 0, 1) := by decide +kernel
theorem dX1_goOn_197 : decode cX1_goOn 197 = .ok (.getfield 15, 3) := by decide +kernel
theorem dX1_goOn_200 : decode cX1_goOn 200 = .ok (.iload 13, 2) := by decide +kernel
theorem dX1_goOn_202 : decode cX1_goOn 202 = .ok (.laload, 1) := by decide +kernel
theorem dX1_goOn_203 : decode cX1_goOn 203 = .ok (.lload 14, 2) := by decide +kernel
theorem dX1_goOn_205 : decode cX1_goOn 205 = .ok (.invokevirtual 56, 3) := by decide +kernel
theorem dX1_goOn_208 : decode cX1_goOn 208 = .ok (.lastore, 1) := by decide +kernel
theorem dX1_goOn_209 : decode cX1_goOn 209 = .ok (.iinc 11 1, 3) := by decide +kernel
theorem dX1_goOn_212 : decode cX1_goOn 212 = .ok (.goto (-139), 3) := by decide +kernel
theorem dX1_goOn_215 : decode cX1_goOn 215 = .ok (.iinc 5 1, 3) := by decide +kernel
theorem dX1_goOn_218 : decode cX1_goOn 218 = .ok (.goto (-204), 3) := by decide +kernel
theorem dX1_goOn_221 : decode cX1_goOn 221 = .ok (.aload_n 0, 1) := by decide +kernel
theorem dX1_goOn_222 : decode cX1_goOn 222 = .ok (.getfield 11, 3) := by decide +kernel
theorem dX1_goOn_225 : decode cX1_goOn 225 = .ok (.astore 5, 2) := by decide +kernel
theorem dX1_goOn_227 : decode cX1_goOn 227 = .ok (.aload_n 0, 1) := by decide +kernel
theorem dX1_goOn_228 : decode cX1_goOn 228 = .ok (.aload_n 0, 1) := by decide +kernel
theorem dX1_goOn_229 : decode cX1_goOn 229 = .ok (.getfield 15, 3) := by decide +kernel
theorem dX1_goOn_232 : decode cX1_goOn 232 = .ok (.putfield 11, 3) := by decide +kernel
theorem dX1_goOn_235 : decode cX1_goOn 235 = .ok (.aload_n 0, 1) := by decide +kernel
theorem dX1_goOn_236 : decode cX1_goOn 236 = .ok (.aload 5, 2) := by decide +kernel
theorem dX1_goOn_238 : decode cX1_goOn 238 = .ok (.putfield 15, 3) := by decide +kernel
theorem dX1_goOn_241 : decode cX1_goOn 241 = .ok (.return_, 1) := by decide +kernel
theorem dX2_init_0 : decode cX2_init 0 = .ok (.aload_n 0, 1) := by decide +kernel
theorem dX2_init_1 : decode cX2_init 1 = .ok (.invokespecial 1, 3) := by decide +kernel
theorem dX2_init_4 : decode cX2_init 4 = .ok (.return_, 1) := by decide +kernel
theorem dX3_init_0 : decode cX3_init 0 = .ok (.aload_n 0, 1) := by decide +kernel
theorem dX3_init_1 : decode cX3_init 1 = .ok (.invokespecial 3, 3) := by decide +kernel
theorem dX3_init_4 : decode cX3_init 4 = .ok (.aload_n 0, 1) := by decide +kernel
theorem dX3_init_5 : decode cX3_init 5 = .ok (.bipush 28, 2) := by decide +kernel
theorem dX3_init_7 : decode cX3_init 7 = .ok (.newarray .int, 2) := by decide +kernel
theorem dX3_init_9 : decode cX3_init 9 = .ok (.putfield 9, 3) := by decide +kernel
theorem dX3_init_12 : decode cX3_init 12 = .ok (.return_, 1) := by decide +kernel
theorem dX3_of_0 : decode cX3_of 0 = .ok (.iload_n 1, 1) := by decide +kernel
theorem dX3_of_1 : decode cX3_of 1 = .ok (.iconst 4, 1) := by decide +kernel
theorem dX3_of_2 : decode cX3_of 2 = .ok (.imul, 1) := by decide +kernel
theorem dX3_of_3 : decode cX3_of 3 = .ok (.iload_n 2, 1) := by decide +kernel
theorem dX3_of_4 : decode cX3_of 4 = .ok (.iadd, 1) := by decide +kernel
theorem dX3_of_5 : decode cX3_of 5 = .ok (.istore_n 3, 1) := by decide +kernel
theorem dX3_of_6 : decode cX3_of 6 = .ok (.iload_n 3, 1) := by decide +kernel
theorem dX3_of_7 : decode cX3_of 7 = .ok (.ifCond .lt 12, 3) := by decide +kernel
theorem dX3_of_10 : decode cX3_of 10 = .ok (.iload_n 3, 1) := by decide +kernel
theorem dX3_of_11 : decode cX3_of 11 = .ok (.aload_n 0, 1) := by decide +kernel
theorem dX3_of_12 : decode cX3_of 12 = .ok (.getfield 9, 3) := by decide +kernel
theorem dX3_of_15 : decode cX3_of 15 = .ok (.arraylength, 1) := by decide +kernel
theorem dX3_of_16 : decode cX3_of 16 = .ok (.if_icmp .lt 7, 3) := by decide +kernel
theorem dX3_of_19 : decode cX3_of 19 = .ok (.iconst 0, 1) := by decide +kernel
theorem dX3_of_20 : decode cX3_of 20 = .ok (.goto 9, 3) := by decide +kernel
theorem dX3_of_23 : decode cX3_of 23 = .ok (.aload_n 0, 1) := by decide +kernel
theorem dX3_of_24 : decode cX3_of 24 = .ok (.getfield 9, 3) := by decide +kernel
theorem dX3_of_27 : decode cX3_of 27 = .ok (.iload_n 3, 1) := by decide +kernel
theorem dX3_of_28 : decode cX3_of 28 = .ok (.iaload, 1) := by decide +kernel
theorem dX3_of_29 : decode cX3_of 29 = .ok (.ireturn, 1) := by decide +kernel
theorem dX3_put_0 : decode cX3_put 0 = .ok (.iload_n 1, 1) := by decide +kernel
theorem dX3_put_1 : decode cX3_put 1 = .ok (.iconst 4, 1) := by decide +kernel
theorem dX3_put_2 : decode cX3_put 2 = .ok (.imul, 1) := by decide +kernel
theorem dX3_put_3 : decode cX3_put 3 = .ok (.iload_n 2, 1) := by decide +kernel
theorem dX3_put_4 : decode cX3_put 4 = .ok (.iadd, 1) := by decide +kernel
theorem dX3_put_5 : decode cX3_put 5 = .ok (.istore 4, 2) := by decide +kernel
theorem dX3_put_7 : decode cX3_put 7 = .ok (.iload 4, 2) := by decide +kernel
theorem dX3_put_9 : decode cX3_put 9 = .ok (.ifCond .lt 21, 3) := by decide +kernel
theorem dX3_put_12 : decode cX3_put 12 = .ok (.iload 4, 2) := by decide +kernel
theorem dX3_put_14 : decode cX3_put 14 = .ok (.aload_n 0, 1) := by decide +kernel
theorem dX3_put_15 : decode cX3_put 15 = .ok (.getfield 9, 3) := by decide +kernel
theorem dX3_put_18 : decode cX3_put 18 = .ok (.arraylength, 1) := by decide +kernel
theorem dX3_put_19 : decode cX3_put 19 = .ok (.if_icmp .ge 11, 3) := by decide +kernel
theorem dX3_put_22 : decode cX3_put 22 = .ok (.aload_n 0, 1) := by decide +kernel
theorem dX3_put_23 : decode cX3_put 23 = .ok (.getfield 9, 3) := by decide +kernel
theorem dX3_put_26 : decode cX3_put 26 = .ok (.iload 4, 2) := by decide +kernel
theorem dX3_put_28 : decode cX3_put 28 = .ok (.iload_n 3, 1) := by decide +kernel
theorem dX3_put_29 : decode cX3_put 29 = .ok (.iastore, 1) := by decide +kernel
theorem dX3_put_30 : decode cX3_put 30 = .ok (.return_, 1) := by decide +kernel
theorem dX4_init_0 : decode cX4_init 0 = .ok (.aload_n 0, 1) := by decide +kernel
theorem dX4_init_1 : decode cX4_init 1 = .ok (.invokespecial 3, 3) := by decide +kernel
theorem dX4_init_4 : decode cX4_init 4 = .ok (.aload_n 0, 1) := by decide +kernel
theorem dX4_init_5 : decode cX4_init 5 = .ok (.iload_n 1, 1) := by decide +kernel
theorem dX4_init_6 : decode cX4_init 6 = .ok (.putfield 9, 3) := by decide +kernel
theorem dX4_init_9 : decode cX4_init 9 = .ok (.aload_n 0, 1) := by decide +kernel
theorem dX4_init_10 : decode cX4_init 10 = .ok (.iload_n 2, 1) := by decide +kernel
theorem dX4_init_11 : decode cX4_init 11 = .ok (.putfield 15, 3) := by decide +kernel
theorem dX4_init_14 : decode cX4_init 14 = .ok (.return_, 1) := by decide +kernel
theorem dX4_changeWish_0 : decode cX4_changeWish 0 = .ok (.aload_n 0, 1) := by decide +kernel
theorem dX4_changeWish_1 : decode cX4_changeWish 1 = .ok (.getfield 18, 3) := by decide +kernel
theorem dX4_changeWish_4 : decode cX4_changeWish 4 = .ok (.istore_n 3, 1) := by decide +kernel
theorem dX4_changeWish_5 : decode cX4_changeWish 5 = .ok (.aload_n 0, 1) := by decide +kernel
theorem dX4_changeWish_6 : decode cX4_changeWish 6 = .ok (.iload_n 2, 1) := by decide +kernel
theorem dX4_changeWish_7 : decode cX4_changeWish 7 = .ok (.ifCond .eq 11, 3) := by decide +kernel
theorem dX4_changeWish_10 : decode cX4_changeWish 10 = .ok (.iload_n 3, 1) := by decide +kernel
theorem dX4_changeWish_11 : decode cX4_changeWish 11 = .ok (.iconst 1, 1) := by decide +kernel
theorem dX4_changeWish_12 : decode cX4_changeWish 12 = .ok (.iload_n 1, 1) := by decide +kernel
theorem dX4_changeWish_13 : decode cX4_changeWish 13 = .ok (.ishl, 1) := by decide +kernel
theorem dX4_changeWish_14 : decode cX4_changeWish 14 = .ok (.ior, 1) := by decide +kernel
theorem dX4_changeWish_15 : decode cX4_changeWish 15 = .ok (.goto 10, 3) := by decide +kernel
theorem dX4_changeWish_18 : decode cX4_changeWish 18 = .ok (.iload_n 3, 1) := by decide +kernel
theorem dX4_changeWish_19 : decode cX4_changeWish 19 = .ok (.iconst 1, 1) := by decide +kernel
theorem dX4_changeWish_20 : decode cX4_changeWish 20 = .ok (.iload_n 1, 1) := by decide +kernel
theorem dX4_changeWish_21 : decode cX4_changeWish 21 = .ok (.ishl, 1) := by decide +kernel
theorem dX4_changeWish_22 : decode cX4_changeWish 22 = .ok (.iconst (-1), 1) := by decide +kernel
theorem dX4_changeWish_23 : decode cX4_changeWish 23 = .ok (.ixor, 1) := by decide +kernel
theorem dX4_changeWish_24 : decode cX4_changeWish 24 = .ok (.iand, 1) := by decide +kernel
theorem dX4_changeWish_25 : decode cX4_changeWish 25 = .ok (.putfield 18, 3) := by decide +kernel
theorem dX4_changeWish_28 : decode cX4_changeWish 28 = .ok (.aload_n 0, 1) := by decide +kernel
theorem dX4_changeWish_29 : decode cX4_changeWish 29 = .ok (.getfield 18, 3) := by decide +kernel
theorem dX4_changeWish_32 : decode cX4_changeWish 32 = .ok (.iload_n 3, 1) := by decide +kernel
theorem dX4_changeWish_33 : decode cX4_changeWish 33 = .ok (.if_icmp .eq 7, 3) := by decide +kernel
theorem dX4_changeWish_36 : decode cX4_changeWish 36 = .ok (.iconst 1, 1) := by decide +kernel
theorem dX4_changeWish_37 : decode cX4_changeWish 37 = .ok (.goto 4, 3) := by decide +kernel
theorem dX4_changeWish_40 : decode cX4_changeWish 40 = .ok (.iconst 0, 1) := by decide +kernel
theorem dX4_changeWish_41 : decode cX4_changeWish 41 = .ok (.ireturn, 1) := by decide +kernel
theorem dX4_breaksWish_0 : decode cX4_breaksWish 0 = .ok (.iload_n 2, 1) := by decide +kernel
theorem dX4_breaksWish_1 : decode cX4_breaksWish 1 = .ok (.ifCond .eq 18, 3) := by decide +kernel
theorem dX4_breaksWish_4 : decode cX4_breaksWish 4 = .ok (.aload_n 0, 1) := by decide +kernel
theorem dX4_breaksWish_5 : decode cX4_breaksWish 5 = .ok (.getfield 18, 3) := by decide +kernel
theorem dX4_breaksWish_8 : decode cX4_breaksWish 8 = .ok (.iconst 1, 1) := by decide +kernel
theorem dX4_breaksWish_9 : decode cX4_breaksWish 9 = .ok (.iload_n 1, 1) := by decide +kernel
theorem dX4_breaksWish_10 : decode cX4_breaksWish 10 = .ok (.ishl, 1) := by decide +kernel
theorem dX4_breaksWish_11 : decode cX4_breaksWish 11 = .ok (.iand, 1) := by decide +kernel
theorem dX4_breaksWish_12 : decode cX4_breaksWish 12 = .ok (.ifCond .eq 7, 3) := by decide +kernel
theorem dX4_breaksWish_15 : decode cX4_breaksWish 15 = .ok (.iconst 1, 1) := by decide +kernel
theorem dX4_breaksWish_16 : decode cX4_breaksWish 16 = .ok (.goto 4, 3) := by decide +kernel
theorem dX4_breaksWish_19 : decode cX4_breaksWish 19 = .ok (.iconst 0, 1) := by decide +kernel
theorem dX4_breaksWish_20 : decode cX4_breaksWish 20 = .ok (.ireturn, 1) := by decide +kernel
set_option maxRecDepth 20000 in
theorem ggX4_brokenWishes_X7_at : GoodIn wsX4_brokenWishes wsX7_at := goodIn_r _ [5, 6, 7, 4, 8] (by decide +kernel) (by decide +kernel)
set_option maxRecDepth 20000 in
theorem gX4_brokenWishes_X7_at : GoodIn wsX4_brokenWishes (va_wsS RX4 24 yX7_at wsX7_at) := goodIn_app (goodIn_of _ (by decide +kernel)) ggX4_brokenWishes_X7_at
set_option maxRecDepth 20000 in
theorem ggX4_brokenWishes_X4_breaksWish : GoodIn wsX4_brokenWishes wsX4_breaksWish := goodIn_r _ [13, 14, 15, 16, 17, 18, 19, 20, 21, 22] (by decide +kernel) (by decide +kernel)
set_option maxRecDepth 20000 in
theorem gX4_brokenWishes_X4_breaksWish : GoodIn wsX4_brokenWishes (wsV RX4 30 RX4 yX4_breaksWish wsX4_breaksWish) := goodIn_app (goodIn_of _ (by decide +kernel)) ggX4_brokenWishes_X4_breaksWish
theorem dX4_brokenWishes_0 : decode cX4_brokenWishes 0 = .ok (.iconst 0, 1) := by decide +kernel
theorem dX4_brokenWishes_1 : decode cX4_brokenWishes 1 = .ok (.istore_n 1, 1) := by decide +kernel
theorem dX4_brokenWishes_2 : decode cX4_brokenWishes 2 = .ok (.iconst 0, 1) := by decide +kernel
theorem dX4_brokenWishes_3 : decode cX4_brokenWishes 3 = .ok (.istore_n 2, 1) := by decide +kernel
theorem dX4_brokenWishes_4 : decode cX4_brokenWishes 4 = .ok (.iload_n 2, 1) := by decide +kernel
theorem dX4_brokenWishes_5 : decode cX4_brokenWishes 5 = .ok (.bipush 7, 2) := by decide +kernel
theorem dX4_brokenWishes_7 : decode cX4_brokenWishes 7 = .ok (.if_icmp .ge 28, 3) := by decide +kernel
theorem dX4_brokenWishes_10 : decode cX4_brokenWishes 10 = .ok (.aload_n 0, 1) := by decide +kernel
theorem dX4_brokenWishes_11 : decode cX4_brokenWishes 11 = .ok (.iload_n 2, 1) := by decide +kernel
theorem dX4_brokenWishes_12 : decode cX4_brokenWishes 12 = .ok (.aload_n 0, 1) := by decide +kernel
theorem dX4_brokenWishes_13 : decode cX4_brokenWishes 13 = .ok (.getfield 21, 3) := by decide +kernel
theorem dX4_brokenWishes_16 : decode cX4_brokenWishes 16 = .ok (.iload_n 2, 1) := by decide +kernel
theorem dX4_brokenWishes_17 : decode cX4_brokenWishes 17 = .ok (.invokestatic 24, 3) := by decide +kernel
theorem dX4_brokenWishes_20 : decode cX4_brokenWishes 20 = .ok (.invokevirtual 30, 3) := by decide +kernel
theorem dX4_brokenWishes_23 : decode cX4_brokenWishes 23 = .ok (.ifCond .eq 6, 3) := by decide +kernel
theorem dX4_brokenWishes_26 : decode cX4_brokenWishes 26 = .ok (.iinc 1 1, 3) := by decide +kernel
theorem dX4_brokenWishes_29 : decode cX4_brokenWishes 29 = .ok (.iinc 2 1, 3) := by decide +kernel
theorem dX4_brokenWishes_32 : decode cX4_brokenWishes 32 = .ok (.goto (-28), 3) := by decide +kernel
theorem dX4_brokenWishes_35 : decode cX4_brokenWishes 35 = .ok (.iload_n 1, 1) := by decide +kernel
theorem dX4_brokenWishes_36 : decode cX4_brokenWishes 36 = .ok (.ireturn, 1) := by decide +kernel
theorem dX4_fixedAt_0 : decode cX4_fixedAt 0 = .ok (.aload_n 0, 1) := by decide +kernel
theorem dX4_fixedAt_1 : decode cX4_fixedAt 1 = .ok (.getfield 34, 3) := by decide +kernel
theorem dX4_fixedAt_4 : decode cX4_fixedAt 4 = .ok (.iconst 4, 1) := by decide +kernel
theorem dX4_fixedAt_5 : decode cX4_fixedAt 5 = .ok (.iload_n 1, 1) := by decide +kernel
theorem dX4_fixedAt_6 : decode cX4_fixedAt 6 = .ok (.imul, 1) := by decide +kernel
theorem dX4_fixedAt_7 : decode cX4_fixedAt 7 = .ok (.ishr, 1) := by decide +kernel
theorem dX4_fixedAt_8 : decode cX4_fixedAt 8 = .ok (.bipush 15, 2) := by decide +kernel
theorem dX4_fixedAt_10 : decode cX4_fixedAt 10 = .ok (.iand, 1) := by decide +kernel
theorem dX4_fixedAt_11 : decode cX4_fixedAt 11 = .ok (.iconst 1, 1) := by decide +kernel
theorem dX4_fixedAt_12 : decode cX4_fixedAt 12 = .ok (.isub, 1) := by decide +kernel
theorem dX4_fixedAt_13 : decode cX4_fixedAt 13 = .ok (.ireturn, 1) := by decide +kernel
theorem dX4_changeFixed_0 : decode cX4_changeFixed 0 = .ok (.iconst 4, 1) := by decide +kernel
theorem dX4_changeFixed_1 : decode cX4_changeFixed 1 = .ok (.iload_n 1, 1) := by decide +kernel
theorem dX4_changeFixed_2 : decode cX4_changeFixed 2 = .ok (.imul, 1) := by decide +kernel
theorem dX4_changeFixed_3 : decode cX4_changeFixed 3 = .ok (.istore_n 3, 1) := by decide +kernel
theorem dX4_changeFixed_4 : decode cX4_changeFixed 4 = .ok (.aload_n 0, 1) := by decide +kernel
theorem dX4_changeFixed_5 : decode cX4_changeFixed 5 = .ok (.aload_n 0, 1) := by decide +kernel
theorem dX4_changeFixed_6 : decode cX4_changeFixed 6 = .ok (.getfield 34, 3) := by decide +kernel
theorem dX4_changeFixed_9 : decode cX4_changeFixed 9 = .ok (.bipush 15, 2) := by decide +kernel
theorem dX4_changeFixed_11 : decode cX4_changeFixed 11 = .ok (.iload_n 3, 1) := by decide +kernel
theorem dX4_changeFixed_12 : decode cX4_changeFixed 12 = .ok (.ishl, 1) := by decide +kernel
theorem dX4_changeFixed_13 : decode cX4_changeFixed 13 = .ok (.iconst (-1), 1) := by decide +kernel
theorem dX4_changeFixed_14 : decode cX4_changeFixed 14 = .ok (.ixor, 1) := by decide +kernel
theorem dX4_changeFixed_15 : decode cX4_changeFixed 15 = .ok (.iand, 1) := by decide +kernel
theorem dX4_changeFixed_16 : decode cX4_changeFixed 16 = .ok (.iload_n 2, 1) := by decide +kernel
theorem dX4_changeFixed_17 : decode cX4_changeFixed 17 = .ok (.iconst 1, 1) := by decide +kernel
theorem dX4_changeFixed_18 : decode cX4_changeFixed 18 = .ok (.iadd, 1) := by decide +kernel
theorem dX4_changeFixed_19 : decode cX4_changeFixed 19 = .ok (.iload_n 3, 1) := by decide +kernel
theorem dX4_changeFixed_20 : decode cX4_changeFixed 20 = .ok (.ishl, 1) := by decide +kernel
theorem dX4_changeFixed_21 : decode cX4_changeFixed 21 = .ok (.ior, 1) := by decide +kernel
theorem dX4_changeFixed_22 : decode cX4_changeFixed 22 = .ok (.putfield 34, 3) := by decide +kernel
theorem dX4_changeFixed_25 : decode cX4_changeFixed 25 = .ok (.return_, 1) := by decide +kernel
set_option maxRecDepth 20000 in
theorem ggX4_mayHave_X4_fixedAt : GoodIn wsX4_mayHave wsX4_fixedAt := goodIn_r _ [6, 7, 8, 9, 10, 11, 12, 13, 14, 15] (by decide +kernel) (by decide +kernel)
set_option maxRecDepth 20000 in
theorem gX4_mayHave_X4_fixedAt : GoodIn wsX4_mayHave (wsV RX4 37 RX4 yX4_fixedAt wsX4_fixedAt) := goodIn_app (goodIn_of _ (by decide +kernel)) ggX4_mayHave_X4_fixedAt
theorem dX4_mayHave_0 : decode cX4_mayHave 0 = .ok (.aload_n 0, 1) := by decide +kernel
theorem dX4_mayHave_1 : decode cX4_mayHave 1 = .ok (.iload_n 1, 1) := by decide +kernel
theorem dX4_mayHave_2 : decode cX4_mayHave 2 = .ok (.invokevirtual 37, 3) := by decide +kernel
theorem dX4_mayHave_5 : decode cX4_mayHave 5 = .ok (.istore_n 3, 1) := by decide +kernel
theorem dX4_mayHave_6 : decode cX4_mayHave 6 = .ok (.iload_n 3, 1) := by decide +kernel
theorem dX4_mayHave_7 : decode cX4_mayHave 7 = .ok (.iconst (-1), 1) := by decide +kernel
theorem dX4_mayHave_8 : decode cX4_mayHave 8 = .ok (.if_icmp .eq 8, 3) := by decide +kernel
theorem dX4_mayHave_11 : decode cX4_mayHave 11 = .ok (.iload_n 3, 1) := by decide +kernel
theorem dX4_mayHave_12 : decode cX4_mayHave 12 = .ok (.iload_n 2, 1) := by decide +kernel
theorem dX4_mayHave_13 : decode cX4_mayHave 13 = .ok (.if_icmp .ne 22, 3) := by decide +kernel
theorem dX4_mayHave_16 : decode cX4_mayHave 16 = .ok (.iload_n 2, 1) := by decide +kernel
theorem dX4_mayHave_17 : decode cX4_mayHave 17 = .ok (.ifCond .eq 14, 3) := by decide +kernel
theorem dX4_mayHave_20 : decode cX4_mayHave 20 = .ok (.aload_n 0, 1) := by decide +kernel
theorem dX4_mayHave_21 : decode cX4_mayHave 21 = .ok (.getfield 9, 3) := by decide +kernel
theorem dX4_mayHave_24 : decode cX4_mayHave 24 = .ok (.iconst 1, 1) := by decide +kernel
theorem dX4_mayHave_25 : decode cX4_mayHave 25 = .ok (.iload_n 2, 1) := by decide +kernel
theorem dX4_mayHave_26 : decode cX4_mayHave 26 = .ok (.ishl, 1) := by decide +kernel
theorem dX4_mayHave_27 : decode cX4_mayHave 27 = .ok (.iand, 1) := by decide +kernel
theorem dX4_mayHave_28 : decode cX4_mayHave 28 = .ok (.ifCond .eq 7, 3) := by decide +kernel
theorem dX4_mayHave_31 : decode cX4_mayHave 31 = .ok (.iconst 1, 1) := by decide +kernel
theorem dX4_mayHave_32 : decode cX4_mayHave 32 = .ok (.goto 4, 3) := by decide +kernel
theorem dX4_mayHave_35 : decode cX4_mayHave 35 = .ok (.iconst 0, 1) := by decide +kernel
theorem dX4_mayHave_36 : decode cX4_mayHave 36 = .ok (.ireturn, 1) := by decide +kernel
set_option maxRecDepth 20000 in
theorem ggX4_canHave_X7_at : GoodIn wsX4_canHave wsX7_at := goodIn_r _ [7, 8, 9, 6, 10] (by decide +kernel) (by decide +kernel)
set_option maxRecDepth 20000 in
theorem gX4_canHave_X7_at : GoodIn wsX4_canHave (va_wsS RX4 24 yX7_at wsX7_at) := goodIn_app (goodIn_of _ (by decide +kernel)) ggX4_canHave_X7_at
set_option maxRecDepth 20000 in
theorem ggX4_canHave_X4_mayHave : GoodIn wsX4_canHave wsX4_mayHave := goodIn_r _ [15, 16, 17, 18, 19, 14, 20, 21, 36, 37, 38, 39, 40, 41, 42, 43] (by decide +kernel) (by decide +kernel)
set_option maxRecDepth 20000 in
theorem gX4_canHave_X4_mayHave : GoodIn wsX4_canHave (wsV RX4 47 RX4 yX4_mayHave wsX4_mayHave) := goodIn_app (goodIn_of _ (by decide +kernel)) ggX4_canHave_X4_mayHave
set_option maxRecDepth 20000 in
theorem ggX4_canHave_X6_allow : GoodIn wsX4_canHave wsX6_allow := goodIn_r _ [26, 27, 28, 29, 30, 25, 31, 44, 45] (by decide +kernel) (by decide +kernel)
set_option maxRecDepth 20000 in
theorem gX4_canHave_X6_allow : GoodIn wsX4_canHave (wsV RX4 50 RX6 yX6_allow wsX6_allow) := goodIn_app (goodIn_of _ (by decide +kernel)) ggX4_canHave_X6_allow
set_option maxRecDepth 20000 in
theorem ggX4_canHave_X7_shiftsFrom : GoodIn wsX4_canHave wsX7_shiftsFrom := goodIn_r _ [34, 35, 5, 6, 7, 8, 9, 10] (by decide +kernel) (by decide +kernel)
set_option maxRecDepth 20000 in
theorem gX4_canHave_X7_shiftsFrom : GoodIn wsX4_canHave (va_wsS RX4 56 yX7_shiftsFrom wsX7_shiftsFrom) := goodIn_app (goodIn_of _ (by decide +kernel)) ggX4_canHave_X7_shiftsFrom
theorem dX4_canHave_0 : decode cX4_canHave 0 = .ok (.aload_n 0, 1) := by decide +kernel
theorem dX4_canHave_1 : decode cX4_canHave 1 = .ok (.getfield 41, 3) := by decide +kernel
theorem dX4_canHave_4 : decode cX4_canHave 4 = .ok (.istore_n 3, 1) := by decide +kernel
theorem dX4_canHave_5 : decode cX4_canHave 5 = .ok (.aload_n 0, 1) := by decide +kernel
theorem dX4_canHave_6 : decode cX4_canHave 6 = .ok (.getfield 44, 3) := by decide +kernel
theorem dX4_canHave_9 : decode cX4_canHave 9 = .ok (.istore 4, 2) := by decide +kernel
theorem dX4_canHave_11 : decode cX4_canHave 11 = .ok (.iconst 0, 1) := by decide +kernel
theorem dX4_canHave_12 : decode cX4_canHave 12 = .ok (.istore 5, 2) := by decide +kernel
theorem dX4_canHave_14 : decode cX4_canHave 14 = .ok (.iload 5, 2) := by decide +kernel
theorem dX4_canHave_16 : decode cX4_canHave 16 = .ok (.bipush 7, 2) := by decide +kernel
theorem dX4_canHave_18 : decode cX4_canHave 18 = .ok (.if_icmp .ge 60, 3) := by decide +kernel
theorem dX4_canHave_21 : decode cX4_canHave 21 = .ok (.iload_n 1, 1) := by decide +kernel
theorem dX4_canHave_22 : decode cX4_canHave 22 = .ok (.iload 5, 2) := by decide +kernel
theorem dX4_canHave_24 : decode cX4_canHave 24 = .ok (.invokestatic 24, 3) := by decide +kernel
theorem dX4_canHave_27 : decode cX4_canHave 27 = .ok (.istore 6, 2) := by decide +kernel
theorem dX4_canHave_29 : decode cX4_canHave 29 = .ok (.aload_n 0, 1) := by decide +kernel
theorem dX4_canHave_30 : decode cX4_canHave 30 = .ok (.iload 5, 2) := by decide +kernel
theorem dX4_canHave_32 : decode cX4_canHave 32 = .ok (.iload 6, 2) := by decide +kernel
theorem dX4_canHave_34 : decode cX4_canHave 34 = .ok (.invokevirtual 47, 3) := by decide +kernel
theorem dX4_canHave_37 : decode cX4_canHave 37 = .ok (.ifCond .eq 15, 3) := by decide +kernel
theorem dX4_canHave_40 : decode cX4_canHave 40 = .ok (.aload_n 2, 1) := by decide +kernel
theorem dX4_canHave_41 : decode cX4_canHave 41 = .ok (.iload_n 3, 1) := by decide +kernel
theorem dX4_canHave_42 : decode cX4_canHave 42 = .ok (.iload 4, 2) := by decide +kernel
theorem dX4_canHave_44 : decode cX4_canHave 44 = .ok (.iload 6, 2) := by decide +kernel
theorem dX4_canHave_46 : decode cX4_canHave 46 = .ok (.invokevirtual 50, 3) := by decide +kernel
theorem dX4_canHave_49 : decode cX4_canHave 49 = .ok (.ifCond .ne 5, 3) := by decide +kernel
theorem dX4_canHave_52 : decode cX4_canHave 52 = .ok (.iconst 0, 1) := by decide +kernel
theorem dX4_canHave_53 : decode cX4_canHave 53 = .ok (.ireturn, 1) := by decide +kernel
theorem dX4_canHave_54 : decode cX4_canHave 54 = .ok (.iload 6, 2) := by decide +kernel
theorem dX4_canHave_56 : decode cX4_canHave 56 = .ok (.istore_n 3, 1) := by decide +kernel
theorem dX4_canHave_57 : decode cX4_canHave 57 = .ok (.iload 6, 2) := by decide +kernel
theorem dX4_canHave_59 : decode cX4_canHave 59 = .ok (.ifCond .ne 7, 3) := by decide +kernel
theorem dX4_canHave_62 : decode cX4_canHave 62 = .ok (.iconst 0, 1) := by decide +kernel
theorem dX4_canHave_63 : decode cX4_canHave 63 = .ok (.goto 7, 3) := by decide +kernel
theorem dX4_canHave_66 : decode cX4_canHave 66 = .ok (.iload 4, 2) := by decide +kernel
theorem dX4_canHave_68 : decode cX4_canHave 68 = .ok (.iconst 1, 1) := by decide +kernel
theorem dX4_canHave_69 : decode cX4_canHave 69 = .ok (.iadd, 1) := by decide +kernel
theorem dX4_canHave_70 : decode cX4_canHave 70 = .ok (.istore 4, 2) := by decide +kernel
theorem dX4_canHave_72 : decode cX4_canHave 72 = .ok (.iinc 5 1, 3) := by decide +kernel
theorem dX4_canHave_75 : decode cX4_canHave 75 = .ok (.goto (-61), 3) := by decide +kernel
theorem dX4_canHave_78 : decode cX4_canHave 78 = .ok (.iload_n 1, 1) := by decide +kernel
theorem dX4_canHave_79 : decode cX4_canHave 79 = .ok (.iconst 0, 1) := by decide +kernel
theorem dX4_canHave_80 : decode cX4_canHave 80 = .ok (.invokestatic 56, 3) := by decide +kernel
theorem dX4_canHave_83 : decode cX4_canHave 83 = .ok (.aload_n 0, 1) := by decide +kernel
theorem dX4_canHave_84 : decode cX4_canHave 84 = .ok (.getfield 15, 3) := by decide +kernel
theorem dX4_canHave_87 : decode cX4_canHave 87 = .ok (.if_icmp .gt 7, 3) := by decide +kernel
theorem dX4_canHave_90 : decode cX4_canHave 90 = .ok (.iconst 1, 1) := by decide +kernel
theorem dX4_canHave_91 : decode cX4_canHave 91 = .ok (.goto 4, 3) := by decide +kernel
theorem dX4_canHave_94 : decode cX4_canHave 94 = .ok (.iconst 0, 1) := by decide +kernel
theorem dX4_canHave_95 : decode cX4_canHave 95 = .ok (.ireturn, 1) := by decide +kernel
set_option maxRecDepth 20000 in
theorem ggX4_noteWeek_X7_at : GoodIn wsX4_noteWeek wsX7_at := goodIn_r _ [10, 11, 12, 9, 13] (by decide +kernel) (by decide +kernel)
set_option maxRecDepth 20000 in
theorem gX4_noteWeek_X7_at : GoodIn wsX4_noteWeek (va_wsS RX4 24 yX7_at wsX7_at) := goodIn_app (goodIn_of _ (by decide +kernel)) ggX4_noteWeek_X7_at
set_option maxRecDepth 20000 in
theorem ggX4_noteWeek_X7_shiftsFrom : GoodIn wsX4_noteWeek wsX7_shiftsFrom := goodIn_r _ [16, 17, 8, 9, 10, 11, 12, 13] (by decide +kernel) (by decide +kernel)
set_option maxRecDepth 20000 in
theorem gX4_noteWeek_X7_shiftsFrom : GoodIn wsX4_noteWeek (va_wsS RX4 56 yX7_shiftsFrom wsX7_shiftsFrom) := goodIn_app (goodIn_of _ (by decide +kernel)) ggX4_noteWeek_X7_shiftsFrom
theorem dX4_noteWeek_0 : decode cX4_noteWeek 0 = .ok (.iconst 0, 1) := by decide +kernel
theorem dX4_noteWeek_1 : decode cX4_noteWeek 1 = .ok (.istore_n 1, 1) := by decide +kernel
theorem dX4_noteWeek_2 : decode cX4_noteWeek 2 = .ok (.iload_n 1, 1) := by decide +kernel
theorem dX4_noteWeek_3 : decode cX4_noteWeek 3 = .ok (.bipush 7, 2) := by decide +kernel
theorem dX4_noteWeek_5 : decode cX4_noteWeek 5 = .ok (.if_icmp .ge 34, 3) := by decide +kernel
theorem dX4_noteWeek_8 : decode cX4_noteWeek 8 = .ok (.aload_n 0, 1) := by decide +kernel
theorem dX4_noteWeek_9 : decode cX4_noteWeek 9 = .ok (.aload_n 0, 1) := by decide +kernel
theorem dX4_noteWeek_10 : decode cX4_noteWeek 10 = .ok (.getfield 21, 3) := by decide +kernel
theorem dX4_noteWeek_13 : decode cX4_noteWeek 13 = .ok (.iload_n 1, 1) := by decide +kernel
theorem dX4_noteWeek_14 : decode cX4_noteWeek 14 = .ok (.invokestatic 24, 3) := by decide +kernel
theorem dX4_noteWeek_17 : decode cX4_noteWeek 17 = .ok (.ifCond .ne 7, 3) := by decide +kernel
theorem dX4_noteWeek_20 : decode cX4_noteWeek 20 = .ok (.iconst 0, 1) := by decide +kernel
theorem dX4_noteWeek_21 : decode cX4_noteWeek 21 = .ok (.goto 9, 3) := by decide +kernel
theorem dX4_noteWeek_24 : decode cX4_noteWeek 24 = .ok (.aload_n 0, 1) := by decide +kernel
theorem dX4_noteWeek_25 : decode cX4_noteWeek 25 = .ok (.getfield 44, 3) := by decide +kernel
theorem dX4_noteWeek_28 : decode cX4_noteWeek 28 = .ok (.iconst 1, 1) := by decide +kernel
theorem dX4_noteWeek_29 : decode cX4_noteWeek 29 = .ok (.iadd, 1) := by decide +kernel
theorem dX4_noteWeek_30 : decode cX4_noteWeek 30 = .ok (.putfield 44, 3) := by decide +kernel
theorem dX4_noteWeek_33 : decode cX4_noteWeek 33 = .ok (.iinc 1 1, 3) := by decide +kernel
theorem dX4_noteWeek_36 : decode cX4_noteWeek 36 = .ok (.goto (-34), 3) := by decide +kernel
theorem dX4_noteWeek_39 : decode cX4_noteWeek 39 = .ok (.aload_n 0, 1) := by decide +kernel
theorem dX4_noteWeek_40 : decode cX4_noteWeek 40 = .ok (.aload_n 0, 1) := by decide +kernel
theorem dX4_noteWeek_41 : decode cX4_noteWeek 41 = .ok (.getfield 21, 3) := by decide +kernel
theorem dX4_noteWeek_44 : decode cX4_noteWeek 44 = .ok (.bipush 6, 2) := by decide +kernel
theorem dX4_noteWeek_46 : decode cX4_noteWeek 46 = .ok (.invokestatic 24, 3) := by decide +kernel
theorem dX4_noteWeek_49 : decode cX4_noteWeek 49 = .ok (.putfield 41, 3) := by decide +kernel
theorem dX4_noteWeek_52 : decode cX4_noteWeek 52 = .ok (.aload_n 0, 1) := by decide +kernel
theorem dX4_noteWeek_53 : decode cX4_noteWeek 53 = .ok (.dup, 1) := by decide +kernel
theorem dX4_noteWeek_54 : decode cX4_noteWeek 54 = .ok (.getfield 59, 3) := by decide +kernel
theorem dX4_noteWeek_57 : decode cX4_noteWeek 57 = .ok (.aload_n 0, 1) := by decide +kernel
theorem dX4_noteWeek_58 : decode cX4_noteWeek 58 = .ok (.getfield 21, 3) := by decide +kernel
theorem dX4_noteWeek_61 : decode cX4_noteWeek 61 = .ok (.iconst 5, 1) := by decide +kernel
theorem dX4_noteWeek_62 : decode cX4_noteWeek 62 = .ok (.invokestatic 56, 3) := by decide +kernel
theorem dX4_noteWeek_65 : decode cX4_noteWeek 65 = .ok (.iadd, 1) := by decide +kernel
theorem dX4_noteWeek_66 : decode cX4_noteWeek 66 = .ok (.putfield 59, 3) := by decide +kernel
theorem dX4_noteWeek_69 : decode cX4_noteWeek 69 = .ok (.aload_n 0, 1) := by decide +kernel
theorem dX4_noteWeek_70 : decode cX4_noteWeek 70 = .ok (.iconst 0, 1) := by decide +kernel
theorem dX4_noteWeek_71 : decode cX4_noteWeek 71 = .ok (.putfield 21, 3) := by decide +kernel
theorem dX4_noteWeek_74 : decode cX4_noteWeek 74 = .ok (.aload_n 0, 1) := by decide +kernel
theorem dX4_noteWeek_75 : decode cX4_noteWeek 75 = .ok (.iconst 0, 1) := by decide +kernel
theorem dX4_noteWeek_76 : decode cX4_noteWeek 76 = .ok (.putfield 18, 3) := by decide +kernel
theorem dX4_noteWeek_79 : decode cX4_noteWeek 79 = .ok (.aload_n 0, 1) := by decide +kernel
theorem dX4_noteWeek_80 : decode cX4_noteWeek 80 = .ok (.iconst 0, 1) := by decide +kernel
theorem dX4_noteWeek_81 : decode cX4_noteWeek 81 = .ok (.putfield 34, 3) := by decide +kernel
theorem dX4_noteWeek_84 : decode cX4_noteWeek 84 = .ok (.return_, 1) := by decide +kernel
set_option maxRecDepth 20000 in
theorem ggX5_init_X2_init : GoodIn wsX5_init wsX2_init := goodIn_r _ [5, 6, 7, 8] (by decide +kernel) (by decide +kernel)
set_option maxRecDepth 20000 in
theorem gX5_init_X2_init_n9 : GoodIn wsX5_init (wsX2_init) := ggX5_init_X2_init
theorem dX5_init_0 : decode cX5_init 0 = .ok (.aload_n 0, 1) := by decide +kernel
theorem dX5_init_1 : decode cX5_init 1 = .ok (.invokespecial 9, 3) := by decide +kernel
theorem dX5_init_4 : decode cX5_init 4 = .ok (.aload_n 0, 1) := by decide +kernel
theorem dX5_init_5 : decode cX5_init 5 = .ok (.bipush 28, 2) := by decide +kernel
theorem dX5_init_7 : decode cX5_init 7 = .ok (.newarray .long, 2) := by decide +kernel
theorem dX5_init_9 : decode cX5_init 9 = .ok (.putfield 15, 3) := by decide +kernel
theorem dX5_init_12 : decode cX5_init 12 = .ok (.return_, 1) := by decide +kernel
set_option maxRecDepth 20000 in
theorem ggX5_priceOf_X7_with : GoodIn wsX5_priceOf wsX7_with := goodIn_r _ [8, 9, 10, 7, 11] (by decide +kernel) (by decide +kernel)
set_option maxRecDepth 20000 in
theorem gX5_priceOf_X7_with : GoodIn wsX5_priceOf (va_wsS RX5 19 yX7_with wsX7_with) := goodIn_app (goodIn_of _ (by decide +kernel)) ggX5_priceOf_X7_with
set_option maxRecDepth 20000 in
theorem ggX5_priceOf_X4_breaksWish : GoodIn wsX5_priceOf wsX4_breaksWish := goodIn_r _ [16, 17, 18, 19, 20, 21, 22, 23, 24, 25] (by decide +kernel) (by decide +kernel)
set_option maxRecDepth 20000 in
theorem gX5_priceOf_X4_breaksWish : GoodIn wsX5_priceOf (wsV RX5 35 RX4 yX4_breaksWish wsX4_breaksWish) := goodIn_app (goodIn_of _ (by decide +kernel)) ggX5_priceOf_X4_breaksWish
theorem dX5_priceOf_0 : decode cX5_priceOf 0 = .ok (.iconst 0, 1) := by decide +kernel
theorem dX5_priceOf_1 : decode cX5_priceOf 1 = .ok (.iload_n 1, 1) := by decide +kernel
theorem dX5_priceOf_2 : decode cX5_priceOf 2 = .ok (.iload_n 2, 1) := by decide +kernel
theorem dX5_priceOf_3 : decode cX5_priceOf 3 = .ok (.invokestatic 19, 3) := by decide +kernel
theorem dX5_priceOf_6 : decode cX5_priceOf 6 = .ok (.i2l, 1) := by decide +kernel
theorem dX5_priceOf_7 : decode cX5_priceOf 7 = .ok (.lstore 4, 2) := by decide +kernel
theorem dX5_priceOf_9 : decode cX5_priceOf 9 = .ok (.iload_n 3, 1) := by decide +kernel
theorem dX5_priceOf_10 : decode cX5_priceOf 10 = .ok (.ifCond .ne 11, 3) := by decide +kernel
theorem dX5_priceOf_13 : decode cX5_priceOf 13 = .ok (.lload 4, 2) := by decide +kernel
theorem dX5_priceOf_15 : decode cX5_priceOf 15 = .ok (.ldc2_w 23, 3) := by decide +kernel
theorem dX5_priceOf_18 : decode cX5_priceOf 18 = .ok (.ladd, 1) := by decide +kernel
theorem dX5_priceOf_19 : decode cX5_priceOf 19 = .ok (.lstore 4, 2) := by decide +kernel
theorem dX5_priceOf_21 : decode cX5_priceOf 21 = .ok (.iload_n 2, 1) := by decide +kernel
theorem dX5_priceOf_22 : decode cX5_priceOf 22 = .ok (.ifCond .eq 11, 3) := by decide +kernel
theorem dX5_priceOf_25 : decode cX5_priceOf 25 = .ok (.lload 4, 2) := by decide +kernel
theorem dX5_priceOf_27 : decode cX5_priceOf 27 = .ok (.ldc2_w 25, 3) := by decide +kernel
theorem dX5_priceOf_30 : decode cX5_priceOf 30 = .ok (.ladd, 1) := by decide +kernel
theorem dX5_priceOf_31 : decode cX5_priceOf 31 = .ok (.lstore 4, 2) := by decide +kernel
theorem dX5_priceOf_33 : decode cX5_priceOf 33 = .ok (.iload_n 2, 1) := by decide +kernel
theorem dX5_priceOf_34 : decode cX5_priceOf 34 = .ok (.ifCond .eq 22, 3) := by decide +kernel
theorem dX5_priceOf_37 : decode cX5_priceOf 37 = .ok (.iload_n 1, 1) := by decide +kernel
theorem dX5_priceOf_38 : decode cX5_priceOf 38 = .ok (.iconst 5, 1) := by decide +kernel
theorem dX5_priceOf_39 : decode cX5_priceOf 39 = .ok (.if_icmp .lt 17, 3) := by decide +kernel
theorem dX5_priceOf_42 : decode cX5_priceOf 42 = .ok (.lload 4, 2) := by decide +kernel
theorem dX5_priceOf_44 : decode cX5_priceOf 44 = .ok (.ldc2_w 27, 3) := by decide +kernel
theorem dX5_priceOf_47 : decode cX5_priceOf 47 = .ok (.aload_n 0, 1) := by decide +kernel
theorem dX5_priceOf_48 : decode cX5_priceOf 48 = .ok (.getfield 29, 3) := by decide +kernel
theorem dX5_priceOf_51 : decode cX5_priceOf 51 = .ok (.i2l, 1) := by decide +kernel
theorem dX5_priceOf_52 : decode cX5_priceOf 52 = .ok (.lmul, 1) := by decide +kernel
theorem dX5_priceOf_53 : decode cX5_priceOf 53 = .ok (.ladd, 1) := by decide +kernel
theorem dX5_priceOf_54 : decode cX5_priceOf 54 = .ok (.lstore 4, 2) := by decide +kernel
theorem dX5_priceOf_56 : decode cX5_priceOf 56 = .ok (.aload_n 0, 1) := by decide +kernel
theorem dX5_priceOf_57 : decode cX5_priceOf 57 = .ok (.iload_n 1, 1) := by decide +kernel
theorem dX5_priceOf_58 : decode cX5_priceOf 58 = .ok (.iload_n 2, 1) := by decide +kernel
theorem dX5_priceOf_59 : decode cX5_priceOf 59 = .ok (.invokevirtual 35, 3) := by decide +kernel
theorem dX5_priceOf_62 : decode cX5_priceOf 62 = .ok (.ifCond .eq 11, 3) := by decide +kernel
theorem dX5_priceOf_65 : decode cX5_priceOf 65 = .ok (.lload 4, 2) := by decide +kernel
theorem dX5_priceOf_67 : decode cX5_priceOf 67 = .ok (.ldc2_w 39, 3) := by decide +kernel
theorem dX5_priceOf_70 : decode cX5_priceOf 70 = .ok (.ladd, 1) := by decide +kernel
theorem dX5_priceOf_71 : decode cX5_priceOf 71 = .ok (.lstore 4, 2) := by decide +kernel
theorem dX5_priceOf_73 : decode cX5_priceOf 73 = .ok (.lload 4, 2) := by decide +kernel
theorem dX5_priceOf_75 : decode cX5_priceOf 75 = .ok (.lreturn, 1) := by decide +kernel
theorem dX5_weekOf_0 : decode cX5_weekOf 0 = .ok (.lload_n 0, 1) := by decide +kernel
theorem dX5_weekOf_1 : decode cX5_weekOf 1 = .ok (.ldc2_w 41, 3) := by decide +kernel
theorem dX5_weekOf_4 : decode cX5_weekOf 4 = .ok (.lcmp, 1) := by decide +kernel
theorem dX5_weekOf_5 : decode cX5_weekOf 5 = .ok (.ifCond .ne 7, 3) := by decide +kernel
theorem dX5_weekOf_8 : decode cX5_weekOf 8 = .ok (.iconst 0, 1) := by decide +kernel
theorem dX5_weekOf_9 : decode cX5_weekOf 9 = .ok (.goto 9, 3) := by decide +kernel
theorem dX5_weekOf_12 : decode cX5_weekOf 12 = .ok (.lload_n 0, 1) := by decide +kernel
theorem dX5_weekOf_13 : decode cX5_weekOf 13 = .ok (.ldc2_w 43, 3) := by decide +kernel
theorem dX5_weekOf_16 : decode cX5_weekOf 16 = .ok (.land, 1) := by decide +kernel
theorem dX5_weekOf_17 : decode cX5_weekOf 17 = .ok (.l2i, 1) := by decide +kernel
theorem dX5_weekOf_18 : decode cX5_weekOf 18 = .ok (.ireturn, 1) := by decide +kernel
theorem dX5_put_0 : decode cX5_put 0 = .ok (.iload_n 1, 1) := by decide +kernel
theorem dX5_put_1 : decode cX5_put 1 = .ok (.iconst 4, 1) := by decide +kernel
theorem dX5_put_2 : decode cX5_put 2 = .ok (.imul, 1) := by decide +kernel
theorem dX5_put_3 : decode cX5_put 3 = .ok (.iload_n 2, 1) := by decide +kernel
theorem dX5_put_4 : decode cX5_put 4 = .ok (.iadd, 1) := by decide +kernel
theorem dX5_put_5 : decode cX5_put 5 = .ok (.istore 5, 2) := by decide +kernel
theorem dX5_put_7 : decode cX5_put 7 = .ok (.iload 5, 2) := by decide +kernel
theorem dX5_put_9 : decode cX5_put 9 = .ok (.ifCond .lt 21, 3) := by decide +kernel
theorem dX5_put_12 : decode cX5_put 12 = .ok (.iload 5, 2) := by decide +kernel
theorem dX5_put_14 : decode cX5_put 14 = .ok (.aload_n 0, 1) := by decide +kernel
theorem dX5_put_15 : decode cX5_put 15 = .ok (.getfield 15, 3) := by decide +kernel
theorem dX5_put_18 : decode cX5_put 18 = .ok (.arraylength, 1) := by decide +kernel
theorem dX5_put_19 : decode cX5_put 19 = .ok (.if_icmp .ge 11, 3) := by decide +kernel
theorem dX5_put_22 : decode cX5_put 22 = .ok (.aload_n 0, 1) := by decide +kernel
theorem dX5_put_23 : decode cX5_put 23 = .ok (.getfield 15, 3) := by decide +kernel
theorem dX5_put_26 : decode cX5_put 26 = .ok (.iload 5, 2) := by decide +kernel
theorem dX5_put_28 : decode cX5_put 28 = .ok (.lload_n 3, 1) := by decide +kernel
theorem dX5_put_29 : decode cX5_put 29 = .ok (.lastore, 1) := by decide +kernel
theorem dX5_put_30 : decode cX5_put 30 = .ok (.return_, 1) := by decide +kernel
theorem dX5_none_0 : decode cX5_none 0 = .ok (.ldc2_w 41, 3) := by decide +kernel
theorem dX5_none_3 : decode cX5_none 3 = .ok (.lreturn, 1) := by decide +kernel
theorem dX5_start_0 : decode cX5_start 0 = .ok (.lconst 0, 1) := by decide +kernel
theorem dX5_start_1 : decode cX5_start 1 = .ok (.lreturn, 1) := by decide +kernel
theorem dX5_longer_0 : decode cX5_longer 0 = .ok (.iload_n 3, 1) := by decide +kernel
theorem dX5_longer_1 : decode cX5_longer 1 = .ok (.iconst 4, 1) := by decide +kernel
theorem dX5_longer_2 : decode cX5_longer 2 = .ok (.imul, 1) := by decide +kernel
theorem dX5_longer_3 : decode cX5_longer 3 = .ok (.iload 4, 2) := by decide +kernel
theorem dX5_longer_5 : decode cX5_longer 5 = .ok (.iadd, 1) := by decide +kernel
theorem dX5_longer_6 : decode cX5_longer 6 = .ok (.istore 5, 2) := by decide +kernel
theorem dX5_longer_8 : decode cX5_longer 8 = .ok (.iload 5, 2) := by decide +kernel
theorem dX5_longer_10 : decode cX5_longer 10 = .ok (.ifCond .lt 13, 3) := by decide +kernel
theorem dX5_longer_13 : decode cX5_longer 13 = .ok (.iload 5, 2) := by decide +kernel
theorem dX5_longer_15 : decode cX5_longer 15 = .ok (.aload_n 0, 1) := by decide +kernel
theorem dX5_longer_16 : decode cX5_longer 16 = .ok (.getfield 15, 3) := by decide +kernel
theorem dX5_longer_19 : decode cX5_longer 19 = .ok (.arraylength, 1) := by decide +kernel
theorem dX5_longer_20 : decode cX5_longer 20 = .ok (.if_icmp .lt 9, 3) := by decide +kernel
theorem dX5_longer_23 : decode cX5_longer 23 = .ok (.ldc2_w 41, 3) := by decide +kernel
theorem dX5_longer_26 : decode cX5_longer 26 = .ok (.goto 12, 3) := by decide +kernel
theorem dX5_longer_29 : decode cX5_longer 29 = .ok (.lload_n 1, 1) := by decide +kernel
theorem dX5_longer_30 : decode cX5_longer 30 = .ok (.aload_n 0, 1) := by decide +kernel
theorem dX5_longer_31 : decode cX5_longer 31 = .ok (.getfield 15, 3) := by decide +kernel
theorem dX5_longer_34 : decode cX5_longer 34 = .ok (.iload 5, 2) := by decide +kernel
theorem dX5_longer_36 : decode cX5_longer 36 = .ok (.laload, 1) := by decide +kernel
theorem dX5_longer_37 : decode cX5_longer 37 = .ok (.ladd, 1) := by decide +kernel
theorem dX5_longer_38 : decode cX5_longer 38 = .ok (.lreturn, 1) := by decide +kernel
theorem dX5_joined_0 : decode cX5_joined 0 = .ok (.lload_n 1, 1) := by decide +kernel
theorem dX5_joined_1 : decode cX5_joined 1 = .ok (.lload_n 3, 1) := by decide +kernel
theorem dX5_joined_2 : decode cX5_joined 2 = .ok (.invokestatic 45, 3) := by decide +kernel
theorem dX5_joined_5 : decode cX5_joined 5 = .ok (.lreturn, 1) := by decide +kernel
set_option maxRecDepth 20000 in
theorem ggX6_init_X6_pairOf : GoodIn wsX6_init wsX6_pairOf := goodIn_r _ [9] (by decide +kernel) (by decide +kernel)
set_option maxRecDepth 20000 in
theorem gX6_init_X6_pairOf : GoodIn wsX6_init (va_wsS RX6 9 yX6_pairOf wsX6_pairOf) := goodIn_app (goodIn_of _ (by decide +kernel)) ggX6_init_X6_pairOf
theorem dX6_init_0 : decode cX6_init 0 = .ok (.aload_n 0, 1) := by decide +kernel
theorem dX6_init_1 : decode cX6_init 1 = .ok (.invokespecial 3, 3) := by decide +kernel
theorem dX6_init_4 : decode cX6_init 4 = .ok (.aload_n 0, 1) := by decide +kernel
theorem dX6_init_5 : decode cX6_init 5 = .ok (.iconst 2, 1) := by decide +kernel
theorem dX6_init_6 : decode cX6_init 6 = .ok (.iconst 1, 1) := by decide +kernel
theorem dX6_init_7 : decode cX6_init 7 = .ok (.invokestatic 9, 3) := by decide +kernel
theorem dX6_init_10 : decode cX6_init 10 = .ok (.iconst 3, 1) := by decide +kernel
theorem dX6_init_11 : decode cX6_init 11 = .ok (.iconst 1, 1) := by decide +kernel
theorem dX6_init_12 : decode cX6_init 12 = .ok (.invokestatic 9, 3) := by decide +kernel
theorem dX6_init_15 : decode cX6_init 15 = .ok (.ior, 1) := by decide +kernel
theorem dX6_init_16 : decode cX6_init 16 = .ok (.iconst 3, 1) := by decide +kernel
theorem dX6_init_17 : decode cX6_init 17 = .ok (.iconst 2, 1) := by decide +kernel
theorem dX6_init_18 : decode cX6_init 18 = .ok (.invokestatic 9, 3) := by decide +kernel
theorem dX6_init_21 : decode cX6_init 21 = .ok (.ior, 1) := by decide +kernel
theorem dX6_init_22 : decode cX6_init 22 = .ok (.putfield 15, 3) := by decide +kernel
theorem dX6_init_25 : decode cX6_init 25 = .ok (.aload_n 0, 1) := by decide +kernel
theorem dX6_init_26 : decode cX6_init 26 = .ok (.iconst 5, 1) := by decide +kernel
theorem dX6_init_27 : decode cX6_init 27 = .ok (.putfield 19, 3) := by decide +kernel
theorem dX6_init_30 : decode cX6_init 30 = .ok (.return_, 1) := by decide +kernel
theorem dX6_pairOf_0 : decode cX6_pairOf 0 = .ok (.iconst 1, 1) := by decide +kernel
theorem dX6_pairOf_1 : decode cX6_pairOf 1 = .ok (.iload_n 0, 1) := by decide +kernel
theorem dX6_pairOf_2 : decode cX6_pairOf 2 = .ok (.iconst 4, 1) := by decide +kernel
theorem dX6_pairOf_3 : decode cX6_pairOf 3 = .ok (.imul, 1) := by decide +kernel
theorem dX6_pairOf_4 : decode cX6_pairOf 4 = .ok (.iload_n 1, 1) := by decide +kernel
theorem dX6_pairOf_5 : decode cX6_pairOf 5 = .ok (.iadd, 1) := by decide +kernel
theorem dX6_pairOf_6 : decode cX6_pairOf 6 = .ok (.ishl, 1) := by decide +kernel
theorem dX6_pairOf_7 : decode cX6_pairOf 7 = .ok (.ireturn, 1) := by decide +kernel
set_option maxRecDepth 20000 in
theorem ggX6_changeFollowing_X6_pairOf : GoodIn wsX6_changeFollowing wsX6_pairOf := goodIn_r _ [5] (by decide +kernel) (by decide +kernel)
set_option maxRecDepth 20000 in
theorem gX6_changeFollowing_X6_pairOf : GoodIn wsX6_changeFollowing (va_wsS RX6 9 yX6_pairOf wsX6_pairOf) := goodIn_app (goodIn_of _ (by decide +kernel)) ggX6_changeFollowing_X6_pairOf
theorem dX6_changeFollowing_0 : decode cX6_changeFollowing 0 = .ok (.aload_n 0, 1) := by decide +kernel
theorem dX6_changeFollowing_1 : decode cX6_changeFollowing 1 = .ok (.getfield 15, 3) := by decide +kernel
theorem dX6_changeFollowing_4 : decode cX6_changeFollowing 4 = .ok (.istore 4, 2) := by decide +kernel
theorem dX6_changeFollowing_6 : decode cX6_changeFollowing 6 = .ok (.aload_n 0, 1) := by decide +kernel
theorem dX6_changeFollowing_7 : decode cX6_changeFollowing 7 = .ok (.iload_n 3, 1) := by decide +kernel
theorem dX6_changeFollowing_8 : decode cX6_changeFollowing 8 = .ok (.ifCond .eq 14, 3) := by decide +kernel
theorem dX6_changeFollowing_11 : decode cX6_changeFollowing 11 = .ok (.iload 4, 2) := by decide +kernel
theorem dX6_changeFollowing_13 : decode cX6_changeFollowing 13 = .ok (.iload_n 1, 1) := by decide +kernel
theorem dX6_changeFollowing_14 : decode cX6_changeFollowing 14 = .ok (.iload_n 2, 1) := by decide +kernel
theorem dX6_changeFollowing_15 : decode cX6_changeFollowing 15 = .ok (.invokestatic 9, 3) := by decide +kernel
theorem dX6_changeFollowing_18 : decode cX6_changeFollowing 18 = .ok (.ior, 1) := by decide +kernel
theorem dX6_changeFollowing_19 : decode cX6_changeFollowing 19 = .ok (.goto 13, 3) := by decide +kernel
theorem dX6_changeFollowing_22 : decode cX6_changeFollowing 22 = .ok (.iload 4, 2) := by decide +kernel
theorem dX6_changeFollowing_24 : decode cX6_changeFollowing 24 = .ok (.iload_n 1, 1) := by decide +kernel
theorem dX6_changeFollowing_25 : decode cX6_changeFollowing 25 = .ok (.iload_n 2, 1) := by decide +kernel
theorem dX6_changeFollowing_26 : decode cX6_changeFollowing 26 = .ok (.invokestatic 9, 3) := by decide +kernel
theorem dX6_changeFollowing_29 : decode cX6_changeFollowing 29 = .ok (.iconst (-1), 1) := by decide +kernel
theorem dX6_changeFollowing_30 : decode cX6_changeFollowing 30 = .ok (.ixor, 1) := by decide +kernel
theorem dX6_changeFollowing_31 : decode cX6_changeFollowing 31 = .ok (.iand, 1) := by decide +kernel
theorem dX6_changeFollowing_32 : decode cX6_changeFollowing 32 = .ok (.putfield 15, 3) := by decide +kernel
theorem dX6_changeFollowing_35 : decode cX6_changeFollowing 35 = .ok (.aload_n 0, 1) := by decide +kernel
theorem dX6_changeFollowing_36 : decode cX6_changeFollowing 36 = .ok (.getfield 15, 3) := by decide +kernel
theorem dX6_changeFollowing_39 : decode cX6_changeFollowing 39 = .ok (.iload 4, 2) := by decide +kernel
theorem dX6_changeFollowing_41 : decode cX6_changeFollowing 41 = .ok (.if_icmp .eq 7, 3) := by decide +kernel
theorem dX6_changeFollowing_44 : decode cX6_changeFollowing 44 = .ok (.iconst 1, 1) := by decide +kernel
theorem dX6_changeFollowing_45 : decode cX6_changeFollowing 45 = .ok (.goto 4, 3) := by decide +kernel
theorem dX6_changeFollowing_48 : decode cX6_changeFollowing 48 = .ok (.iconst 0, 1) := by decide +kernel
theorem dX6_changeFollowing_49 : decode cX6_changeFollowing 49 = .ok (.ireturn, 1) := by decide +kernel
set_option maxRecDepth 20000 in
theorem ggX6_allow_X6_pairOf : GoodIn wsX6_allow wsX6_pairOf := goodIn_r _ [6] (by decide +kernel) (by decide +kernel)
set_option maxRecDepth 20000 in
theorem gX6_allow_X6_pairOf : GoodIn wsX6_allow (va_wsS RX6 9 yX6_pairOf wsX6_pairOf) := goodIn_app (goodIn_of _ (by decide +kernel)) ggX6_allow_X6_pairOf
theorem dX6_allow_0 : decode cX6_allow 0 = .ok (.iload_n 3, 1) := by decide +kernel
theorem dX6_allow_1 : decode cX6_allow 1 = .ok (.ifCond .eq 24, 3) := by decide +kernel
theorem dX6_allow_4 : decode cX6_allow 4 = .ok (.iload_n 2, 1) := by decide +kernel
theorem dX6_allow_5 : decode cX6_allow 5 = .ok (.aload_n 0, 1) := by decide +kernel
theorem dX6_allow_6 : decode cX6_allow 6 = .ok (.getfield 19, 3) := by decide +kernel
theorem dX6_allow_9 : decode cX6_allow 9 = .ok (.if_icmp .ge 20, 3) := by decide +kernel
theorem dX6_allow_12 : decode cX6_allow 12 = .ok (.aload_n 0, 1) := by decide +kernel
theorem dX6_allow_13 : decode cX6_allow 13 = .ok (.getfield 15, 3) := by decide +kernel
theorem dX6_allow_16 : decode cX6_allow 16 = .ok (.iload_n 1, 1) := by decide +kernel
theorem dX6_allow_17 : decode cX6_allow 17 = .ok (.iload_n 3, 1) := by decide +kernel
theorem dX6_allow_18 : decode cX6_allow 18 = .ok (.invokestatic 9, 3) := by decide +kernel
theorem dX6_allow_21 : decode cX6_allow 21 = .ok (.iand, 1) := by decide +kernel
theorem dX6_allow_22 : decode cX6_allow 22 = .ok (.ifCond .ne 7, 3) := by decide +kernel
theorem dX6_allow_25 : decode cX6_allow 25 = .ok (.iconst 1, 1) := by decide +kernel
theorem dX6_allow_26 : decode cX6_allow 26 = .ok (.goto 4, 3) := by decide +kernel
theorem dX6_allow_29 : decode cX6_allow 29 = .ok (.iconst 0, 1) := by decide +kernel
theorem dX6_allow_30 : decode cX6_allow 30 = .ok (.ireturn, 1) := by decide +kernel
theorem dX7_placeOf_0 : decode cX7_placeOf 0 = .ok (.iconst 2, 1) := by decide +kernel
theorem dX7_placeOf_1 : decode cX7_placeOf 1 = .ok (.bipush 6, 2) := by decide +kernel
theorem dX7_placeOf_3 : decode cX7_placeOf 3 = .ok (.iload_n 0, 1) := by decide +kernel
theorem dX7_placeOf_4 : decode cX7_placeOf 4 = .ok (.isub, 1) := by decide +kernel
theorem dX7_placeOf_5 : decode cX7_placeOf 5 = .ok (.imul, 1) := by decide +kernel
theorem dX7_placeOf_6 : decode cX7_placeOf 6 = .ok (.ireturn, 1) := by decide +kernel
set_option maxRecDepth 20000 in
theorem ggX7_at_X7_placeOf : GoodIn wsX7_at wsX7_placeOf := goodIn_r _ [4] (by decide +kernel) (by decide +kernel)
set_option maxRecDepth 20000 in
theorem gX7_at_X7_placeOf : GoodIn wsX7_at (va_wsS RX7 9 yX7_placeOf wsX7_placeOf) := goodIn_app (goodIn_of _ (by decide +kernel)) ggX7_at_X7_placeOf
theorem dX7_at_0 : decode cX7_at 0 = .ok (.iload_n 0, 1) := by decide +kernel
theorem dX7_at_1 : decode cX7_at 1 = .ok (.iload_n 1, 1) := by decide +kernel
theorem dX7_at_2 : decode cX7_at 2 = .ok (.invokestatic 9, 3) := by decide +kernel
theorem dX7_at_5 : decode cX7_at 5 = .ok (.ishr, 1) := by decide +kernel
theorem dX7_at_6 : decode cX7_at 6 = .ok (.iconst 3, 1) := by decide +kernel
theorem dX7_at_7 : decode cX7_at 7 = .ok (.iand, 1) := by decide +kernel
theorem dX7_at_8 : decode cX7_at 8 = .ok (.ireturn, 1) := by decide +kernel
set_option maxRecDepth 20000 in
theorem ggX7_with_X7_placeOf : GoodIn wsX7_with wsX7_placeOf := goodIn_r _ [4] (by decide +kernel) (by decide +kernel)
set_option maxRecDepth 20000 in
theorem gX7_with_X7_placeOf : GoodIn wsX7_with (va_wsS RX7 9 yX7_placeOf wsX7_placeOf) := goodIn_app (goodIn_of _ (by decide +kernel)) ggX7_with_X7_placeOf
theorem dX7_with_0 : decode cX7_with 0 = .ok (.iload_n 1, 1) := by decide +kernel
theorem dX7_with_1 : decode cX7_with 1 = .ok (.invokestatic 9, 3) := by decide +kernel
theorem dX7_with_4 : decode cX7_with 4 = .ok (.istore_n 3, 1) := by decide +kernel
theorem dX7_with_5 : decode cX7_with 5 = .ok (.iload_n 0, 1) := by decide +kernel
theorem dX7_with_6 : decode cX7_with 6 = .ok (.iconst 3, 1) := by decide +kernel
theorem dX7_with_7 : decode cX7_with 7 = .ok (.iload_n 3, 1) := by decide +kernel
theorem dX7_with_8 : decode cX7_with 8 = .ok (.ishl, 1) := by decide +kernel
theorem dX7_with_9 : decode cX7_with 9 = .ok (.iconst (-1), 1) := by decide +kernel
theorem dX7_with_10 : decode cX7_with 10 = .ok (.ixor, 1) := by decide +kernel
theorem dX7_with_11 : decode cX7_with 11 = .ok (.iand, 1) := by decide +kernel
theorem dX7_with_12 : decode cX7_with 12 = .ok (.iload_n 2, 1) := by decide +kernel
theorem dX7_with_13 : decode cX7_with 13 = .ok (.iload_n 3, 1) := by decide +kernel
theorem dX7_with_14 : decode cX7_with 14 = .ok (.ishl, 1) := by decide +kernel
theorem dX7_with_15 : decode cX7_with 15 = .ok (.ior, 1) := by decide +kernel
theorem dX7_with_16 : decode cX7_with 16 = .ok (.ireturn, 1) := by decide +kernel
set_option maxRecDepth 20000 in
theorem ggX7_shiftsFrom_X7_at : GoodIn wsX7_shiftsFrom wsX7_at := goodIn_r _ [4, 5, 6, 3, 7] (by decide +kernel) (by decide +kernel)
set_option maxRecDepth 20000 in
theorem gX7_shiftsFrom_X7_at : GoodIn wsX7_shiftsFrom (va_wsS RX7 15 yX7_at wsX7_at) := goodIn_app (goodIn_of _ (by decide +kernel)) ggX7_shiftsFrom_X7_at
theorem dX7_shiftsFrom_0 : decode cX7_shiftsFrom 0 = .ok (.iconst 0, 1) := by decide +kernel
theorem dX7_shiftsFrom_1 : decode cX7_shiftsFrom 1 = .ok (.istore_n 2, 1) := by decide +kernel
theorem dX7_shiftsFrom_2 : decode cX7_shiftsFrom 2 = .ok (.iload_n 1, 1) := by decide +kernel
theorem dX7_shiftsFrom_3 : decode cX7_shiftsFrom 3 = .ok (.istore_n 3, 1) := by decide +kernel
theorem dX7_shiftsFrom_4 : decode cX7_shiftsFrom 4 = .ok (.iload_n 3, 1) := by decide +kernel
theorem dX7_shiftsFrom_5 : decode cX7_shiftsFrom 5 = .ok (.bipush 7, 2) := by decide +kernel
theorem dX7_shiftsFrom_7 : decode cX7_shiftsFrom 7 = .ok (.if_icmp .ge 20, 3) := by decide +kernel
theorem dX7_shiftsFrom_10 : decode cX7_shiftsFrom 10 = .ok (.iload_n 0, 1) := by decide +kernel
theorem dX7_shiftsFrom_11 : decode cX7_shiftsFrom 11 = .ok (.iload_n 3, 1) := by decide +kernel
theorem dX7_shiftsFrom_12 : decode cX7_shiftsFrom 12 = .ok (.invokestatic 15, 3) := by decide +kernel
theorem dX7_shiftsFrom_15 : decode cX7_shiftsFrom 15 = .ok (.ifCond .eq 6, 3) := by decide +kernel
theorem dX7_shiftsFrom_18 : decode cX7_shiftsFrom 18 = .ok (.iinc 2 1, 3) := by decide +kernel
theorem dX7_shiftsFrom_21 : decode cX7_shiftsFrom 21 = .ok (.iinc 3 1, 3) := by decide +kernel
theorem dX7_shiftsFrom_24 : decode cX7_shiftsFrom 24 = .ok (.goto (-20), 3) := by decide +kernel
theorem dX7_shiftsFrom_27 : decode cX7_shiftsFrom 27 = .ok (.iload_n 2, 1) := by decide +kernel
theorem dX7_shiftsFrom_28 : decode cX7_shiftsFrom 28 = .ok (.ireturn, 1) := by decide +kernel
set_option maxRecDepth 20000 in
theorem ggX8_init_X3_init : GoodIn wsX8_init wsX3_init := goodIn_r _ [27, 28, 2, 3, 29, 30, 63] (by decide +kernel) (by decide +kernel)
set_option maxRecDepth 20000 in
theorem gX8_init_X3_init_n17 : GoodIn wsX8_init (wsX3_init) := ggX8_init_X3_init
set_option maxRecDepth 20000 in
theorem ggX8_init_X6_init : GoodIn wsX8_init wsX6_init := goodIn_r _ [32, 33, 2, 3, 34, 35, 36, 37, 12, 38, 64, 65] (by decide +kernel) (by decide +kernel)
set_option maxRecDepth 20000 in
theorem gX8_init_X6_init_n24 : GoodIn wsX8_init (wsX6_init) := ggX8_init_X6_init
set_option maxRecDepth 20000 in
theorem ggX8_init_X1_init : GoodIn wsX8_init wsX1_init := goodIn_r _ [40, 41, 2, 3, 42, 43, 44, 66, 67] (by decide +kernel) (by decide +kernel)
set_option maxRecDepth 20000 in
theorem gX8_init_X1_init_n31 : GoodIn wsX8_init (wsX1_init) := ggX8_init_X1_init
set_option maxRecDepth 20000 in
theorem ggX8_init_X0_init : GoodIn wsX8_init wsX0_init := goodIn_r _ [46, 47, 48, 49, 50, 2, 3] (by decide +kernel) (by decide +kernel)
set_option maxRecDepth 20000 in
theorem gX8_init_X0_init_n38 : GoodIn wsX8_init (wsX0_init) := ggX8_init_X0_init
set_option maxRecDepth 20000 in
theorem ggX8_init_X5_init : GoodIn wsX8_init wsX5_init := goodIn_r _ [52, 42, 53, 47, 48, 49, 50, 2, 3, 68] (by decide +kernel) (by decide +kernel)
set_option maxRecDepth 20000 in
theorem gX8_init_X5_init_n45 : GoodIn wsX8_init (wsX5_init) := ggX8_init_X5_init
theorem dX8_init_0 : decode cX8_init 0 = .ok (.aload_n 0, 1) := by decide +kernel
theorem dX8_init_1 : decode cX8_init 1 = .ok (.invokespecial 3, 3) := by decide +kernel
theorem dX8_init_4 : decode cX8_init 4 = .ok (.aload_n 0, 1) := by decide +kernel
theorem dX8_init_5 : decode cX8_init 5 = .ok (.bipush 8, 2) := by decide +kernel
theorem dX8_init_7 : decode cX8_init 7 = .ok (.anewarray 9, 3) := by decide +kernel
theorem dX8_init_10 : decode cX8_init 10 = .ok (.putfield 11, 3) := by decide +kernel
theorem dX8_init_13 : decode cX8_init 13 = .ok (.aload_n 0, 1) := by decide +kernel
theorem dX8_init_14 : decode cX8_init 14 = .ok (.new 15, 3) := by decide +kernel
theorem dX8_init_17 : decode cX8_init 17 = .ok (.dup, 1) := by decide +kernel
theorem dX8_init_18 : decode cX8_init 18 = .ok (.invokespecial 17, 3) := by decide +kernel
theorem dX8_init_21 : decode cX8_init 21 = .ok (.putfield 18, 3) := by decide +kernel
theorem dX8_init_24 : decode cX8_init 24 = .ok (.aload_n 0, 1) := by decide +kernel
theorem dX8_init_25 : decode cX8_init 25 = .ok (.new 22, 3) := by decide +kernel
theorem dX8_init_28 : decode cX8_init 28 = .ok (.dup, 1) := by decide +kernel
theorem dX8_init_29 : decode cX8_init 29 = .ok (.invokespecial 24, 3) := by decide +kernel
theorem dX8_init_32 : decode cX8_init 32 = .ok (.putfield 25, 3) := by decide +kernel
theorem dX8_init_35 : decode cX8_init 35 = .ok (.aload_n 0, 1) := by decide +kernel
theorem dX8_init_36 : decode cX8_init 36 = .ok (.new 29, 3) := by decide +kernel
theorem dX8_init_39 : decode cX8_init 39 = .ok (.dup, 1) := by decide +kernel
theorem dX8_init_40 : decode cX8_init 40 = .ok (.invokespecial 31, 3) := by decide +kernel
theorem dX8_init_43 : decode cX8_init 43 = .ok (.putfield 32, 3) := by decide +kernel
theorem dX8_init_46 : decode cX8_init 46 = .ok (.aload_n 0, 1) := by decide +kernel
theorem dX8_init_47 : decode cX8_init 47 = .ok (.new 36, 3) := by decide +kernel
theorem dX8_init_50 : decode cX8_init 50 = .ok (.dup, 1) := by decide +kernel
theorem dX8_init_51 : decode cX8_init 51 = .ok (.invokespecial 38, 3) := by decide +kernel
theorem dX8_init_54 : decode cX8_init 54 = .ok (.putfield 39, 3) := by decide +kernel
theorem dX8_init_57 : decode cX8_init 57 = .ok (.aload_n 0, 1) := by decide +kernel
theorem dX8_init_58 : decode cX8_init 58 = .ok (.new 43, 3) := by decide +kernel
theorem dX8_init_61 : decode cX8_init 61 = .ok (.dup, 1) := by decide +kernel
theorem dX8_init_62 : decode cX8_init 62 = .ok (.invokespecial 45, 3) := by decide +kernel
theorem dX8_init_65 : decode cX8_init 65 = .ok (.putfield 46, 3) := by decide +kernel
theorem dX8_init_68 : decode cX8_init 68 = .ok (.return_, 1) := by decide +kernel
set_option maxRecDepth 20000 in
theorem ggX8_addPerson_X4_init : GoodIn wsX8_addPerson wsX4_init := goodIn_r _ [11, 12, 13, 14, 15, 16, 26, 27, 28, 29, 30, 31, 32, 33] (by decide +kernel) (by decide +kernel)
set_option maxRecDepth 20000 in
theorem gX8_addPerson_X4_init_n68 : GoodIn wsX8_addPerson (wsX4_init) := ggX8_addPerson_X4_init
theorem dX8_addPerson_0 : decode cX8_addPerson 0 = .ok (.iload_n 1, 1) := by decide +kernel
theorem dX8_addPerson_1 : decode cX8_addPerson 1 = .ok (.ifCond .le 10, 3) := by decide +kernel
theorem dX8_addPerson_4 : decode cX8_addPerson 4 = .ok (.iload_n 1, 1) := by decide +kernel
theorem dX8_addPerson_5 : decode cX8_addPerson 5 = .ok (.bipush (-15), 2) := by decide +kernel
theorem dX8_addPerson_7 : decode cX8_addPerson 7 = .ok (.iand, 1) := by decide +kernel
theorem dX8_addPerson_8 : decode cX8_addPerson 8 = .ok (.ifCond .eq 13, 3) := by decide +kernel
theorem dX8_addPerson_11 : decode cX8_addPerson 11 = .ok (.new 50, 3) := by decide +kernel
theorem dX8_addPerson_14 : decode cX8_addPerson 14 = .ok (.dup, 1) := by decide +kernel
theorem dX8_addPerson_15 : decode cX8_addPerson 15 = .ok (.ldc 52, 2) := by decide +kernel
theorem dX8_addPerson_17 : decode cX8_addPerson 17 = .ok (.invokespecial 54, 3) := by decide +kernel
theorem dX8_addPerson_20 : decode cX8_addPerson 20 = .ok (.athrow, 1) := by decide +kernel
theorem dX8_addPerson_21 : decode cX8_addPerson 21 = .ok (.iload_n 2, 1) := by decide +kernel
theorem dX8_addPerson_22 : decode cX8_addPerson 22 = .ok (.ifCond .lt 9, 3) := by decide +kernel
theorem dX8_addPerson_25 : decode cX8_addPerson 25 = .ok (.iload_n 2, 1) := by decide +kernel
theorem dX8_addPerson_26 : decode cX8_addPerson 26 = .ok (.bipush 7, 2) := by decide +kernel
theorem dX8_addPerson_28 : decode cX8_addPerson 28 = .ok (.if_icmp .le 13, 3) := by decide +kernel
theorem dX8_addPerson_31 : decode cX8_addPerson 31 = .ok (.new 50, 3) := by decide +kernel
theorem dX8_addPerson_34 : decode cX8_addPerson 34 = .ok (.dup, 1) := by decide +kernel
theorem dX8_addPerson_35 : decode cX8_addPerson 35 = .ok (.ldc 57, 2) := by decide +kernel
theorem dX8_addPerson_37 : decode cX8_addPerson 37 = .ok (.invokespecial 54, 3) := by decide +kernel
theorem dX8_addPerson_40 : decode cX8_addPerson 40 = .ok (.athrow, 1) := by decide +kernel
theorem dX8_addPerson_41 : decode cX8_addPerson 41 = .ok (.aload_n 0, 1) := by decide +kernel
theorem dX8_addPerson_42 : decode cX8_addPerson 42 = .ok (.getfield 59, 3) := by decide +kernel
theorem dX8_addPerson_45 : decode cX8_addPerson 45 = .ok (.ifCond .lt 15, 3) := by decide +kernel
theorem dX8_addPerson_48 : decode cX8_addPerson 48 = .ok (.aload_n 0, 1) := by decide +kernel
theorem dX8_addPerson_49 : decode cX8_addPerson 49 = .ok (.getfield 59, 3) := by decide +kernel
theorem dX8_addPerson_52 : decode cX8_addPerson 52 = .ok (.aload_n 0, 1) := by decide +kernel
theorem dX8_addPerson_53 : decode cX8_addPerson 53 = .ok (.getfield 11, 3) := by decide +kernel
theorem dX8_addPerson_56 : decode cX8_addPerson 56 = .ok (.arraylength, 1) := by decide +kernel
theorem dX8_addPerson_57 : decode cX8_addPerson 57 = .ok (.if_icmp .lt 13, 3) := by decide +kernel
theorem dX8_addPerson_60 : decode cX8_addPerson 60 = .ok (.new 63, 3) := by decide +kernel
theorem dX8_addPerson_63 : decode cX8_addPerson 63 = .ok (.dup, 1) := by decide +kernel
theorem dX8_addPerson_64 : decode cX8_addPerson 64 = .ok (.ldc 65, 2) := by decide +kernel
theorem dX8_addPerson_66 : decode cX8_addPerson 66 = .ok (.invokespecial 67, 3) := by decide +kernel
theorem dX8_addPerson_69 : decode cX8_addPerson 69 = .ok (.athrow, 1) := by decide +kernel
theorem dX8_addPerson_70 : decode cX8_addPerson 70 = .ok (.aload_n 0, 1) := by decide +kernel
theorem dX8_addPerson_71 : decode cX8_addPerson 71 = .ok (.getfield 11, 3) := by decide +kernel
theorem dX8_addPerson_74 : decode cX8_addPerson 74 = .ok (.aload_n 0, 1) := by decide +kernel
theorem dX8_addPerson_75 : decode cX8_addPerson 75 = .ok (.getfield 59, 3) := by decide +kernel
theorem dX8_addPerson_78 : decode cX8_addPerson 78 = .ok (.new 9, 3) := by decide +kernel
theorem dX8_addPerson_81 : decode cX8_addPerson 81 = .ok (.dup, 1) := by decide +kernel
theorem dX8_addPerson_82 : decode cX8_addPerson 82 = .ok (.iload_n 1, 1) := by decide +kernel
theorem dX8_addPerson_83 : decode cX8_addPerson 83 = .ok (.iload_n 2, 1) := by decide +kernel
theorem dX8_addPerson_84 : decode cX8_addPerson 84 = .ok (.invokespecial 68, 3) := by decide +kernel
theorem dX8_addPerson_87 : decode cX8_addPerson 87 = .ok (.aastore, 1) := by decide +kernel
theorem dX8_addPerson_88 : decode cX8_addPerson 88 = .ok (.aload_n 0, 1) := by decide +kernel
theorem dX8_addPerson_89 : decode cX8_addPerson 89 = .ok (.dup, 1) := by decide +kernel
theorem dX8_addPerson_90 : decode cX8_addPerson 90 = .ok (.getfield 59, 3) := by decide +kernel
theorem dX8_addPerson_93 : decode cX8_addPerson 93 = .ok (.dup_x1, 1) := by decide +kernel
theorem dX8_addPerson_94 : decode cX8_addPerson 94 = .ok (.iconst 1, 1) := by decide +kernel
theorem dX8_addPerson_95 : decode cX8_addPerson 95 = .ok (.iadd, 1) := by decide +kernel
theorem dX8_addPerson_96 : decode cX8_addPerson 96 = .ok (.putfield 59, 3) := by decide +kernel
theorem dX8_addPerson_99 : decode cX8_addPerson 99 = .ok (.ireturn, 1) := by decide +kernel
set_option maxRecDepth 20000 in
theorem ggX8_setNeed_X8_isDay : GoodIn wsX8_setNeed wsX8_isDay := goodIn_r _ [9] (by decide +kernel) (by decide +kernel)
set_option maxRecDepth 20000 in
theorem gX8_setNeed_X8_isDay : GoodIn wsX8_setNeed (va_wsS RX8 71 yX8_isDay wsX8_isDay) := goodIn_app (goodIn_of _ (by decide +kernel)) ggX8_setNeed_X8_isDay
set_option maxRecDepth 20000 in
theorem ggX8_setNeed_X8_isKind : GoodIn wsX8_setNeed wsX8_isKind := goodIn_r _ [12] (by decide +kernel) (by decide +kernel)
set_option maxRecDepth 20000 in
theorem gX8_setNeed_X8_isKind : GoodIn wsX8_setNeed (va_wsS RX8 75 yX8_isKind wsX8_isKind) := goodIn_app (goodIn_of _ (by decide +kernel)) ggX8_setNeed_X8_isKind
set_option maxRecDepth 20000 in
theorem ggX8_setNeed_X3_of : GoodIn wsX8_setNeed wsX3_of := goodIn_r _ [17, 18, 32] (by decide +kernel) (by decide +kernel)
set_option maxRecDepth 20000 in
theorem gX8_setNeed_X3_of : GoodIn wsX8_setNeed (wsV RX8 85 RX3 yX3_of wsX3_of) := goodIn_app (goodIn_of _ (by decide +kernel)) ggX8_setNeed_X3_of
set_option maxRecDepth 20000 in
theorem ggX8_setNeed_X3_put : GoodIn wsX8_setNeed wsX3_put := goodIn_r _ [22, 18, 32] (by decide +kernel) (by decide +kernel)
set_option maxRecDepth 20000 in
theorem gX8_setNeed_X3_put : GoodIn wsX8_setNeed (wsV RX8 89 RX3 yX3_put wsX3_put) := goodIn_app (goodIn_of _ (by decide +kernel)) ggX8_setNeed_X3_put
theorem dX8_setNeed_0 : decode cX8_setNeed 0 = .ok (.iload_n 1, 1) := by decide +kernel
theorem dX8_setNeed_1 : decode cX8_setNeed 1 = .ok (.invokestatic 71, 3) := by decide +kernel
theorem dX8_setNeed_4 : decode cX8_setNeed 4 = .ok (.ifCond .eq 10, 3) := by decide +kernel
theorem dX8_setNeed_7 : decode cX8_setNeed 7 = .ok (.iload_n 2, 1) := by decide +kernel
theorem dX8_setNeed_8 : decode cX8_setNeed 8 = .ok (.invokestatic 75, 3) := by decide +kernel
theorem dX8_setNeed_11 : decode cX8_setNeed 11 = .ok (.ifCond .ne 13, 3) := by decide +kernel
theorem dX8_setNeed_14 : decode cX8_setNeed 14 = .ok (.new 78, 3) := by decide +kernel
theorem dX8_setNeed_17 : decode cX8_setNeed 17 = .ok (.dup, 1) := by decide +kernel
theorem dX8_setNeed_18 : decode cX8_setNeed 18 = .ok (.ldc 80, 2) := by decide +kernel
theorem dX8_setNeed_20 : decode cX8_setNeed 20 = .ok (.invokespecial 82, 3) := by decide +kernel
theorem dX8_setNeed_23 : decode cX8_setNeed 23 = .ok (.athrow, 1) := by decide +kernel
theorem dX8_setNeed_24 : decode cX8_setNeed 24 = .ok (.iload_n 3, 1) := by decide +kernel
theorem dX8_setNeed_25 : decode cX8_setNeed 25 = .ok (.ifCond .lt 8, 3) := by decide +kernel
theorem dX8_setNeed_28 : decode cX8_setNeed 28 = .ok (.iload_n 3, 1) := by decide +kernel
theorem dX8_setNeed_29 : decode cX8_setNeed 29 = .ok (.iconst 5, 1) := by decide +kernel
theorem dX8_setNeed_30 : decode cX8_setNeed 30 = .ok (.if_icmp .le 13, 3) := by decide +kernel
theorem dX8_setNeed_33 : decode cX8_setNeed 33 = .ok (.new 50, 3) := by decide +kernel
theorem dX8_setNeed_36 : decode cX8_setNeed 36 = .ok (.dup, 1) := by decide +kernel
theorem dX8_setNeed_37 : decode cX8_setNeed 37 = .ok (.ldc 83, 2) := by decide +kernel
theorem dX8_setNeed_39 : decode cX8_setNeed 39 = .ok (.invokespecial 54, 3) := by decide +kernel
theorem dX8_setNeed_42 : decode cX8_setNeed 42 = .ok (.athrow, 1) := by decide +kernel
theorem dX8_setNeed_43 : decode cX8_setNeed 43 = .ok (.aload_n 0, 1) := by decide +kernel
theorem dX8_setNeed_44 : decode cX8_setNeed 44 = .ok (.getfield 18, 3) := by decide +kernel
theorem dX8_setNeed_47 : decode cX8_setNeed 47 = .ok (.iload_n 1, 1) := by decide +kernel
theorem dX8_setNeed_48 : decode cX8_setNeed 48 = .ok (.iload_n 2, 1) := by decide +kernel
theorem dX8_setNeed_49 : decode cX8_setNeed 49 = .ok (.invokevirtual 85, 3) := by decide +kernel
theorem dX8_setNeed_52 : decode cX8_setNeed 52 = .ok (.istore 4, 2) := by decide +kernel
theorem dX8_setNeed_54 : decode cX8_setNeed 54 = .ok (.aload_n 0, 1) := by decide +kernel
theorem dX8_setNeed_55 : decode cX8_setNeed 55 = .ok (.getfield 18, 3) := by decide +kernel
theorem dX8_setNeed_58 : decode cX8_setNeed 58 = .ok (.iload_n 1, 1) := by decide +kernel
theorem dX8_setNeed_59 : decode cX8_setNeed 59 = .ok (.iload_n 2, 1) := by decide +kernel
theorem dX8_setNeed_60 : decode cX8_setNeed 60 = .ok (.iload_n 3, 1) := by decide +kernel
theorem dX8_setNeed_61 : decode cX8_setNeed 61 = .ok (.invokevirtual 89, 3) := by decide +kernel
theorem dX8_setNeed_64 : decode cX8_setNeed 64 = .ok (.iload 4, 2) := by decide +kernel
theorem dX8_setNeed_66 : decode cX8_setNeed 66 = .ok (.ireturn, 1) := by decide +kernel
set_option maxRecDepth 20000 in
theorem ggX8_forbid_X8_isKind : GoodIn wsX8_forbid wsX8_isKind := goodIn_r _ [7] (by decide +kernel) (by decide +kernel)
set_option maxRecDepth 20000 in
theorem gX8_forbid_X8_isKind : GoodIn wsX8_forbid (va_wsS RX8 75 yX8_isKind wsX8_isKind) := goodIn_app (goodIn_of _ (by decide +kernel)) ggX8_forbid_X8_isKind
set_option maxRecDepth 20000 in
theorem ggX8_forbid_X6_changeFollowing : GoodIn wsX8_forbid wsX6_changeFollowing := goodIn_r _ [12, 13, 14, 15, 11, 16, 26, 27] (by decide +kernel) (by decide +kernel)
set_option maxRecDepth 20000 in
theorem gX8_forbid_X6_changeFollowing : GoodIn wsX8_forbid (wsV RX8 95 RX6 yX6_changeFollowing wsX6_changeFollowing) := goodIn_app (goodIn_of _ (by decide +kernel)) ggX8_forbid_X6_changeFollowing
theorem dX8_forbid_0 : decode cX8_forbid 0 = .ok (.iload_n 1, 1) := by decide +kernel
theorem dX8_forbid_1 : decode cX8_forbid 1 = .ok (.invokestatic 75, 3) := by decide +kernel
theorem dX8_forbid_4 : decode cX8_forbid 4 = .ok (.ifCond .eq 10, 3) := by decide +kernel
theorem dX8_forbid_7 : decode cX8_forbid 7 = .ok (.iload_n 2, 1) := by decide +kernel
theorem dX8_forbid_8 : decode cX8_forbid 8 = .ok (.invokestatic 75, 3) := by decide +kernel
theorem dX8_forbid_11 : decode cX8_forbid 11 = .ok (.ifCond .ne 13, 3) := by decide +kernel
theorem dX8_forbid_14 : decode cX8_forbid 14 = .ok (.new 78, 3) := by decide +kernel
theorem dX8_forbid_17 : decode cX8_forbid 17 = .ok (.dup, 1) := by decide +kernel
theorem dX8_forbid_18 : decode cX8_forbid 18 = .ok (.ldc 93, 2) := by decide +kernel
theorem dX8_forbid_20 : decode cX8_forbid 20 = .ok (.invokespecial 82, 3) := by decide +kernel
theorem dX8_forbid_23 : decode cX8_forbid 23 = .ok (.athrow, 1) := by decide +kernel
theorem dX8_forbid_24 : decode cX8_forbid 24 = .ok (.aload_n 0, 1) := by decide +kernel
theorem dX8_forbid_25 : decode cX8_forbid 25 = .ok (.getfield 25, 3) := by decide +kernel
theorem dX8_forbid_28 : decode cX8_forbid 28 = .ok (.iload_n 1, 1) := by decide +kernel
theorem dX8_forbid_29 : decode cX8_forbid 29 = .ok (.iload_n 2, 1) := by decide +kernel
theorem dX8_forbid_30 : decode cX8_forbid 30 = .ok (.iload_n 3, 1) := by decide +kernel
theorem dX8_forbid_31 : decode cX8_forbid 31 = .ok (.invokevirtual 95, 3) := by decide +kernel
theorem dX8_forbid_34 : decode cX8_forbid 34 = .ok (.ireturn, 1) := by decide +kernel
theorem dX8_setRun_0 : decode cX8_setRun 0 = .ok (.iload_n 1, 1) := by decide +kernel
theorem dX8_setRun_1 : decode cX8_setRun 1 = .ok (.iconst 1, 1) := by decide +kernel
theorem dX8_setRun_2 : decode cX8_setRun 2 = .ok (.if_icmp .lt 9, 3) := by decide +kernel
theorem dX8_setRun_5 : decode cX8_setRun 5 = .ok (.iload_n 1, 1) := by decide +kernel
theorem dX8_setRun_6 : decode cX8_setRun 6 = .ok (.bipush 14, 2) := by decide +kernel
theorem dX8_setRun_8 : decode cX8_setRun 8 = .ok (.if_icmp .le 13, 3) := by decide +kernel
theorem dX8_setRun_11 : decode cX8_setRun 11 = .ok (.new 50, 3) := by decide +kernel
theorem dX8_setRun_14 : decode cX8_setRun 14 = .ok (.dup, 1) := by decide +kernel
theorem dX8_setRun_15 : decode cX8_setRun 15 = .ok (.ldc 99, 2) := by decide +kernel
theorem dX8_setRun_17 : decode cX8_setRun 17 = .ok (.invokespecial 54, 3) := by decide +kernel
theorem dX8_setRun_20 : decode cX8_setRun 20 = .ok (.athrow, 1) := by decide +kernel
theorem dX8_setRun_21 : decode cX8_setRun 21 = .ok (.aload_n 0, 1) := by decide +kernel
theorem dX8_setRun_22 : decode cX8_setRun 22 = .ok (.getfield 25, 3) := by decide +kernel
theorem dX8_setRun_25 : decode cX8_setRun 25 = .ok (.getfield 101, 3) := by decide +kernel
theorem dX8_setRun_28 : decode cX8_setRun 28 = .ok (.istore_n 2, 1) := by decide +kernel
theorem dX8_setRun_29 : decode cX8_setRun 29 = .ok (.aload_n 0, 1) := by decide +kernel
theorem dX8_setRun_30 : decode cX8_setRun 30 = .ok (.getfield 25, 3) := by decide +kernel
theorem dX8_setRun_33 : decode cX8_setRun 33 = .ok (.iload_n 1, 1) := by decide +kernel
theorem dX8_setRun_34 : decode cX8_setRun 34 = .ok (.putfield 101, 3) := by decide +kernel
theorem dX8_setRun_37 : decode cX8_setRun 37 = .ok (.iload_n 2, 1) := by decide +kernel
theorem dX8_setRun_38 : decode cX8_setRun 38 = .ok (.ireturn, 1) := by decide +kernel
set_option maxRecDepth 20000 in
theorem ggX8_wish_X8_personAt : GoodIn wsX8_wish wsX8_personAt := goodIn_r _ [7, 8, 18, 19, 20, 21, 22, 23, 24, 25, 26] (by decide +kernel) (by decide +kernel)
set_option maxRecDepth 20000 in
theorem gX8_wish_X8_personAt : GoodIn wsX8_wish (wsV RX8 104 RX8 yX8_personAt wsX8_personAt) := goodIn_app (goodIn_of _ (by decide +kernel)) ggX8_wish_X8_personAt
set_option maxRecDepth 20000 in
theorem ggX8_wish_X8_isDay : GoodIn wsX8_wish wsX8_isDay := goodIn_r _ [11] (by decide +kernel) (by decide +kernel)
set_option maxRecDepth 20000 in
theorem gX8_wish_X8_isDay : GoodIn wsX8_wish (va_wsS RX8 71 yX8_isDay wsX8_isDay) := goodIn_app (goodIn_of _ (by decide +kernel)) ggX8_wish_X8_isDay
set_option maxRecDepth 20000 in
theorem ggX8_wish_X4_changeWish : GoodIn wsX8_wish wsX4_changeWish := goodIn_r _ [16, 17, 27, 28, 29, 30, 31, 32, 33, 34] (by decide +kernel) (by decide +kernel)
set_option maxRecDepth 20000 in
theorem gX8_wish_X4_changeWish : GoodIn wsX8_wish (wsV RX8 110 RX4 yX4_changeWish wsX4_changeWish) := goodIn_app (goodIn_of _ (by decide +kernel)) ggX8_wish_X4_changeWish
theorem dX8_wish_0 : decode cX8_wish 0 = .ok (.aload_n 0, 1) := by decide +kernel
theorem dX8_wish_1 : decode cX8_wish 1 = .ok (.iload_n 1, 1) := by decide +kernel
theorem dX8_wish_2 : decode cX8_wish 2 = .ok (.invokevirtual 104, 3) := by decide +kernel
theorem dX8_wish_5 : decode cX8_wish 5 = .ok (.astore 4, 2) := by decide +kernel
theorem dX8_wish_7 : decode cX8_wish 7 = .ok (.aload 4, 2) := by decide +kernel
theorem dX8_wish_9 : decode cX8_wish 9 = .ok (.ifnull 10, 3) := by decide +kernel
theorem dX8_wish_12 : decode cX8_wish 12 = .ok (.iload_n 2, 1) := by decide +kernel
theorem dX8_wish_13 : decode cX8_wish 13 = .ok (.invokestatic 71, 3) := by decide +kernel
theorem dX8_wish_16 : decode cX8_wish 16 = .ok (.ifCond .ne 13, 3) := by decide +kernel
theorem dX8_wish_19 : decode cX8_wish 19 = .ok (.new 78, 3) := by decide +kernel
theorem dX8_wish_22 : decode cX8_wish 22 = .ok (.dup, 1) := by decide +kernel
theorem dX8_wish_23 : decode cX8_wish 23 = .ok (.ldc 108, 2) := by decide +kernel
theorem dX8_wish_25 : decode cX8_wish 25 = .ok (.invokespecial 82, 3) := by decide +kernel
theorem dX8_wish_28 : decode cX8_wish 28 = .ok (.athrow, 1) := by decide +kernel
theorem dX8_wish_29 : decode cX8_wish 29 = .ok (.aload 4, 2) := by decide +kernel
theorem dX8_wish_31 : decode cX8_wish 31 = .ok (.iload_n 2, 1) := by decide +kernel
theorem dX8_wish_32 : decode cX8_wish 32 = .ok (.iload_n 3, 1) := by decide +kernel
theorem dX8_wish_33 : decode cX8_wish 33 = .ok (.invokevirtual 110, 3) := by decide +kernel
theorem dX8_wish_36 : decode cX8_wish 36 = .ok (.ireturn, 1) := by decide +kernel
set_option maxRecDepth 20000 in
theorem ggX8_fix_X8_personAt : GoodIn wsX8_fix wsX8_personAt := goodIn_r _ [9, 10, 27, 28, 29, 30, 31, 32, 33, 34, 35] (by decide +kernel) (by decide +kernel)
set_option maxRecDepth 20000 in
theorem gX8_fix_X8_personAt : GoodIn wsX8_fix (wsV RX8 104 RX8 yX8_personAt wsX8_personAt) := goodIn_app (goodIn_of _ (by decide +kernel)) ggX8_fix_X8_personAt
set_option maxRecDepth 20000 in
theorem ggX8_fix_X8_isDay : GoodIn wsX8_fix wsX8_isDay := goodIn_r _ [13] (by decide +kernel) (by decide +kernel)
set_option maxRecDepth 20000 in
theorem gX8_fix_X8_isDay : GoodIn wsX8_fix (va_wsS RX8 71 yX8_isDay wsX8_isDay) := goodIn_app (goodIn_of _ (by decide +kernel)) ggX8_fix_X8_isDay
set_option maxRecDepth 20000 in
theorem ggX8_fix_X8_isEntry : GoodIn wsX8_fix wsX8_isEntry := goodIn_r _ [16] (by decide +kernel) (by decide +kernel)
set_option maxRecDepth 20000 in
theorem gX8_fix_X8_isEntry : GoodIn wsX8_fix (va_wsS RX8 114 yX8_isEntry wsX8_isEntry) := goodIn_app (goodIn_of _ (by decide +kernel)) ggX8_fix_X8_isEntry
set_option maxRecDepth 20000 in
theorem ggX8_fix_X4_fixedAt : GoodIn wsX8_fix wsX4_fixedAt := goodIn_r _ [21, 22, 36, 37, 38, 39, 40, 41, 42, 43] (by decide +kernel) (by decide +kernel)
set_option maxRecDepth 20000 in
theorem gX8_fix_X4_fixedAt : GoodIn wsX8_fix (wsV RX8 119 RX4 yX4_fixedAt wsX4_fixedAt) := goodIn_app (goodIn_of _ (by decide +kernel)) ggX8_fix_X4_fixedAt
set_option maxRecDepth 20000 in
theorem ggX8_fix_X4_changeFixed : GoodIn wsX8_fix wsX4_changeFixed := goodIn_r _ [26, 22, 36, 37, 38, 39, 40, 41, 42, 43] (by decide +kernel) (by decide +kernel)
set_option maxRecDepth 20000 in
theorem gX8_fix_X4_changeFixed : GoodIn wsX8_fix (wsV RX8 123 RX4 yX4_changeFixed wsX4_changeFixed) := goodIn_app (goodIn_of _ (by decide +kernel)) ggX8_fix_X4_changeFixed
theorem dX8_fix_0 : decode cX8_fix 0 = .ok (.aload_n 0, 1) := by decide +kernel
theorem dX8_fix_1 : decode cX8_fix 1 = .ok (.iload_n 1, 1) := by decide +kernel
theorem dX8_fix_2 : decode cX8_fix 2 = .ok (.invokevirtual 104, 3) := by decide +kernel
theorem dX8_fix_5 : decode cX8_fix 5 = .ok (.astore 4, 2) := by decide +kernel
theorem dX8_fix_7 : decode cX8_fix 7 = .ok (.aload 4, 2) := by decide +kernel
theorem dX8_fix_9 : decode cX8_fix 9 = .ok (.ifnull 10, 3) := by decide +kernel
theorem dX8_fix_12 : decode cX8_fix 12 = .ok (.iload_n 2, 1) := by decide +kernel
theorem dX8_fix_13 : decode cX8_fix 13 = .ok (.invokestatic 71, 3) := by decide +kernel
theorem dX8_fix_16 : decode cX8_fix 16 = .ok (.ifCond .ne 13, 3) := by decide +kernel
theorem dX8_fix_19 : decode cX8_fix 19 = .ok (.new 78, 3) := by decide +kernel
theorem dX8_fix_22 : decode cX8_fix 22 = .ok (.dup, 1) := by decide +kernel
theorem dX8_fix_23 : decode cX8_fix 23 = .ok (.ldc 108, 2) := by decide +kernel
theorem dX8_fix_25 : decode cX8_fix 25 = .ok (.invokespecial 82, 3) := by decide +kernel
theorem dX8_fix_28 : decode cX8_fix 28 = .ok (.athrow, 1) := by decide +kernel
theorem dX8_fix_29 : decode cX8_fix 29 = .ok (.iload_n 3, 1) := by decide +kernel
theorem dX8_fix_30 : decode cX8_fix 30 = .ok (.iconst (-1), 1) := by decide +kernel
theorem dX8_fix_31 : decode cX8_fix 31 = .ok (.if_icmp .eq 20, 3) := by decide +kernel
theorem dX8_fix_34 : decode cX8_fix 34 = .ok (.iload_n 3, 1) := by decide +kernel
theorem dX8_fix_35 : decode cX8_fix 35 = .ok (.invokestatic 114, 3) := by decide +kernel
theorem dX8_fix_38 : decode cX8_fix 38 = .ok (.ifCond .ne 13, 3) := by decide +kernel
theorem dX8_fix_41 : decode cX8_fix 41 = .ok (.new 50, 3) := by decide +kernel
theorem dX8_fix_44 : decode cX8_fix 44 = .ok (.dup, 1) := by decide +kernel
theorem dX8_fix_45 : decode cX8_fix 45 = .ok (.ldc 117, 2) := by decide +kernel
theorem dX8_fix_47 : decode cX8_fix 47 = .ok (.invokespecial 54, 3) := by decide +kernel
theorem dX8_fix_50 : decode cX8_fix 50 = .ok (.athrow, 1) := by decide +kernel
theorem dX8_fix_51 : decode cX8_fix 51 = .ok (.aload 4, 2) := by decide +kernel
theorem dX8_fix_53 : decode cX8_fix 53 = .ok (.iload_n 2, 1) := by decide +kernel
theorem dX8_fix_54 : decode cX8_fix 54 = .ok (.invokevirtual 119, 3) := by decide +kernel
theorem dX8_fix_57 : decode cX8_fix 57 = .ok (.istore 5, 2) := by decide +kernel
theorem dX8_fix_59 : decode cX8_fix 59 = .ok (.aload 4, 2) := by decide +kernel
theorem dX8_fix_61 : decode cX8_fix 61 = .ok (.iload_n 2, 1) := by decide +kernel
theorem dX8_fix_62 : decode cX8_fix 62 = .ok (.iload_n 3, 1) := by decide +kernel
theorem dX8_fix_63 : decode cX8_fix 63 = .ok (.invokevirtual 123, 3) := by decide +kernel
theorem dX8_fix_66 : decode cX8_fix 66 = .ok (.iload 5, 2) := by decide +kernel
theorem dX8_fix_68 : decode cX8_fix 68 = .ok (.ireturn, 1) := by decide +kernel
set_option maxRecDepth 20000 in
theorem ggX8_plan_X8_planRound : GoodIn wsX8_plan wsX8_planRound := goodIn_r _ [7, 1, 8, 9, 10, 6, 11, 12, 13, 14, 15, 16, 17, 18, 19, 20, 21, 22, 23, 24, 25, 26, 27, 28, 29, 30, 31, 32, 33, 34, 35, 36, 37, 38, 39, 40, 41, 42, 43, 44, 45, 46, 47, 48, 49, 50, 51, 52, 53, 54, 55, 56, 57, 58, 59, 60, 61, 62, 63, 64, 65, 66, 67, 68, 69, 70, 71, 72, 73, 74, 75, 76, 77, 78, 79, 80, 81, 82, 83, 84, 85, 86, 87, 88, 89, 90, 91, 92, 93, 94, 95, 96, 97, 98, 99, 100, 101, 102, 103, 104, 105, 106, 107, 108, 109, 110, 111, 112, 113, 114, 115, 116, 117, 118, 119, 120, 121, 122, 123, 124, 125, 126, 127, 128, 129, 130, 131, 132, 133, 134, 135, 136, 137, 138, 139, 140, 145, 146, 147, 148, 149, 150, 151, 152, 153, 154, 155, 156, 157, 158, 159, 160, 161, 162, 163, 164, 165, 166, 167] (by decide +kernel) (by decide +kernel)
set_option maxRecDepth 20000 in
theorem gX8_plan_X8_planRound : GoodIn wsX8_plan (wsV RX8 131 RX8 yX8_planRound wsX8_planRound) := goodIn_app (goodIn_of _ (by decide +kernel)) ggX8_plan_X8_planRound
set_option maxRecDepth 20000 in
theorem ggX8_plan_X8_allGaps : GoodIn wsX8_plan wsX8_allGaps := goodIn_r _ [144, 15, 16, 17, 6, 18, 19, 1, 20, 21, 22, 23, 24, 25, 26, 27, 28, 29, 30, 31, 32, 33, 34, 35, 36, 145, 146, 147, 148, 149, 150, 151, 152, 153, 154, 155, 156, 157, 158, 159, 160, 161, 162] (by decide +kernel) (by decide +kernel)
set_option maxRecDepth 20000 in
theorem gX8_plan_X8_allGaps : GoodIn wsX8_plan (wsV RX8 138 RX8 yX8_allGaps wsX8_allGaps) := goodIn_app (goodIn_of _ (by decide +kernel)) ggX8_plan_X8_allGaps
theorem dX8_plan_0 : decode cX8_plan 0 = .ok (.aload_n 0, 1) := by decide +kernel
theorem dX8_plan_1 : decode cX8_plan 1 = .ok (.getfield 11, 3) := by decide +kernel
theorem dX8_plan_4 : decode cX8_plan 4 = .ok (.astore_n 1, 1) := by decide +kernel
theorem dX8_plan_5 : decode cX8_plan 5 = .ok (.aload_n 1, 1) := by decide +kernel
theorem dX8_plan_6 : decode cX8_plan 6 = .ok (.arraylength, 1) := by decide +kernel
theorem dX8_plan_7 : decode cX8_plan 7 = .ok (.istore_n 2, 1) := by decide +kernel
theorem dX8_plan_8 : decode cX8_plan 8 = .ok (.iconst 0, 1) := by decide +kernel
theorem dX8_plan_9 : decode cX8_plan 9 = .ok (.istore_n 3, 1) := by decide +kernel
theorem dX8_plan_10 : decode cX8_plan 10 = .ok (.iload_n 3, 1) := by decide +kernel
theorem dX8_plan_11 : decode cX8_plan 11 = .ok (.iload_n 2, 1) := by decide +kernel
theorem dX8_plan_12 : decode cX8_plan 12 = .ok (.if_icmp .ge 25, 3) := by decide +kernel
theorem dX8_plan_15 : decode cX8_plan 15 = .ok (.aload_n 1, 1) := by decide +kernel
theorem dX8_plan_16 : decode cX8_plan 16 = .ok (.iload_n 3, 1) := by decide +kernel
theorem dX8_plan_17 : decode cX8_plan 17 = .ok (.aaload, 1) := by decide +kernel
theorem dX8_plan_18 : decode cX8_plan 18 = .ok (.astore 4, 2) := by decide +kernel
theorem dX8_plan_20 : decode cX8_plan 20 = .ok (.aload 4, 2) := by decide +kernel
theorem dX8_plan_22 : decode cX8_plan 22 = .ok (.ifnull 9, 3) := by decide +kernel
theorem dX8_plan_25 : decode cX8_plan 25 = .ok (.aload 4, 2) := by decide +kernel
theorem dX8_plan_27 : decode cX8_plan 27 = .ok (.iconst 0, 1) := by decide +kernel
theorem dX8_plan_28 : decode cX8_plan 28 = .ok (.putfield 128, 3) := by decide +kernel
theorem dX8_plan_31 : decode cX8_plan 31 = .ok (.iinc 3 1, 3) := by decide +kernel
theorem dX8_plan_34 : decode cX8_plan 34 = .ok (.goto (-24), 3) := by decide +kernel
theorem dX8_plan_37 : decode cX8_plan 37 = .ok (.iconst 1, 1) := by decide +kernel
theorem dX8_plan_38 : decode cX8_plan 38 = .ok (.istore_n 1, 1) := by decide +kernel
theorem dX8_plan_39 : decode cX8_plan 39 = .ok (.iconst 1, 1) := by decide +kernel
theorem dX8_plan_40 : decode cX8_plan 40 = .ok (.istore_n 2, 1) := by decide +kernel
theorem dX8_plan_41 : decode cX8_plan 41 = .ok (.iload_n 1, 1) := by decide +kernel
theorem dX8_plan_42 : decode cX8_plan 42 = .ok (.ifCond .eq 25, 3) := by decide +kernel
theorem dX8_plan_45 : decode cX8_plan 45 = .ok (.iload_n 2, 1) := by decide +kernel
theorem dX8_plan_46 : decode cX8_plan 46 = .ok (.bipush 10, 2) := by decide +kernel
theorem dX8_plan_48 : decode cX8_plan 48 = .ok (.if_icmp .gt 19, 3) := by decide +kernel
theorem dX8_plan_51 : decode cX8_plan 51 = .ok (.aload_n 0, 1) := by decide +kernel
theorem dX8_plan_52 : decode cX8_plan 52 = .ok (.invokevirtual 131, 3) := by decide +kernel
theorem dX8_plan_55 : decode cX8_plan 55 = .ok (.istore_n 1, 1) := by decide +kernel
theorem dX8_plan_56 : decode cX8_plan 56 = .ok (.aload_n 0, 1) := by decide +kernel
theorem dX8_plan_57 : decode cX8_plan 57 = .ok (.iload_n 2, 1) := by decide +kernel
theorem dX8_plan_58 : decode cX8_plan 58 = .ok (.putfield 135, 3) := by decide +kernel
theorem dX8_plan_61 : decode cX8_plan 61 = .ok (.iinc 2 1, 3) := by decide +kernel
theorem dX8_plan_64 : decode cX8_plan 64 = .ok (.goto (-23), 3) := by decide +kernel
theorem dX8_plan_67 : decode cX8_plan 67 = .ok (.aload_n 0, 1) := by decide +kernel
theorem dX8_plan_68 : decode cX8_plan 68 = .ok (.invokevirtual 138, 3) := by decide +kernel
theorem dX8_plan_71 : decode cX8_plan 71 = .ok (.ireturn, 1) := by decide +kernel
theorem dX8_rounds_0 : decode cX8_rounds 0 = .ok (.aload_n 0, 1) := by decide +kernel
theorem dX8_rounds_1 : decode cX8_rounds 1 = .ok (.getfield 135, 3) := by decide +kernel
theorem dX8_rounds_4 : decode cX8_rounds 4 = .ok (.ireturn, 1) := by decide +kernel
set_option maxRecDepth 20000 in
theorem ggX8_set_X8_personAt : GoodIn wsX8_set wsX8_personAt := goodIn_r _ [12, 13, 71, 72, 73, 74, 75, 76, 77, 78, 79] (by decide +kernel) (by decide +kernel)
set_option maxRecDepth 20000 in
theorem gX8_set_X8_personAt : GoodIn wsX8_set (wsV RX8 104 RX8 yX8_personAt wsX8_personAt) := goodIn_app (goodIn_of _ (by decide +kernel)) ggX8_set_X8_personAt
set_option maxRecDepth 20000 in
theorem ggX8_set_X8_isDay : GoodIn wsX8_set wsX8_isDay := goodIn_r _ [16] (by decide +kernel) (by decide +kernel)
set_option maxRecDepth 20000 in
theorem gX8_set_X8_isDay : GoodIn wsX8_set (va_wsS RX8 71 yX8_isDay wsX8_isDay) := goodIn_app (goodIn_of _ (by decide +kernel)) ggX8_set_X8_isDay
set_option maxRecDepth 20000 in
theorem ggX8_set_X8_isEntry : GoodIn wsX8_set wsX8_isEntry := goodIn_r _ [19] (by decide +kernel) (by decide +kernel)
set_option maxRecDepth 20000 in
theorem gX8_set_X8_isEntry : GoodIn wsX8_set (va_wsS RX8 114 yX8_isEntry wsX8_isEntry) := goodIn_app (goodIn_of _ (by decide +kernel)) ggX8_set_X8_isEntry
set_option maxRecDepth 20000 in
theorem ggX8_set_X7_with : GoodIn wsX8_set wsX7_with := goodIn_r _ [23, 24, 25, 22, 26] (by decide +kernel) (by decide +kernel)
set_option maxRecDepth 20000 in
theorem gX8_set_X7_with : GoodIn wsX8_set (va_wsS RX8 144 yX7_with wsX7_with) := goodIn_app (goodIn_of _ (by decide +kernel)) ggX8_set_X7_with
set_option maxRecDepth 20000 in
theorem ggX8_set_X4_canHave : GoodIn wsX8_set wsX4_canHave := goodIn_r _ [31, 32, 33, 34, 35, 36, 22, 37, 24, 25, 26, 38, 39, 40, 30, 41, 42, 43, 44, 45, 46, 47, 48, 49, 50, 51, 52, 53, 54, 55, 56, 57, 58, 59, 60, 61, 63, 64, 65, 66, 67, 68, 69, 70, 80, 81] (by decide +kernel) (by decide +kernel)
set_option maxRecDepth 20000 in
theorem gX8_set_X4_canHave : GoodIn wsX8_set (wsV RX8 148 RX4 yX4_canHave wsX4_canHave) := goodIn_app (goodIn_of _ (by decide +kernel)) ggX8_set_X4_canHave
set_option maxRecDepth 20000 in
theorem ggX8_set_X7_at : GoodIn wsX8_set wsX7_at := goodIn_r _ [37, 24, 25, 22, 26] (by decide +kernel) (by decide +kernel)
set_option maxRecDepth 20000 in
theorem gX8_set_X7_at : GoodIn wsX8_set (va_wsS RX8 154 yX7_at wsX7_at) := goodIn_app (goodIn_of _ (by decide +kernel)) ggX8_set_X7_at
theorem dX8_set_0 : decode cX8_set 0 = .ok (.aload_n 0, 1) := by decide +kernel
theorem dX8_set_1 : decode cX8_set 1 = .ok (.iload_n 1, 1) := by decide +kernel
theorem dX8_set_2 : decode cX8_set 2 = .ok (.invokevirtual 104, 3) := by decide +kernel
theorem dX8_set_5 : decode cX8_set 5 = .ok (.astore 4, 2) := by decide +kernel
theorem dX8_set_7 : decode cX8_set 7 = .ok (.aload 4, 2) := by decide +kernel
theorem dX8_set_9 : decode cX8_set 9 = .ok (.ifnull 10, 3) := by decide +kernel
theorem dX8_set_12 : decode cX8_set 12 = .ok (.iload_n 2, 1) := by decide +kernel
theorem dX8_set_13 : decode cX8_set 13 = .ok (.invokestatic 71, 3) := by decide +kernel
theorem dX8_set_16 : decode cX8_set 16 = .ok (.ifCond .ne 13, 3) := by decide +kernel
theorem dX8_set_19 : decode cX8_set 19 = .ok (.new 78, 3) := by decide +kernel
theorem dX8_set_22 : decode cX8_set 22 = .ok (.dup, 1) := by decide +kernel
theorem dX8_set_23 : decode cX8_set 23 = .ok (.ldc 108, 2) := by decide +kernel
theorem dX8_set_25 : decode cX8_set 25 = .ok (.invokespecial 82, 3) := by decide +kernel
theorem dX8_set_28 : decode cX8_set 28 = .ok (.athrow, 1) := by decide +kernel
theorem dX8_set_29 : decode cX8_set 29 = .ok (.iload_n 3, 1) := by decide +kernel
theorem dX8_set_30 : decode cX8_set 30 = .ok (.invokestatic 114, 3) := by decide +kernel
theorem dX8_set_33 : decode cX8_set 33 = .ok (.ifCond .ne 13, 3) := by decide +kernel
theorem dX8_set_36 : decode cX8_set 36 = .ok (.new 50, 3) := by decide +kernel
theorem dX8_set_39 : decode cX8_set 39 = .ok (.dup, 1) := by decide +kernel
theorem dX8_set_40 : decode cX8_set 40 = .ok (.ldc 142, 2) := by decide +kernel
theorem dX8_set_42 : decode cX8_set 42 = .ok (.invokespecial 54, 3) := by decide +kernel
theorem dX8_set_45 : decode cX8_set 45 = .ok (.athrow, 1) := by decide +kernel
theorem dX8_set_46 : decode cX8_set 46 = .ok (.aload 4, 2) := by decide +kernel
theorem dX8_set_48 : decode cX8_set 48 = .ok (.getfield 128, 3) := by decide +kernel
theorem dX8_set_51 : decode cX8_set 51 = .ok (.iload_n 2, 1) := by decide +kernel
theorem dX8_set_52 : decode cX8_set 52 = .ok (.iload_n 3, 1) := by decide +kernel
theorem dX8_set_53 : decode cX8_set 53 = .ok (.invokestatic 144, 3) := by decide +kernel
theorem dX8_set_56 : decode cX8_set 56 = .ok (.istore 5, 2) := by decide +kernel
theorem dX8_set_58 : decode cX8_set 58 = .ok (.aload 4, 2) := by decide +kernel
theorem dX8_set_60 : decode cX8_set 60 = .ok (.iload 5, 2) := by decide +kernel
theorem dX8_set_62 : decode cX8_set 62 = .ok (.aload_n 0, 1) := by decide +kernel
theorem dX8_set_63 : decode cX8_set 63 = .ok (.getfield 25, 3) := by decide +kernel
theorem dX8_set_66 : decode cX8_set 66 = .ok (.invokevirtual 148, 3) := by decide +kernel
theorem dX8_set_69 : decode cX8_set 69 = .ok (.ifCond .ne 13, 3) := by decide +kernel
theorem dX8_set_72 : decode cX8_set 72 = .ok (.new 63, 3) := by decide +kernel
theorem dX8_set_75 : decode cX8_set 75 = .ok (.dup, 1) := by decide +kernel
theorem dX8_set_76 : decode cX8_set 76 = .ok (.ldc 152, 2) := by decide +kernel
theorem dX8_set_78 : decode cX8_set 78 = .ok (.invokespecial 67, 3) := by decide +kernel
theorem dX8_set_81 : decode cX8_set 81 = .ok (.athrow, 1) := by decide +kernel
theorem dX8_set_82 : decode cX8_set 82 = .ok (.aload 4, 2) := by decide +kernel
theorem dX8_set_84 : decode cX8_set 84 = .ok (.getfield 128, 3) := by decide +kernel
theorem dX8_set_87 : decode cX8_set 87 = .ok (.iload_n 2, 1) := by decide +kernel
theorem dX8_set_88 : decode cX8_set 88 = .ok (.invokestatic 154, 3) := by decide +kernel
theorem dX8_set_91 : decode cX8_set 91 = .ok (.istore 6, 2) := by decide +kernel
theorem dX8_set_93 : decode cX8_set 93 = .ok (.aload 4, 2) := by decide +kernel
theorem dX8_set_95 : decode cX8_set 95 = .ok (.iload 5, 2) := by decide +kernel
theorem dX8_set_97 : decode cX8_set 97 = .ok (.putfield 128, 3) := by decide +kernel
theorem dX8_set_100 : decode cX8_set 100 = .ok (.iload 6, 2) := by decide +kernel
theorem dX8_set_102 : decode cX8_set 102 = .ok (.ireturn, 1) := by decide +kernel
set_option maxRecDepth 20000 in
theorem ggX8_swap_X8_personAt : GoodIn wsX8_swap wsX8_personAt := goodIn_r _ [9, 10, 80, 81, 82, 83, 84, 85, 86, 87, 88] (by decide +kernel) (by decide +kernel)
set_option maxRecDepth 20000 in
theorem gX8_swap_X8_personAt : GoodIn wsX8_swap (wsV RX8 104 RX8 yX8_personAt wsX8_personAt) := goodIn_app (goodIn_of _ (by decide +kernel)) ggX8_swap_X8_personAt
set_option maxRecDepth 20000 in
theorem ggX8_swap_X8_isDay : GoodIn wsX8_swap wsX8_isDay := goodIn_r _ [13] (by decide +kernel) (by decide +kernel)
set_option maxRecDepth 20000 in
theorem gX8_swap_X8_isDay : GoodIn wsX8_swap (va_wsS RX8 71 yX8_isDay wsX8_isDay) := goodIn_app (goodIn_of _ (by decide +kernel)) ggX8_swap_X8_isDay
set_option maxRecDepth 20000 in
theorem ggX8_swap_X8_couldSwap : GoodIn wsX8_swap wsX8_couldSwap := goodIn_r _ [17, 18, 19, 20, 21, 22, 23, 24, 25, 26, 27, 28, 29, 30, 31, 32, 33, 34, 35, 36, 37, 38, 39, 40, 41, 42, 43, 44, 45, 46, 47, 48, 49, 50, 51, 52, 53, 54, 55, 56, 57, 58, 59, 60, 61, 72, 73, 74, 75, 76, 77, 78, 79, 80, 81, 82, 83, 84, 85, 86, 87, 88, 89, 90] (by decide +kernel) (by decide +kernel)
set_option maxRecDepth 20000 in
theorem gX8_swap_X8_couldSwap : GoodIn wsX8_swap (wsV RX8 159 RX8 yX8_couldSwap wsX8_couldSwap) := goodIn_app (goodIn_of _ (by decide +kernel)) ggX8_swap_X8_couldSwap
set_option maxRecDepth 20000 in
theorem ggX8_swap_X7_at : GoodIn wsX8_swap wsX7_at := goodIn_r _ [22, 23, 24, 21, 25] (by decide +kernel) (by decide +kernel)
set_option maxRecDepth 20000 in
theorem gX8_swap_X7_at : GoodIn wsX8_swap (va_wsS RX8 154 yX7_at wsX7_at) := goodIn_app (goodIn_of _ (by decide +kernel)) ggX8_swap_X7_at
set_option maxRecDepth 20000 in
theorem ggX8_swap_X7_with : GoodIn wsX8_swap wsX7_with := goodIn_r _ [28, 23, 24, 21, 25] (by decide +kernel) (by decide +kernel)
set_option maxRecDepth 20000 in
theorem gX8_swap_X7_with : GoodIn wsX8_swap (va_wsS RX8 144 yX7_with wsX7_with) := goodIn_app (goodIn_of _ (by decide +kernel)) ggX8_swap_X7_with
set_option maxRecDepth 20000 in
theorem ggX8_swap_X4_brokenWishes : GoodIn wsX8_swap wsX4_brokenWishes := goodIn_r _ [65, 66, 37, 20, 21, 22, 23, 24, 25, 67, 68, 69, 32, 70, 71, 72, 73, 74, 75, 76, 77, 78, 79] (by decide +kernel) (by decide +kernel)
set_option maxRecDepth 20000 in
theorem gX8_swap_X4_brokenWishes : GoodIn wsX8_swap (wsV RX8 165 RX4 yX4_brokenWishes wsX4_brokenWishes) := goodIn_app (goodIn_of _ (by decide +kernel)) ggX8_swap_X4_brokenWishes
theorem dX8_swap_0 : decode cX8_swap 0 = .ok (.aload_n 0, 1) := by decide +kernel
theorem dX8_swap_1 : decode cX8_swap 1 = .ok (.iload_n 1, 1) := by decide +kernel
theorem dX8_swap_2 : decode cX8_swap 2 = .ok (.invokevirtual 104, 3) := by decide +kernel
theorem dX8_swap_5 : decode cX8_swap 5 = .ok (.astore 4, 2) := by decide +kernel
theorem dX8_swap_7 : decode cX8_swap 7 = .ok (.aload_n 0, 1) := by decide +kernel
theorem dX8_swap_8 : decode cX8_swap 8 = .ok (.iload_n 2, 1) := by decide +kernel
theorem dX8_swap_9 : decode cX8_swap 9 = .ok (.invokevirtual 104, 3) := by decide +kernel
theorem dX8_swap_12 : decode cX8_swap 12 = .ok (.astore 5, 2) := by decide +kernel
theorem dX8_swap_14 : decode cX8_swap 14 = .ok (.aload 4, 2) := by decide +kernel
theorem dX8_swap_16 : decode cX8_swap 16 = .ok (.ifnull 15, 3) := by decide +kernel
theorem dX8_swap_19 : decode cX8_swap 19 = .ok (.aload 5, 2) := by decide +kernel
theorem dX8_swap_21 : decode cX8_swap 21 = .ok (.ifnull 10, 3) := by decide +kernel
theorem dX8_swap_24 : decode cX8_swap 24 = .ok (.iload_n 3, 1) := by decide +kernel
theorem dX8_swap_25 : decode cX8_swap 25 = .ok (.invokestatic 71, 3) := by decide +kernel
theorem dX8_swap_28 : decode cX8_swap 28 = .ok (.ifCond .ne 13, 3) := by decide +kernel
theorem dX8_swap_31 : decode cX8_swap 31 = .ok (.new 78, 3) := by decide +kernel
theorem dX8_swap_34 : decode cX8_swap 34 = .ok (.dup, 1) := by decide +kernel
theorem dX8_swap_35 : decode cX8_swap 35 = .ok (.ldc 157, 2) := by decide +kernel
theorem dX8_swap_37 : decode cX8_swap 37 = .ok (.invokespecial 82, 3) := by decide +kernel
theorem dX8_swap_40 : decode cX8_swap 40 = .ok (.athrow, 1) := by decide +kernel
theorem dX8_swap_41 : decode cX8_swap 41 = .ok (.aload 4, 2) := by decide +kernel
theorem dX8_swap_43 : decode cX8_swap 43 = .ok (.aload 5, 2) := by decide +kernel
theorem dX8_swap_45 : decode cX8_swap 45 = .ok (.if_acmp .eq 15, 3) := by decide +kernel
theorem dX8_swap_48 : decode cX8_swap 48 = .ok (.aload_n 0, 1) := by decide +kernel
theorem dX8_swap_49 : decode cX8_swap 49 = .ok (.aload 4, 2) := by decide +kernel
theorem dX8_swap_51 : decode cX8_swap 51 = .ok (.aload 5, 2) := by decide +kernel
theorem dX8_swap_53 : decode cX8_swap 53 = .ok (.iload_n 3, 1) := by decide +kernel
theorem dX8_swap_54 : decode cX8_swap 54 = .ok (.invokevirtual 159, 3) := by decide +kernel
theorem dX8_swap_57 : decode cX8_swap 57 = .ok (.ifCond .ne 13, 3) := by decide +kernel
theorem dX8_swap_60 : decode cX8_swap 60 = .ok (.new 63, 3) := by decide +kernel
theorem dX8_swap_63 : decode cX8_swap 63 = .ok (.dup, 1) := by decide +kernel
theorem dX8_swap_64 : decode cX8_swap 64 = .ok (.ldc 163, 2) := by decide +kernel
theorem dX8_swap_66 : decode cX8_swap 66 = .ok (.invokespecial 67, 3) := by decide +kernel
theorem dX8_swap_69 : decode cX8_swap 69 = .ok (.athrow, 1) := by decide +kernel
theorem dX8_swap_70 : decode cX8_swap 70 = .ok (.aload 4, 2) := by decide +kernel
theorem dX8_swap_72 : decode cX8_swap 72 = .ok (.getfield 128, 3) := by decide +kernel
theorem dX8_swap_75 : decode cX8_swap 75 = .ok (.iload_n 3, 1) := by decide +kernel
theorem dX8_swap_76 : decode cX8_swap 76 = .ok (.invokestatic 154, 3) := by decide +kernel
theorem dX8_swap_79 : decode cX8_swap 79 = .ok (.istore 6, 2) := by decide +kernel
theorem dX8_swap_81 : decode cX8_swap 81 = .ok (.aload 4, 2) := by decide +kernel
theorem dX8_swap_83 : decode cX8_swap 83 = .ok (.aload 4, 2) := by decide +kernel
theorem dX8_swap_85 : decode cX8_swap 85 = .ok (.getfield 128, 3) := by decide +kernel
theorem dX8_swap_88 : decode cX8_swap 88 = .ok (.iload_n 3, 1) := by decide +kernel
theorem dX8_swap_89 : decode cX8_swap 89 = .ok (.aload 5, 2) := by decide +kernel
theorem dX8_swap_91 : decode cX8_swap 91 = .ok (.getfield 128, 3) := by decide +kernel
theorem dX8_swap_94 : decode cX8_swap 94 = .ok (.iload_n 3, 1) := by decide +kernel
theorem dX8_swap_95 : decode cX8_swap 95 = .ok (.invokestatic 154, 3) := by decide +kernel
theorem dX8_swap_98 : decode cX8_swap 98 = .ok (.invokestatic 144, 3) := by decide +kernel
theorem dX8_swap_101 : decode cX8_swap 101 = .ok (.putfield 128, 3) := by decide +kernel
theorem dX8_swap_104 : decode cX8_swap 104 = .ok (.aload 5, 2) := by decide +kernel
theorem dX8_swap_106 : decode cX8_swap 106 = .ok (.aload 5, 2) := by decide +kernel
theorem dX8_swap_108 : decode cX8_swap 108 = .ok (.getfield 128, 3) := by decide +kernel
theorem dX8_swap_111 : decode cX8_swap 111 = .ok (.iload_n 3, 1) := by decide +kernel
theorem dX8_swap_112 : decode cX8_swap 112 = .ok (.iload 6, 2) := by decide +kernel
theorem dX8_swap_114 : decode cX8_swap 114 = .ok (.invokestatic 144, 3) := by decide +kernel
theorem dX8_swap_117 : decode cX8_swap 117 = .ok (.putfield 128, 3) := by decide +kernel
theorem dX8_swap_120 : decode cX8_swap 120 = .ok (.aload 4, 2) := by decide +kernel
theorem dX8_swap_122 : decode cX8_swap 122 = .ok (.invokevirtual 165, 3) := by decide +kernel
theorem dX8_swap_125 : decode cX8_swap 125 = .ok (.aload 5, 2) := by decide +kernel
theorem dX8_swap_127 : decode cX8_swap 127 = .ok (.invokevirtual 165, 3) := by decide +kernel
theorem dX8_swap_130 : decode cX8_swap 130 = .ok (.iadd, 1) := by decide +kernel
theorem dX8_swap_131 : decode cX8_swap 131 = .ok (.ireturn, 1) := by decide +kernel
set_option maxRecDepth 20000 in
theorem ggX8_closeWeek_X4_noteWeek : GoodIn wsX8_closeWeek wsX4_noteWeek := goodIn_r _ [7, 8, 9, 10, 11, 12, 13, 14, 15, 16, 17, 18, 19, 20, 21, 22, 23, 24, 34, 35, 36, 37, 38, 39, 40, 41] (by decide +kernel) (by decide +kernel)
set_option maxRecDepth 20000 in
theorem gX8_closeWeek_X4_noteWeek : GoodIn wsX8_closeWeek (wsV RX8 168 RX4 yX4_noteWeek wsX4_noteWeek) := goodIn_app (goodIn_of _ (by decide +kernel)) ggX8_closeWeek_X4_noteWeek
theorem dX8_closeWeek_0 : decode cX8_closeWeek 0 = .ok (.aload_n 0, 1) := by decide +kernel
theorem dX8_closeWeek_1 : decode cX8_closeWeek 1 = .ok (.getfield 11, 3) := by decide +kernel
theorem dX8_closeWeek_4 : decode cX8_closeWeek 4 = .ok (.astore_n 1, 1) := by decide +kernel
theorem dX8_closeWeek_5 : decode cX8_closeWeek 5 = .ok (.aload_n 1, 1) := by decide +kernel
theorem dX8_closeWeek_6 : decode cX8_closeWeek 6 = .ok (.arraylength, 1) := by decide +kernel
theorem dX8_closeWeek_7 : decode cX8_closeWeek 7 = .ok (.istore_n 2, 1) := by decide +kernel
theorem dX8_closeWeek_8 : decode cX8_closeWeek 8 = .ok (.iconst 0, 1) := by decide +kernel
theorem dX8_closeWeek_9 : decode cX8_closeWeek 9 = .ok (.istore_n 3, 1) := by decide +kernel
theorem dX8_closeWeek_10 : decode cX8_closeWeek 10 = .ok (.iload_n 3, 1) := by decide +kernel
theorem dX8_closeWeek_11 : decode cX8_closeWeek 11 = .ok (.iload_n 2, 1) := by decide +kernel
theorem dX8_closeWeek_12 : decode cX8_closeWeek 12 = .ok (.if_icmp .ge 24, 3) := by decide +kernel
theorem dX8_closeWeek_15 : decode cX8_closeWeek 15 = .ok (.aload_n 1, 1) := by decide +kernel
theorem dX8_closeWeek_16 : decode cX8_closeWeek 16 = .ok (.iload_n 3, 1) := by decide +kernel
theorem dX8_closeWeek_17 : decode cX8_closeWeek 17 = .ok (.aaload, 1) := by decide +kernel
theorem dX8_closeWeek_18 : decode cX8_closeWeek 18 = .ok (.astore 4, 2) := by decide +kernel
theorem dX8_closeWeek_20 : decode cX8_closeWeek 20 = .ok (.aload 4, 2) := by decide +kernel
theorem dX8_closeWeek_22 : decode cX8_closeWeek 22 = .ok (.ifnull 8, 3) := by decide +kernel
theorem dX8_closeWeek_25 : decode cX8_closeWeek 25 = .ok (.aload 4, 2) := by decide +kernel
theorem dX8_closeWeek_27 : decode cX8_closeWeek 27 = .ok (.invokevirtual 168, 3) := by decide +kernel
theorem dX8_closeWeek_30 : decode cX8_closeWeek 30 = .ok (.iinc 3 1, 3) := by decide +kernel
theorem dX8_closeWeek_33 : decode cX8_closeWeek 33 = .ok (.goto (-23), 3) := by decide +kernel
theorem dX8_closeWeek_36 : decode cX8_closeWeek 36 = .ok (.aload_n 0, 1) := by decide +kernel
theorem dX8_closeWeek_37 : decode cX8_closeWeek 37 = .ok (.dup, 1) := by decide +kernel
theorem dX8_closeWeek_38 : decode cX8_closeWeek 38 = .ok (.getfield 171, 3) := by decide +kernel
theorem dX8_closeWeek_41 : decode cX8_closeWeek 41 = .ok (.iconst 1, 1) := by decide +kernel
theorem dX8_closeWeek_42 : decode cX8_closeWeek 42 = .ok (.iadd, 1) := by decide +kernel
theorem dX8_closeWeek_43 : decode cX8_closeWeek 43 = .ok (.putfield 171, 3) := by decide +kernel
theorem dX8_closeWeek_46 : decode cX8_closeWeek 46 = .ok (.aload_n 0, 1) := by decide +kernel
theorem dX8_closeWeek_47 : decode cX8_closeWeek 47 = .ok (.getfield 171, 3) := by decide +kernel
theorem dX8_closeWeek_50 : decode cX8_closeWeek 50 = .ok (.ireturn, 1) := by decide +kernel
theorem dX8_people_0 : decode cX8_people 0 = .ok (.aload_n 0, 1) := by decide +kernel
theorem dX8_people_1 : decode cX8_people 1 = .ok (.getfield 59, 3) := by decide +kernel
theorem dX8_people_4 : decode cX8_people 4 = .ok (.ireturn, 1) := by decide +kernel
set_option maxRecDepth 20000 in
theorem ggX8_entry_X8_personAt : GoodIn wsX8_entry wsX8_personAt := goodIn_r _ [7, 8, 27, 28, 29, 30, 31, 32, 33, 34, 35] (by decide +kernel) (by decide +kernel)
set_option maxRecDepth 20000 in
theorem gX8_entry_X8_personAt : GoodIn wsX8_entry (wsV RX8 104 RX8 yX8_personAt wsX8_personAt) := goodIn_app (goodIn_of _ (by decide +kernel)) ggX8_entry_X8_personAt
set_option maxRecDepth 20000 in
theorem ggX8_entry_X8_isDay : GoodIn wsX8_entry wsX8_isDay := goodIn_r _ [11] (by decide +kernel) (by decide +kernel)
set_option maxRecDepth 20000 in
theorem gX8_entry_X8_isDay : GoodIn wsX8_entry (va_wsS RX8 71 yX8_isDay wsX8_isDay) := goodIn_app (goodIn_of _ (by decide +kernel)) ggX8_entry_X8_isDay
set_option maxRecDepth 20000 in
theorem ggX8_entry_X7_at : GoodIn wsX8_entry wsX7_at := goodIn_r _ [15, 16, 17, 14, 18] (by decide +kernel) (by decide +kernel)
set_option maxRecDepth 20000 in
theorem gX8_entry_X7_at : GoodIn wsX8_entry (va_wsS RX8 154 yX7_at wsX7_at) := goodIn_app (goodIn_of _ (by decide +kernel)) ggX8_entry_X7_at
theorem dX8_entry_0 : decode cX8_entry 0 = .ok (.aload_n 0, 1) := by decide +kernel
theorem dX8_entry_1 : decode cX8_entry 1 = .ok (.iload_n 1, 1) := by decide +kernel
theorem dX8_entry_2 : decode cX8_entry 2 = .ok (.invokevirtual 104, 3) := by decide +kernel
theorem dX8_entry_5 : decode cX8_entry 5 = .ok (.astore_n 3, 1) := by decide +kernel
theorem dX8_entry_6 : decode cX8_entry 6 = .ok (.aload_n 3, 1) := by decide +kernel
theorem dX8_entry_7 : decode cX8_entry 7 = .ok (.ifnull 10, 3) := by decide +kernel
theorem dX8_entry_10 : decode cX8_entry 10 = .ok (.iload_n 2, 1) := by decide +kernel
theorem dX8_entry_11 : decode cX8_entry 11 = .ok (.invokestatic 71, 3) := by decide +kernel
theorem dX8_entry_14 : decode cX8_entry 14 = .ok (.ifCond .ne 13, 3) := by decide +kernel
theorem dX8_entry_17 : decode cX8_entry 17 = .ok (.new 78, 3) := by decide +kernel
theorem dX8_entry_20 : decode cX8_entry 20 = .ok (.dup, 1) := by decide +kernel
theorem dX8_entry_21 : decode cX8_entry 21 = .ok (.ldc 108, 2) := by decide +kernel
theorem dX8_entry_23 : decode cX8_entry 23 = .ok (.invokespecial 82, 3) := by decide +kernel
theorem dX8_entry_26 : decode cX8_entry 26 = .ok (.athrow, 1) := by decide +kernel
theorem dX8_entry_27 : decode cX8_entry 27 = .ok (.aload_n 3, 1) := by decide +kernel
theorem dX8_entry_28 : decode cX8_entry 28 = .ok (.getfield 128, 3) := by decide +kernel
theorem dX8_entry_31 : decode cX8_entry 31 = .ok (.iload_n 2, 1) := by decide +kernel
theorem dX8_entry_32 : decode cX8_entry 32 = .ok (.invokestatic 154, 3) := by decide +kernel
theorem dX8_entry_35 : decode cX8_entry 35 = .ok (.ireturn, 1) := by decide +kernel
set_option maxRecDepth 20000 in
theorem ggX8_gaps_X8_allGaps : GoodIn wsX8_gaps wsX8_allGaps := goodIn_r _ [5, 6, 7, 8, 4, 9, 10, 11, 12, 13, 14, 15, 16, 17, 18, 19, 20, 21, 22, 23, 24, 25, 26, 27, 28, 29, 30, 31, 32, 33, 34, 35, 36, 37, 38, 39, 40, 41, 42, 43, 44, 45, 46] (by decide +kernel) (by decide +kernel)
set_option maxRecDepth 20000 in
theorem gX8_gaps_X8_allGaps : GoodIn wsX8_gaps (wsV RX8 138 RX8 yX8_allGaps wsX8_allGaps) := goodIn_app (goodIn_of _ (by decide +kernel)) ggX8_gaps_X8_allGaps
theorem dX8_gaps_0 : decode cX8_gaps 0 = .ok (.aload_n 0, 1) := by decide +kernel
theorem dX8_gaps_1 : decode cX8_gaps 1 = .ok (.invokevirtual 138, 3) := by decide +kernel
theorem dX8_gaps_4 : decode cX8_gaps 4 = .ok (.ireturn, 1) := by decide +kernel
set_option maxRecDepth 20000 in
theorem ggX8_gap_X8_isDay : GoodIn wsX8_gap wsX8_isDay := goodIn_r _ [6] (by decide +kernel) (by decide +kernel)
set_option maxRecDepth 20000 in
theorem gX8_gap_X8_isDay : GoodIn wsX8_gap (va_wsS RX8 71 yX8_isDay wsX8_isDay) := goodIn_app (goodIn_of _ (by decide +kernel)) ggX8_gap_X8_isDay
set_option maxRecDepth 20000 in
theorem ggX8_gap_X8_isKind : GoodIn wsX8_gap wsX8_isKind := goodIn_r _ [9] (by decide +kernel) (by decide +kernel)
set_option maxRecDepth 20000 in
theorem gX8_gap_X8_isKind : GoodIn wsX8_gap (va_wsS RX8 75 yX8_isKind wsX8_isKind) := goodIn_app (goodIn_of _ (by decide +kernel)) ggX8_gap_X8_isKind
set_option maxRecDepth 20000 in
theorem ggX8_gap_X8_gapWithout : GoodIn wsX8_gap wsX8_gapWithout := goodIn_r _ [13, 14, 15, 16, 17, 18, 19, 20, 21, 22, 23, 24, 25, 26, 27, 28, 29, 30, 31, 32, 33, 34, 35, 36, 37, 38, 39, 40, 41, 42, 43, 44, 45, 46, 47, 48, 49, 50] (by decide +kernel) (by decide +kernel)
set_option maxRecDepth 20000 in
theorem gX8_gap_X8_gapWithout : GoodIn wsX8_gap (wsV RX8 174 RX8 yX8_gapWithout wsX8_gapWithout) := goodIn_app (goodIn_of _ (by decide +kernel)) ggX8_gap_X8_gapWithout
theorem dX8_gap_0 : decode cX8_gap 0 = .ok (.iload_n 1, 1) := by decide +kernel
theorem dX8_gap_1 : decode cX8_gap 1 = .ok (.invokestatic 71, 3) := by decide +kernel
theorem dX8_gap_4 : decode cX8_gap 4 = .ok (.ifCond .eq 10, 3) := by decide +kernel
theorem dX8_gap_7 : decode cX8_gap 7 = .ok (.iload_n 2, 1) := by decide +kernel
theorem dX8_gap_8 : decode cX8_gap 8 = .ok (.invokestatic 75, 3) := by decide +kernel
theorem dX8_gap_11 : decode cX8_gap 11 = .ok (.ifCond .ne 13, 3) := by decide +kernel
theorem dX8_gap_14 : decode cX8_gap 14 = .ok (.new 78, 3) := by decide +kernel
theorem dX8_gap_17 : decode cX8_gap 17 = .ok (.dup, 1) := by decide +kernel
theorem dX8_gap_18 : decode cX8_gap 18 = .ok (.ldc 80, 2) := by decide +kernel
theorem dX8_gap_20 : decode cX8_gap 20 = .ok (.invokespecial 82, 3) := by decide +kernel
theorem dX8_gap_23 : decode cX8_gap 23 = .ok (.athrow, 1) := by decide +kernel
theorem dX8_gap_24 : decode cX8_gap 24 = .ok (.aload_n 0, 1) := by decide +kernel
theorem dX8_gap_25 : decode cX8_gap 25 = .ok (.aconst_null, 1) := by decide +kernel
theorem dX8_gap_26 : decode cX8_gap 26 = .ok (.iload_n 1, 1) := by decide +kernel
theorem dX8_gap_27 : decode cX8_gap 27 = .ok (.iload_n 2, 1) := by decide +kernel
theorem dX8_gap_28 : decode cX8_gap 28 = .ok (.invokevirtual 174, 3) := by decide +kernel
theorem dX8_gap_31 : decode cX8_gap 31 = .ok (.ireturn, 1) := by decide +kernel
set_option maxRecDepth 20000 in
theorem ggX8_shifts_X8_personAt : GoodIn wsX8_shifts wsX8_personAt := goodIn_r _ [7, 8, 27, 28, 29, 30, 31, 32, 33, 34, 35] (by decide +kernel) (by decide +kernel)
set_option maxRecDepth 20000 in
theorem gX8_shifts_X8_personAt : GoodIn wsX8_shifts (wsV RX8 104 RX8 yX8_personAt wsX8_personAt) := goodIn_app (goodIn_of _ (by decide +kernel)) ggX8_shifts_X8_personAt
set_option maxRecDepth 20000 in
theorem ggX8_shifts_X7_shiftsFrom : GoodIn wsX8_shifts wsX7_shiftsFrom := goodIn_r _ [12, 13, 14, 11, 15, 16, 17, 18] (by decide +kernel) (by decide +kernel)
set_option maxRecDepth 20000 in
theorem gX8_shifts_X7_shiftsFrom : GoodIn wsX8_shifts (va_wsS RX8 180 yX7_shiftsFrom wsX7_shiftsFrom) := goodIn_app (goodIn_of _ (by decide +kernel)) ggX8_shifts_X7_shiftsFrom
theorem dX8_shifts_0 : decode cX8_shifts 0 = .ok (.aload_n 0, 1) := by decide +kernel
theorem dX8_shifts_1 : decode cX8_shifts 1 = .ok (.iload_n 1, 1) := by decide +kernel
theorem dX8_shifts_2 : decode cX8_shifts 2 = .ok (.invokevirtual 104, 3) := by decide +kernel
theorem dX8_shifts_5 : decode cX8_shifts 5 = .ok (.astore_n 2, 1) := by decide +kernel
theorem dX8_shifts_6 : decode cX8_shifts 6 = .ok (.aload_n 2, 1) := by decide +kernel
theorem dX8_shifts_7 : decode cX8_shifts 7 = .ok (.ifnonnull 13, 3) := by decide +kernel
theorem dX8_shifts_10 : decode cX8_shifts 10 = .ok (.new 78, 3) := by decide +kernel
theorem dX8_shifts_13 : decode cX8_shifts 13 = .ok (.dup, 1) := by decide +kernel
theorem dX8_shifts_14 : decode cX8_shifts 14 = .ok (.ldc 178, 2) := by decide +kernel
theorem dX8_shifts_16 : decode cX8_shifts 16 = .ok (.invokespecial 82, 3) := by decide +kernel
theorem dX8_shifts_19 : decode cX8_shifts 19 = .ok (.athrow, 1) := by decide +kernel
theorem dX8_shifts_20 : decode cX8_shifts 20 = .ok (.aload_n 2, 1) := by decide +kernel
theorem dX8_shifts_21 : decode cX8_shifts 21 = .ok (.getfield 128, 3) := by decide +kernel
theorem dX8_shifts_24 : decode cX8_shifts 24 = .ok (.iconst 0, 1) := by decide +kernel
theorem dX8_shifts_25 : decode cX8_shifts 25 = .ok (.invokestatic 180, 3) := by decide +kernel
theorem dX8_shifts_28 : decode cX8_shifts 28 = .ok (.ireturn, 1) := by decide +kernel
set_option maxRecDepth 20000 in
theorem ggX8_weekends_X8_personAt : GoodIn wsX8_weekends wsX8_personAt := goodIn_r _ [7, 8, 17, 18, 19, 20, 21, 22, 23, 24, 25] (by decide +kernel) (by decide +kernel)
set_option maxRecDepth 20000 in
theorem gX8_weekends_X8_personAt : GoodIn wsX8_weekends (wsV RX8 104 RX8 yX8_personAt wsX8_personAt) := goodIn_app (goodIn_of _ (by decide +kernel)) ggX8_weekends_X8_personAt
theorem dX8_weekends_0 : decode cX8_weekends 0 = .ok (.aload_n 0, 1) := by decide +kernel
theorem dX8_weekends_1 : decode cX8_weekends 1 = .ok (.iload_n 1, 1) := by decide +kernel
theorem dX8_weekends_2 : decode cX8_weekends 2 = .ok (.invokevirtual 104, 3) := by decide +kernel
theorem dX8_weekends_5 : decode cX8_weekends 5 = .ok (.astore_n 2, 1) := by decide +kernel
theorem dX8_weekends_6 : decode cX8_weekends 6 = .ok (.aload_n 2, 1) := by decide +kernel
theorem dX8_weekends_7 : decode cX8_weekends 7 = .ok (.ifnonnull 13, 3) := by decide +kernel
theorem dX8_weekends_10 : decode cX8_weekends 10 = .ok (.new 78, 3) := by decide +kernel
theorem dX8_weekends_13 : decode cX8_weekends 13 = .ok (.dup, 1) := by decide +kernel
theorem dX8_weekends_14 : decode cX8_weekends 14 = .ok (.ldc 178, 2) := by decide +kernel
theorem dX8_weekends_16 : decode cX8_weekends 16 = .ok (.invokespecial 82, 3) := by decide +kernel
theorem dX8_weekends_19 : decode cX8_weekends 19 = .ok (.athrow, 1) := by decide +kernel
theorem dX8_weekends_20 : decode cX8_weekends 20 = .ok (.aload_n 2, 1) := by decide +kernel
theorem dX8_weekends_21 : decode cX8_weekends 21 = .ok (.getfield 183, 3) := by decide +kernel
theorem dX8_weekends_24 : decode cX8_weekends 24 = .ok (.ireturn, 1) := by decide +kernel
set_option maxRecDepth 20000 in
theorem ggX8_broken_X8_personAt : GoodIn wsX8_broken wsX8_personAt := goodIn_r _ [7, 8, 27, 28, 29, 30, 31, 32, 33, 34, 35] (by decide +kernel) (by decide +kernel)
set_option maxRecDepth 20000 in
theorem gX8_broken_X8_personAt : GoodIn wsX8_broken (wsV RX8 104 RX8 yX8_personAt wsX8_personAt) := goodIn_app (goodIn_of _ (by decide +kernel)) ggX8_broken_X8_personAt
set_option maxRecDepth 20000 in
theorem ggX8_broken_X4_brokenWishes : GoodIn wsX8_broken wsX4_brokenWishes := goodIn_r _ [13, 14, 15, 16, 17, 18, 19, 20, 21, 22, 23, 24, 12, 25, 26, 36, 37, 38, 39, 40, 41, 42, 43] (by decide +kernel) (by decide +kernel)
set_option maxRecDepth 20000 in
theorem gX8_broken_X4_brokenWishes : GoodIn wsX8_broken (wsV RX8 165 RX4 yX4_brokenWishes wsX4_brokenWishes) := goodIn_app (goodIn_of _ (by decide +kernel)) ggX8_broken_X4_brokenWishes
theorem dX8_broken_0 : decode cX8_broken 0 = .ok (.aload_n 0, 1) := by decide +kernel
theorem dX8_broken_1 : decode cX8_broken 1 = .ok (.iload_n 1, 1) := by decide +kernel
theorem dX8_broken_2 : decode cX8_broken 2 = .ok (.invokevirtual 104, 3) := by decide +kernel
theorem dX8_broken_5 : decode cX8_broken 5 = .ok (.astore_n 2, 1) := by decide +kernel
theorem dX8_broken_6 : decode cX8_broken 6 = .ok (.aload_n 2, 1) := by decide +kernel
theorem dX8_broken_7 : decode cX8_broken 7 = .ok (.ifnonnull 13, 3) := by decide +kernel
theorem dX8_broken_10 : decode cX8_broken 10 = .ok (.new 78, 3) := by decide +kernel
theorem dX8_broken_13 : decode cX8_broken 13 = .ok (.dup, 1) := by decide +kernel
theorem dX8_broken_14 : decode cX8_broken 14 = .ok (.ldc 178, 2) := by decide +kernel
theorem dX8_broken_16 : decode cX8_broken 16 = .ok (.invokespecial 82, 3) := by decide +kernel
theorem dX8_broken_19 : decode cX8_broken 19 = .ok (.athrow, 1) := by decide +kernel
theorem dX8_broken_20 : decode cX8_broken 20 = .ok (.aload_n 2, 1) := by decide +kernel
theorem dX8_broken_21 : decode cX8_broken 21 = .ok (.invokevirtual 165, 3) := by decide +kernel
theorem dX8_broken_24 : decode cX8_broken 24 = .ok (.ireturn, 1) := by decide +kernel
set_option maxRecDepth 20000 in
theorem ggX8_runBefore_X8_personAt : GoodIn wsX8_runBefore wsX8_personAt := goodIn_r _ [7, 8, 17, 18, 19, 20, 21, 22, 23, 24, 25] (by decide +kernel) (by decide +kernel)
set_option maxRecDepth 20000 in
theorem gX8_runBefore_X8_personAt : GoodIn wsX8_runBefore (wsV RX8 104 RX8 yX8_personAt wsX8_personAt) := goodIn_app (goodIn_of _ (by decide +kernel)) ggX8_runBefore_X8_personAt
theorem dX8_runBefore_0 : decode cX8_runBefore 0 = .ok (.aload_n 0, 1) := by decide +kernel
theorem dX8_runBefore_1 : decode cX8_runBefore 1 = .ok (.iload_n 1, 1) := by decide +kernel
theorem dX8_runBefore_2 : decode cX8_runBefore 2 = .ok (.invokevirtual 104, 3) := by decide +kernel
theorem dX8_runBefore_5 : decode cX8_runBefore 5 = .ok (.astore_n 2, 1) := by decide +kernel
theorem dX8_runBefore_6 : decode cX8_runBefore 6 = .ok (.aload_n 2, 1) := by decide +kernel
theorem dX8_runBefore_7 : decode cX8_runBefore 7 = .ok (.ifnonnull 13, 3) := by decide +kernel
theorem dX8_runBefore_10 : decode cX8_runBefore 10 = .ok (.new 78, 3) := by decide +kernel
theorem dX8_runBefore_13 : decode cX8_runBefore 13 = .ok (.dup, 1) := by decide +kernel
theorem dX8_runBefore_14 : decode cX8_runBefore 14 = .ok (.ldc 178, 2) := by decide +kernel
theorem dX8_runBefore_16 : decode cX8_runBefore 16 = .ok (.invokespecial 82, 3) := by decide +kernel
theorem dX8_runBefore_19 : decode cX8_runBefore 19 = .ok (.athrow, 1) := by decide +kernel
theorem dX8_runBefore_20 : decode cX8_runBefore 20 = .ok (.aload_n 2, 1) := by decide +kernel
theorem dX8_runBefore_21 : decode cX8_runBefore 21 = .ok (.getfield 186, 3) := by decide +kernel
theorem dX8_runBefore_24 : decode cX8_runBefore 24 = .ok (.ireturn, 1) := by decide +kernel
set_option maxRecDepth 20000 in
theorem ggX8_isFeasible_X8_personAt : GoodIn wsX8_isFeasible wsX8_personAt := goodIn_r _ [8, 9, 57, 58, 59, 60, 61, 62, 63, 64, 65] (by decide +kernel) (by decide +kernel)
set_option maxRecDepth 20000 in
theorem gX8_isFeasible_X8_personAt : GoodIn wsX8_isFeasible (wsV RX8 104 RX8 yX8_personAt wsX8_personAt) := goodIn_app (goodIn_of _ (by decide +kernel)) ggX8_isFeasible_X8_personAt
set_option maxRecDepth 20000 in
theorem ggX8_isFeasible_X4_canHave : GoodIn wsX8_isFeasible wsX4_canHave := goodIn_r _ [14, 15, 16, 17, 18, 19, 20, 21, 22, 23, 24, 25, 26, 27, 13, 28, 29, 30, 31, 32, 33, 34, 35, 36, 37, 38, 39, 40, 41, 42, 43, 44, 45, 46, 47, 48, 49, 50, 51, 52, 53, 54, 55, 56, 66, 67] (by decide +kernel) (by decide +kernel)
set_option maxRecDepth 20000 in
theorem gX8_isFeasible_X4_canHave : GoodIn wsX8_isFeasible (wsV RX8 148 RX4 yX4_canHave wsX4_canHave) := goodIn_app (goodIn_of _ (by decide +kernel)) ggX8_isFeasible_X4_canHave
theorem dX8_isFeasible_0 : decode cX8_isFeasible 0 = .ok (.aload_n 0, 1) := by decide +kernel
theorem dX8_isFeasible_1 : decode cX8_isFeasible 1 = .ok (.iload_n 1, 1) := by decide +kernel
theorem dX8_isFeasible_2 : decode cX8_isFeasible 2 = .ok (.invokevirtual 104, 3) := by decide +kernel
theorem dX8_isFeasible_5 : decode cX8_isFeasible 5 = .ok (.astore_n 2, 1) := by decide +kernel
theorem dX8_isFeasible_6 : decode cX8_isFeasible 6 = .ok (.aload_n 2, 1) := by decide +kernel
theorem dX8_isFeasible_7 : decode cX8_isFeasible 7 = .ok (.ifnonnull 13, 3) := by decide +kernel
theorem dX8_isFeasible_10 : decode cX8_isFeasible 10 = .ok (.new 78, 3) := by decide +kernel
theorem dX8_isFeasible_13 : decode cX8_isFeasible 13 = .ok (.dup, 1) := by decide +kernel
theorem dX8_isFeasible_14 : decode cX8_isFeasible 14 = .ok (.ldc 178, 2) := by decide +kernel
theorem dX8_isFeasible_16 : decode cX8_isFeasible 16 = .ok (.invokespecial 82, 3) := by decide +kernel
theorem dX8_isFeasible_19 : decode cX8_isFeasible 19 = .ok (.athrow, 1) := by decide +kernel
theorem dX8_isFeasible_20 : decode cX8_isFeasible 20 = .ok (.aload_n 2, 1) := by decide +kernel
theorem dX8_isFeasible_21 : decode cX8_isFeasible 21 = .ok (.aload_n 2, 1) := by decide +kernel
theorem dX8_isFeasible_22 : decode cX8_isFeasible 22 = .ok (.getfield 128, 3) := by decide +kernel
theorem dX8_isFeasible_25 : decode cX8_isFeasible 25 = .ok (.aload_n 0, 1) := by decide +kernel
theorem dX8_isFeasible_26 : decode cX8_isFeasible 26 = .ok (.getfield 25, 3) := by decide +kernel
theorem dX8_isFeasible_29 : decode cX8_isFeasible 29 = .ok (.invokevirtual 148, 3) := by decide +kernel
theorem dX8_isFeasible_32 : decode cX8_isFeasible 32 = .ok (.ireturn, 1) := by decide +kernel
set_option maxRecDepth 20000 in
theorem ggX8_weeks_X8_personAt : GoodIn wsX8_weeks wsX8_personAt := goodIn_r _ [8, 9, 49, 50, 51, 52, 53, 54, 55, 56, 57] (by decide +kernel) (by decide +kernel)
set_option maxRecDepth 20000 in
theorem gX8_weeks_X8_personAt : GoodIn wsX8_weeks (wsV RX8 104 RX8 yX8_personAt wsX8_personAt) := goodIn_app (goodIn_of _ (by decide +kernel)) ggX8_weeks_X8_personAt
set_option maxRecDepth 20000 in
theorem ggX8_weeks_X4_canHave : GoodIn wsX8_weeks wsX4_canHave := goodIn_r _ [14, 15, 16, 17, 18, 19, 20, 21, 22, 23, 24, 25, 26, 27, 13, 28, 29, 30, 31, 32, 33, 34, 35, 36, 37, 38, 39, 40, 41, 42, 43, 44, 45, 46, 47, 48, 58, 59, 60, 61, 62, 63, 64, 65, 66, 67] (by decide +kernel) (by decide +kernel)
set_option maxRecDepth 20000 in
theorem gX8_weeks_X4_canHave : GoodIn wsX8_weeks (wsV RX8 148 RX4 yX4_canHave wsX4_canHave) := goodIn_app (goodIn_of _ (by decide +kernel)) ggX8_weeks_X4_canHave
theorem dX8_weeks_0 : decode cX8_weeks 0 = .ok (.aload_n 0, 1) := by decide +kernel
theorem dX8_weeks_1 : decode cX8_weeks 1 = .ok (.iload_n 1, 1) := by decide +kernel
theorem dX8_weeks_2 : decode cX8_weeks 2 = .ok (.invokevirtual 104, 3) := by decide +kernel
theorem dX8_weeks_5 : decode cX8_weeks 5 = .ok (.astore_n 2, 1) := by decide +kernel
theorem dX8_weeks_6 : decode cX8_weeks 6 = .ok (.aload_n 2, 1) := by decide +kernel
theorem dX8_weeks_7 : decode cX8_weeks 7 = .ok (.ifnonnull 13, 3) := by decide +kernel
theorem dX8_weeks_10 : decode cX8_weeks 10 = .ok (.new 78, 3) := by decide +kernel
theorem dX8_weeks_13 : decode cX8_weeks 13 = .ok (.dup, 1) := by decide +kernel
theorem dX8_weeks_14 : decode cX8_weeks 14 = .ok (.ldc 178, 2) := by decide +kernel
theorem dX8_weeks_16 : decode cX8_weeks 16 = .ok (.invokespecial 82, 3) := by decide +kernel
theorem dX8_weeks_19 : decode cX8_weeks 19 = .ok (.athrow, 1) := by decide +kernel
theorem dX8_weeks_20 : decode cX8_weeks 20 = .ok (.iconst 0, 1) := by decide +kernel
theorem dX8_weeks_21 : decode cX8_weeks 21 = .ok (.istore_n 3, 1) := by decide +kernel
theorem dX8_weeks_22 : decode cX8_weeks 22 = .ok (.iconst 0, 1) := by decide +kernel
theorem dX8_weeks_23 : decode cX8_weeks 23 = .ok (.istore 4, 2) := by decide +kernel
theorem dX8_weeks_25 : decode cX8_weeks 25 = .ok (.iload 4, 2) := by decide +kernel
theorem dX8_weeks_27 : decode cX8_weeks 27 = .ok (.sipush 16384, 3) := by decide +kernel
theorem dX8_weeks_30 : decode cX8_weeks 30 = .ok (.if_icmp .ge 25, 3) := by decide +kernel
theorem dX8_weeks_33 : decode cX8_weeks 33 = .ok (.aload_n 2, 1) := by decide +kernel
theorem dX8_weeks_34 : decode cX8_weeks 34 = .ok (.iload 4, 2) := by decide +kernel
theorem dX8_weeks_36 : decode cX8_weeks 36 = .ok (.aload_n 0, 1) := by decide +kernel
theorem dX8_weeks_37 : decode cX8_weeks 37 = .ok (.getfield 25, 3) := by decide +kernel
theorem dX8_weeks_40 : decode cX8_weeks 40 = .ok (.invokevirtual 148, 3) := by decide +kernel
theorem dX8_weeks_43 : decode cX8_weeks 43 = .ok (.ifCond .eq 6, 3) := by decide +kernel
theorem dX8_weeks_46 : decode cX8_weeks 46 = .ok (.iinc 3 1, 3) := by decide +kernel
theorem dX8_weeks_49 : decode cX8_weeks 49 = .ok (.iinc 4 1, 3) := by decide +kernel
theorem dX8_weeks_52 : decode cX8_weeks 52 = .ok (.goto (-27), 3) := by decide +kernel
theorem dX8_weeks_55 : decode cX8_weeks 55 = .ok (.iload_n 3, 1) := by decide +kernel
theorem dX8_weeks_56 : decode cX8_weeks 56 = .ok (.ireturn, 1) := by decide +kernel
set_option maxRecDepth 20000 in
theorem ggX8_weeksByDays_X8_personAt : GoodIn wsX8_weeksByDays wsX8_personAt := goodIn_r _ [10, 11, 94, 95, 96, 97, 98, 99, 100, 101, 102] (by decide +kernel) (by decide +kernel)
set_option maxRecDepth 20000 in
theorem gX8_weeksByDays_X8_personAt : GoodIn wsX8_weeksByDays (wsV RX8 104 RX8 yX8_personAt wsX8_personAt) := goodIn_app (goodIn_of _ (by decide +kernel)) ggX8_weeksByDays_X8_personAt
set_option maxRecDepth 20000 in
theorem ggX8_weeksByDays_X1_through : GoodIn wsX8_weeksByDays wsX1_through := goodIn_r _ [16, 17, 18, 19, 20, 21, 22, 23, 24, 25, 26, 27, 28, 29, 30, 31, 32, 33, 34, 35, 36, 37, 38, 15, 39, 40, 41, 42, 43, 44, 45, 46, 47, 48, 49, 50, 51, 52, 53, 54, 55, 56, 57, 58, 59, 60, 61, 62, 63, 64, 65, 66, 67, 68, 69, 70, 71, 72, 73, 74, 75, 76, 77, 78, 79, 80, 81, 82, 83, 84, 85, 86, 87, 88, 89, 90, 91, 92, 93, 103, 104, 105, 106, 107, 108, 109, 110, 111, 112, 113, 114, 115] (by decide +kernel) (by decide +kernel)
set_option maxRecDepth 20000 in
theorem gX8_weeksByDays_X1_through : GoodIn wsX8_weeksByDays (wsV RX8 189 RX1 yX1_through wsX1_through) := goodIn_app (goodIn_of _ (by decide +kernel)) ggX8_weeksByDays_X1_through
theorem dX8_weeksByDays_0 : decode cX8_weeksByDays 0 = .ok (.aload_n 0, 1) := by decide +kernel
theorem dX8_weeksByDays_1 : decode cX8_weeksByDays 1 = .ok (.iload_n 1, 1) := by decide +kernel
theorem dX8_weeksByDays_2 : decode cX8_weeksByDays 2 = .ok (.invokevirtual 104, 3) := by decide +kernel
theorem dX8_weeksByDays_5 : decode cX8_weeksByDays 5 = .ok (.astore_n 2, 1) := by decide +kernel
theorem dX8_weeksByDays_6 : decode cX8_weeksByDays 6 = .ok (.aload_n 2, 1) := by decide +kernel
theorem dX8_weeksByDays_7 : decode cX8_weeksByDays 7 = .ok (.ifnonnull 13, 3) := by decide +kernel
theorem dX8_weeksByDays_10 : decode cX8_weeksByDays 10 = .ok (.new 78, 3) := by decide +kernel
theorem dX8_weeksByDays_13 : decode cX8_weeksByDays 13 = .ok (.dup, 1) := by decide +kernel
theorem dX8_weeksByDays_14 : decode cX8_weeksByDays 14 = .ok (.ldc 178, 2) := by decide +kernel
theorem dX8_weeksByDays_16 : decode cX8_weeksByDays 16 = .ok (.invokespecial 82, 3) := by decide +kernel
theorem dX8_weeksByDays_19 : decode cX8_weeksByDays 19 = .ok (.athrow, 1) := by decide +kernel
theorem dX8_weeksByDays_20 : decode cX8_weeksByDays 20 = .ok (.aload_n 0, 1) := by decide +kernel
theorem dX8_weeksByDays_21 : decode cX8_weeksByDays 21 = .ok (.getfield 32, 3) := by decide +kernel
theorem dX8_weeksByDays_24 : decode cX8_weeksByDays 24 = .ok (.aload_n 2, 1) := by decide +kernel
theorem dX8_weeksByDays_25 : decode cX8_weeksByDays 25 = .ok (.aload_n 0, 1) := by decide +kernel
theorem dX8_weeksByDays_26 : decode cX8_weeksByDays 26 = .ok (.getfield 25, 3) := by decide +kernel
theorem dX8_weeksByDays_29 : decode cX8_weeksByDays 29 = .ok (.aload_n 0, 1) := by decide +kernel
theorem dX8_weeksByDays_30 : decode cX8_weeksByDays 30 = .ok (.getfield 39, 3) := by decide +kernel
theorem dX8_weeksByDays_33 : decode cX8_weeksByDays 33 = .ok (.invokevirtual 189, 3) := by decide +kernel
theorem dX8_weeksByDays_36 : decode cX8_weeksByDays 36 = .ok (.l2i, 1) := by decide +kernel
theorem dX8_weeksByDays_37 : decode cX8_weeksByDays 37 = .ok (.ireturn, 1) := by decide +kernel
set_option maxRecDepth 20000 in
theorem ggX8_couldTake_X8_isDay : GoodIn wsX8_couldTake wsX8_isDay := goodIn_r _ [8] (by decide +kernel) (by decide +kernel)
set_option maxRecDepth 20000 in
theorem gX8_couldTake_X8_isDay : GoodIn wsX8_couldTake (va_wsS RX8 71 yX8_isDay wsX8_isDay) := goodIn_app (goodIn_of _ (by decide +kernel)) ggX8_couldTake_X8_isDay
set_option maxRecDepth 20000 in
theorem ggX8_couldTake_X8_isKind : GoodIn wsX8_couldTake wsX8_isKind := goodIn_r _ [11] (by decide +kernel) (by decide +kernel)
set_option maxRecDepth 20000 in
theorem gX8_couldTake_X8_isKind : GoodIn wsX8_couldTake (va_wsS RX8 75 yX8_isKind wsX8_isKind) := goodIn_app (goodIn_of _ (by decide +kernel)) ggX8_couldTake_X8_isKind
set_option maxRecDepth 20000 in
theorem ggX8_couldTake_X8_personAt : GoodIn wsX8_couldTake wsX8_personAt := goodIn_r _ [15, 16, 60, 61, 62, 63, 64, 65, 66, 67, 68] (by decide +kernel) (by decide +kernel)
set_option maxRecDepth 20000 in
theorem gX8_couldTake_X8_personAt : GoodIn wsX8_couldTake (wsV RX8 104 RX8 yX8_personAt wsX8_personAt) := goodIn_app (goodIn_of _ (by decide +kernel)) ggX8_couldTake_X8_personAt
set_option maxRecDepth 20000 in
theorem ggX8_couldTake_X7_at : GoodIn wsX8_couldTake wsX7_at := goodIn_r _ [20, 21, 22, 19, 23] (by decide +kernel) (by decide +kernel)
set_option maxRecDepth 20000 in
theorem gX8_couldTake_X7_at : GoodIn wsX8_couldTake (va_wsS RX8 154 yX7_at wsX7_at) := goodIn_app (goodIn_of _ (by decide +kernel)) ggX8_couldTake_X7_at
set_option maxRecDepth 20000 in
theorem ggX8_couldTake_X7_with : GoodIn wsX8_couldTake wsX7_with := goodIn_r _ [26, 21, 22, 19, 23] (by decide +kernel) (by decide +kernel)
set_option maxRecDepth 20000 in
theorem gX8_couldTake_X7_with : GoodIn wsX8_couldTake (va_wsS RX8 144 yX7_with wsX7_with) := goodIn_app (goodIn_of _ (by decide +kernel)) ggX8_couldTake_X7_with
set_option maxRecDepth 20000 in
theorem ggX8_couldTake_X4_canHave : GoodIn wsX8_couldTake wsX4_canHave := goodIn_r _ [31, 32, 33, 34, 35, 18, 19, 20, 21, 22, 23, 36, 37, 38, 30, 39, 40, 41, 42, 43, 44, 45, 46, 47, 48, 49, 50, 51, 52, 53, 54, 55, 56, 57, 58, 59, 69, 70, 71, 72, 73, 74, 75, 76, 77, 78] (by decide +kernel) (by decide +kernel)
set_option maxRecDepth 20000 in
theorem gX8_couldTake_X4_canHave : GoodIn wsX8_couldTake (wsV RX8 148 RX4 yX4_canHave wsX4_canHave) := goodIn_app (goodIn_of _ (by decide +kernel)) ggX8_couldTake_X4_canHave
theorem dX8_couldTake_0 : decode cX8_couldTake 0 = .ok (.iload_n 1, 1) := by decide +kernel
theorem dX8_couldTake_1 : decode cX8_couldTake 1 = .ok (.invokestatic 71, 3) := by decide +kernel
theorem dX8_couldTake_4 : decode cX8_couldTake 4 = .ok (.ifCond .eq 10, 3) := by decide +kernel
theorem dX8_couldTake_7 : decode cX8_couldTake 7 = .ok (.iload_n 2, 1) := by decide +kernel
theorem dX8_couldTake_8 : decode cX8_couldTake 8 = .ok (.invokestatic 75, 3) := by decide +kernel
theorem dX8_couldTake_11 : decode cX8_couldTake 11 = .ok (.ifCond .ne 13, 3) := by decide +kernel
theorem dX8_couldTake_14 : decode cX8_couldTake 14 = .ok (.new 78, 3) := by decide +kernel
theorem dX8_couldTake_17 : decode cX8_couldTake 17 = .ok (.dup, 1) := by decide +kernel
theorem dX8_couldTake_18 : decode cX8_couldTake 18 = .ok (.ldc 80, 2) := by decide +kernel
theorem dX8_couldTake_20 : decode cX8_couldTake 20 = .ok (.invokespecial 82, 3) := by decide +kernel
theorem dX8_couldTake_23 : decode cX8_couldTake 23 = .ok (.athrow, 1) := by decide +kernel
theorem dX8_couldTake_24 : decode cX8_couldTake 24 = .ok (.iconst 0, 1) := by decide +kernel
theorem dX8_couldTake_25 : decode cX8_couldTake 25 = .ok (.istore_n 3, 1) := by decide +kernel
theorem dX8_couldTake_26 : decode cX8_couldTake 26 = .ok (.iconst 0, 1) := by decide +kernel
theorem dX8_couldTake_27 : decode cX8_couldTake 27 = .ok (.istore 4, 2) := by decide +kernel
theorem dX8_couldTake_29 : decode cX8_couldTake 29 = .ok (.iload 4, 2) := by decide +kernel
theorem dX8_couldTake_31 : decode cX8_couldTake 31 = .ok (.aload_n 0, 1) := by decide +kernel
theorem dX8_couldTake_32 : decode cX8_couldTake 32 = .ok (.getfield 59, 3) := by decide +kernel
theorem dX8_couldTake_35 : decode cX8_couldTake 35 = .ok (.if_icmp .ge 63, 3) := by decide +kernel
theorem dX8_couldTake_38 : decode cX8_couldTake 38 = .ok (.aload_n 0, 1) := by decide +kernel
theorem dX8_couldTake_39 : decode cX8_couldTake 39 = .ok (.iload 4, 2) := by decide +kernel
theorem dX8_couldTake_41 : decode cX8_couldTake 41 = .ok (.invokevirtual 104, 3) := by decide +kernel
theorem dX8_couldTake_44 : decode cX8_couldTake 44 = .ok (.astore 5, 2) := by decide +kernel
theorem dX8_couldTake_46 : decode cX8_couldTake 46 = .ok (.aload 5, 2) := by decide +kernel
theorem dX8_couldTake_48 : decode cX8_couldTake 48 = .ok (.ifnull 44, 3) := by decide +kernel
theorem dX8_couldTake_51 : decode cX8_couldTake 51 = .ok (.aload 5, 2) := by decide +kernel
theorem dX8_couldTake_53 : decode cX8_couldTake 53 = .ok (.getfield 128, 3) := by decide +kernel
theorem dX8_couldTake_56 : decode cX8_couldTake 56 = .ok (.iload_n 1, 1) := by decide +kernel
theorem dX8_couldTake_57 : decode cX8_couldTake 57 = .ok (.invokestatic 154, 3) := by decide +kernel
theorem dX8_couldTake_60 : decode cX8_couldTake 60 = .ok (.ifCond .ne 32, 3) := by decide +kernel
theorem dX8_couldTake_63 : decode cX8_couldTake 63 = .ok (.aload 5, 2) := by decide +kernel
theorem dX8_couldTake_65 : decode cX8_couldTake 65 = .ok (.aload 5, 2) := by decide +kernel
theorem dX8_couldTake_67 : decode cX8_couldTake 67 = .ok (.getfield 128, 3) := by decide +kernel
theorem dX8_couldTake_70 : decode cX8_couldTake 70 = .ok (.iload_n 1, 1) := by decide +kernel
theorem dX8_couldTake_71 : decode cX8_couldTake 71 = .ok (.iload_n 2, 1) := by decide +kernel
theorem dX8_couldTake_72 : decode cX8_couldTake 72 = .ok (.invokestatic 144, 3) := by decide +kernel
theorem dX8_couldTake_75 : decode cX8_couldTake 75 = .ok (.aload_n 0, 1) := by decide +kernel
theorem dX8_couldTake_76 : decode cX8_couldTake 76 = .ok (.getfield 25, 3) := by decide +kernel
theorem dX8_couldTake_79 : decode cX8_couldTake 79 = .ok (.invokevirtual 148, 3) := by decide +kernel
theorem dX8_couldTake_82 : decode cX8_couldTake 82 = .ok (.ifCond .eq 10, 3) := by decide +kernel
theorem dX8_couldTake_85 : decode cX8_couldTake 85 = .ok (.iload_n 3, 1) := by decide +kernel
theorem dX8_couldTake_86 : decode cX8_couldTake 86 = .ok (.iconst 1, 1) := by decide +kernel
theorem dX8_couldTake_87 : decode cX8_couldTake 87 = .ok (.iload 4, 2) := by decide +kernel
theorem dX8_couldTake_89 : decode cX8_couldTake 89 = .ok (.ishl, 1) := by decide +kernel
theorem dX8_couldTake_90 : decode cX8_couldTake 90 = .ok (.ior, 1) := by decide +kernel
theorem dX8_couldTake_91 : decode cX8_couldTake 91 = .ok (.istore_n 3, 1) := by decide +kernel
theorem dX8_couldTake_92 : decode cX8_couldTake 92 = .ok (.iinc 4 1, 3) := by decide +kernel
theorem dX8_couldTake_95 : decode cX8_couldTake 95 = .ok (.goto (-66), 3) := by decide +kernel
theorem dX8_couldTake_98 : decode cX8_couldTake 98 = .ok (.iload_n 3, 1) := by decide +kernel
theorem dX8_couldTake_99 : decode cX8_couldTake 99 = .ok (.ireturn, 1) := by decide +kernel
set_option maxRecDepth 20000 in
theorem ggX8_swapFor_X8_personAt : GoodIn wsX8_swapFor wsX8_personAt := goodIn_r _ [8, 9, 62, 63, 64, 65, 66, 67, 68, 69, 70] (by decide +kernel) (by decide +kernel)
set_option maxRecDepth 20000 in
theorem gX8_swapFor_X8_personAt : GoodIn wsX8_swapFor (wsV RX8 104 RX8 yX8_personAt wsX8_personAt) := goodIn_app (goodIn_of _ (by decide +kernel)) ggX8_swapFor_X8_personAt
set_option maxRecDepth 20000 in
theorem ggX8_swapFor_X8_isDay : GoodIn wsX8_swapFor wsX8_isDay := goodIn_r _ [12] (by decide +kernel) (by decide +kernel)
set_option maxRecDepth 20000 in
theorem gX8_swapFor_X8_isDay : GoodIn wsX8_swapFor (va_wsS RX8 71 yX8_isDay wsX8_isDay) := goodIn_app (goodIn_of _ (by decide +kernel)) ggX8_swapFor_X8_isDay
set_option maxRecDepth 20000 in
theorem ggX8_swapFor_X7_at : GoodIn wsX8_swapFor wsX7_at := goodIn_r _ [16, 17, 18, 15, 19] (by decide +kernel) (by decide +kernel)
set_option maxRecDepth 20000 in
theorem gX8_swapFor_X7_at : GoodIn wsX8_swapFor (va_wsS RX8 154 yX7_at wsX7_at) := goodIn_app (goodIn_of _ (by decide +kernel)) ggX8_swapFor_X7_at
set_option maxRecDepth 20000 in
theorem ggX8_swapFor_X7_shiftsFrom : GoodIn wsX8_swapFor wsX7_shiftsFrom := goodIn_r _ [22, 23, 14, 15, 16, 17, 18, 19] (by decide +kernel) (by decide +kernel)
set_option maxRecDepth 20000 in
theorem gX8_swapFor_X7_shiftsFrom : GoodIn wsX8_swapFor (va_wsS RX8 180 yX7_shiftsFrom wsX7_shiftsFrom) := goodIn_app (goodIn_of _ (by decide +kernel)) ggX8_swapFor_X7_shiftsFrom
set_option maxRecDepth 20000 in
theorem ggX8_swapFor_X8_couldSwap : GoodIn wsX8_swapFor wsX8_couldSwap := goodIn_r _ [27, 28, 13, 14, 15, 16, 17, 18, 19, 29, 30, 31, 32, 33, 34, 35, 36, 37, 38, 39, 40, 41, 42, 43, 44, 45, 46, 47, 48, 49, 50, 51, 52, 53, 54, 55, 56, 57, 58, 59, 60, 61, 21, 22, 23, 71, 72, 73, 74, 75, 76, 77, 78, 62, 63, 64, 65, 66, 67, 68, 69, 70, 79, 80] (by decide +kernel) (by decide +kernel)
set_option maxRecDepth 20000 in
theorem gX8_swapFor_X8_couldSwap : GoodIn wsX8_swapFor (wsV RX8 159 RX8 yX8_couldSwap wsX8_couldSwap) := goodIn_app (goodIn_of _ (by decide +kernel)) ggX8_swapFor_X8_couldSwap
theorem dX8_swapFor_0 : decode cX8_swapFor 0 = .ok (.aload_n 0, 1) := by decide +kernel
theorem dX8_swapFor_1 : decode cX8_swapFor 1 = .ok (.iload_n 1, 1) := by decide +kernel
theorem dX8_swapFor_2 : decode cX8_swapFor 2 = .ok (.invokevirtual 104, 3) := by decide +kernel
theorem dX8_swapFor_5 : decode cX8_swapFor 5 = .ok (.astore_n 3, 1) := by decide +kernel
theorem dX8_swapFor_6 : decode cX8_swapFor 6 = .ok (.aload_n 3, 1) := by decide +kernel
theorem dX8_swapFor_7 : decode cX8_swapFor 7 = .ok (.ifnull 10, 3) := by decide +kernel
theorem dX8_swapFor_10 : decode cX8_swapFor 10 = .ok (.iload_n 2, 1) := by decide +kernel
theorem dX8_swapFor_11 : decode cX8_swapFor 11 = .ok (.invokestatic 71, 3) := by decide +kernel
theorem dX8_swapFor_14 : decode cX8_swapFor 14 = .ok (.ifCond .ne 13, 3) := by decide +kernel
theorem dX8_swapFor_17 : decode cX8_swapFor 17 = .ok (.new 78, 3) := by decide +kernel
theorem dX8_swapFor_20 : decode cX8_swapFor 20 = .ok (.dup, 1) := by decide +kernel
theorem dX8_swapFor_21 : decode cX8_swapFor 21 = .ok (.ldc 108, 2) := by decide +kernel
theorem dX8_swapFor_23 : decode cX8_swapFor 23 = .ok (.invokespecial 82, 3) := by decide +kernel
theorem dX8_swapFor_26 : decode cX8_swapFor 26 = .ok (.athrow, 1) := by decide +kernel
theorem dX8_swapFor_27 : decode cX8_swapFor 27 = .ok (.iconst (-1), 1) := by decide +kernel
theorem dX8_swapFor_28 : decode cX8_swapFor 28 = .ok (.istore 4, 2) := by decide +kernel
theorem dX8_swapFor_30 : decode cX8_swapFor 30 = .ok (.bipush 8, 2) := by decide +kernel
theorem dX8_swapFor_32 : decode cX8_swapFor 32 = .ok (.istore 5, 2) := by decide +kernel
theorem dX8_swapFor_34 : decode cX8_swapFor 34 = .ok (.iconst 0, 1) := by decide +kernel
theorem dX8_swapFor_35 : decode cX8_swapFor 35 = .ok (.istore 6, 2) := by decide +kernel
theorem dX8_swapFor_37 : decode cX8_swapFor 37 = .ok (.iload 6, 2) := by decide +kernel
theorem dX8_swapFor_39 : decode cX8_swapFor 39 = .ok (.aload_n 0, 1) := by decide +kernel
theorem dX8_swapFor_40 : decode cX8_swapFor 40 = .ok (.getfield 59, 3) := by decide +kernel
theorem dX8_swapFor_43 : decode cX8_swapFor 43 = .ok (.if_icmp .ge 82, 3) := by decide +kernel
theorem dX8_swapFor_46 : decode cX8_swapFor 46 = .ok (.aload_n 0, 1) := by decide +kernel
theorem dX8_swapFor_47 : decode cX8_swapFor 47 = .ok (.iload 6, 2) := by decide +kernel
theorem dX8_swapFor_49 : decode cX8_swapFor 49 = .ok (.invokevirtual 104, 3) := by decide +kernel
theorem dX8_swapFor_52 : decode cX8_swapFor 52 = .ok (.astore 7, 2) := by decide +kernel
theorem dX8_swapFor_54 : decode cX8_swapFor 54 = .ok (.aload 7, 2) := by decide +kernel
theorem dX8_swapFor_56 : decode cX8_swapFor 56 = .ok (.ifnull 63, 3) := by decide +kernel
theorem dX8_swapFor_59 : decode cX8_swapFor 59 = .ok (.aload 7, 2) := by decide +kernel
theorem dX8_swapFor_61 : decode cX8_swapFor 61 = .ok (.getfield 128, 3) := by decide +kernel
theorem dX8_swapFor_64 : decode cX8_swapFor 64 = .ok (.iload_n 2, 1) := by decide +kernel
theorem dX8_swapFor_65 : decode cX8_swapFor 65 = .ok (.invokestatic 154, 3) := by decide +kernel
theorem dX8_swapFor_68 : decode cX8_swapFor 68 = .ok (.aload_n 3, 1) := by decide +kernel
theorem dX8_swapFor_69 : decode cX8_swapFor 69 = .ok (.getfield 128, 3) := by decide +kernel
theorem dX8_swapFor_72 : decode cX8_swapFor 72 = .ok (.iload_n 2, 1) := by decide +kernel
theorem dX8_swapFor_73 : decode cX8_swapFor 73 = .ok (.invokestatic 154, 3) := by decide +kernel
theorem dX8_swapFor_76 : decode cX8_swapFor 76 = .ok (.if_icmp .ne 6, 3) := by decide +kernel
theorem dX8_swapFor_79 : decode cX8_swapFor 79 = .ok (.goto 40, 3) := by decide +kernel
theorem dX8_swapFor_82 : decode cX8_swapFor 82 = .ok (.aload 7, 2) := by decide +kernel
theorem dX8_swapFor_84 : decode cX8_swapFor 84 = .ok (.getfield 128, 3) := by decide +kernel
theorem dX8_swapFor_87 : decode cX8_swapFor 87 = .ok (.iconst 0, 1) := by decide +kernel
theorem dX8_swapFor_88 : decode cX8_swapFor 88 = .ok (.invokestatic 180, 3) := by decide +kernel
theorem dX8_swapFor_91 : decode cX8_swapFor 91 = .ok (.istore 8, 2) := by decide +kernel
theorem dX8_swapFor_93 : decode cX8_swapFor 93 = .ok (.iload 8, 2) := by decide +kernel
theorem dX8_swapFor_95 : decode cX8_swapFor 95 = .ok (.iload 5, 2) := by decide +kernel
theorem dX8_swapFor_97 : decode cX8_swapFor 97 = .ok (.if_icmp .ge 22, 3) := by decide +kernel
theorem dX8_swapFor_100 : decode cX8_swapFor 100 = .ok (.aload_n 0, 1) := by decide +kernel
theorem dX8_swapFor_101 : decode cX8_swapFor 101 = .ok (.aload_n 3, 1) := by decide +kernel
theorem dX8_swapFor_102 : decode cX8_swapFor 102 = .ok (.aload 7, 2) := by decide +kernel
theorem dX8_swapFor_104 : decode cX8_swapFor 104 = .ok (.iload_n 2, 1) := by decide +kernel
theorem dX8_swapFor_105 : decode cX8_swapFor 105 = .ok (.invokevirtual 159, 3) := by decide +kernel
theorem dX8_swapFor_108 : decode cX8_swapFor 108 = .ok (.ifCond .eq 11, 3) := by decide +kernel
theorem dX8_swapFor_111 : decode cX8_swapFor 111 = .ok (.iload 6, 2) := by decide +kernel
theorem dX8_swapFor_113 : decode cX8_swapFor 113 = .ok (.istore 4, 2) := by decide +kernel
theorem dX8_swapFor_115 : decode cX8_swapFor 115 = .ok (.iload 8, 2) := by decide +kernel
theorem dX8_swapFor_117 : decode cX8_swapFor 117 = .ok (.istore 5, 2) := by decide +kernel
theorem dX8_swapFor_119 : decode cX8_swapFor 119 = .ok (.iinc 6 1, 3) := by decide +kernel
theorem dX8_swapFor_122 : decode cX8_swapFor 122 = .ok (.goto (-85), 3) := by decide +kernel
theorem dX8_swapFor_125 : decode cX8_swapFor 125 = .ok (.iload 4, 2) := by decide +kernel
theorem dX8_swapFor_127 : decode cX8_swapFor 127 = .ok (.ireturn, 1) := by decide +kernel
set_option maxRecDepth 20000 in
theorem ggX8_bound_X8_leastGapsOf : GoodIn wsX8_bound wsX8_leastGapsOf := goodIn_r _ [5, 6, 7, 8, 9, 10, 11, 12, 13, 4, 14, 15, 16, 17, 18, 19, 20, 21, 22, 23, 24, 25, 26, 27, 28, 29, 30, 31, 32, 33, 34, 35, 36, 37, 38, 39] (by decide +kernel) (by decide +kernel)
set_option maxRecDepth 20000 in
theorem gX8_bound_X8_leastGapsOf : GoodIn wsX8_bound (wsV RX8 193 RX8 yX8_leastGapsOf wsX8_leastGapsOf) := goodIn_app (goodIn_of _ (by decide +kernel)) ggX8_bound_X8_leastGapsOf
theorem dX8_bound_0 : decode cX8_bound 0 = .ok (.iconst 0, 1) := by decide +kernel
theorem dX8_bound_1 : decode cX8_bound 1 = .ok (.istore_n 1, 1) := by decide +kernel
theorem dX8_bound_2 : decode cX8_bound 2 = .ok (.iconst 0, 1) := by decide +kernel
theorem dX8_bound_3 : decode cX8_bound 3 = .ok (.istore_n 2, 1) := by decide +kernel
theorem dX8_bound_4 : decode cX8_bound 4 = .ok (.iload_n 2, 1) := by decide +kernel
theorem dX8_bound_5 : decode cX8_bound 5 = .ok (.bipush 7, 2) := by decide +kernel
theorem dX8_bound_7 : decode cX8_bound 7 = .ok (.if_icmp .ge 17, 3) := by decide +kernel
theorem dX8_bound_10 : decode cX8_bound 10 = .ok (.iload_n 1, 1) := by decide +kernel
theorem dX8_bound_11 : decode cX8_bound 11 = .ok (.aload_n 0, 1) := by decide +kernel
theorem dX8_bound_12 : decode cX8_bound 12 = .ok (.iload_n 2, 1) := by decide +kernel
theorem dX8_bound_13 : decode cX8_bound 13 = .ok (.invokevirtual 193, 3) := by decide +kernel
theorem dX8_bound_16 : decode cX8_bound 16 = .ok (.iadd, 1) := by decide +kernel
theorem dX8_bound_17 : decode cX8_bound 17 = .ok (.istore_n 1, 1) := by decide +kernel
theorem dX8_bound_18 : decode cX8_bound 18 = .ok (.iinc 2 1, 3) := by decide +kernel
theorem dX8_bound_21 : decode cX8_bound 21 = .ok (.goto (-17), 3) := by decide +kernel
theorem dX8_bound_24 : decode cX8_bound 24 = .ok (.iload_n 1, 1) := by decide +kernel
theorem dX8_bound_25 : decode cX8_bound 25 = .ok (.ireturn, 1) := by decide +kernel
theorem dX8_isDay_0 : decode cX8_isDay 0 = .ok (.iload_n 0, 1) := by decide +kernel
theorem dX8_isDay_1 : decode cX8_isDay 1 = .ok (.ifCond .lt 13, 3) := by decide +kernel
theorem dX8_isDay_4 : decode cX8_isDay 4 = .ok (.iload_n 0, 1) := by decide +kernel
theorem dX8_isDay_5 : decode cX8_isDay 5 = .ok (.bipush 7, 2) := by decide +kernel
theorem dX8_isDay_7 : decode cX8_isDay 7 = .ok (.if_icmp .ge 7, 3) := by decide +kernel
theorem dX8_isDay_10 : decode cX8_isDay 10 = .ok (.iconst 1, 1) := by decide +kernel
theorem dX8_isDay_11 : decode cX8_isDay 11 = .ok (.goto 4, 3) := by decide +kernel
theorem dX8_isDay_14 : decode cX8_isDay 14 = .ok (.iconst 0, 1) := by decide +kernel
theorem dX8_isDay_15 : decode cX8_isDay 15 = .ok (.ireturn, 1) := by decide +kernel
theorem dX8_isEntry_0 : decode cX8_isEntry 0 = .ok (.iload_n 0, 1) := by decide +kernel
theorem dX8_isEntry_1 : decode cX8_isEntry 1 = .ok (.ifCond .lt 12, 3) := by decide +kernel
theorem dX8_isEntry_4 : decode cX8_isEntry 4 = .ok (.iload_n 0, 1) := by decide +kernel
theorem dX8_isEntry_5 : decode cX8_isEntry 5 = .ok (.iconst 3, 1) := by decide +kernel
theorem dX8_isEntry_6 : decode cX8_isEntry 6 = .ok (.if_icmp .gt 7, 3) := by decide +kernel
theorem dX8_isEntry_9 : decode cX8_isEntry 9 = .ok (.iconst 1, 1) := by decide +kernel
theorem dX8_isEntry_10 : decode cX8_isEntry 10 = .ok (.goto 4, 3) := by decide +kernel
theorem dX8_isEntry_13 : decode cX8_isEntry 13 = .ok (.iconst 0, 1) := by decide +kernel
theorem dX8_isEntry_14 : decode cX8_isEntry 14 = .ok (.ireturn, 1) := by decide +kernel
theorem dX8_isKind_0 : decode cX8_isKind 0 = .ok (.iload_n 0, 1) := by decide +kernel
theorem dX8_isKind_1 : decode cX8_isKind 1 = .ok (.iconst 1, 1) := by decide +kernel
theorem dX8_isKind_2 : decode cX8_isKind 2 = .ok (.if_icmp .lt 12, 3) := by decide +kernel
theorem dX8_isKind_5 : decode cX8_isKind 5 = .ok (.iload_n 0, 1) := by decide +kernel
theorem dX8_isKind_6 : decode cX8_isKind 6 = .ok (.iconst 3, 1) := by decide +kernel
theorem dX8_isKind_7 : decode cX8_isKind 7 = .ok (.if_icmp .gt 7, 3) := by decide +kernel
theorem dX8_isKind_10 : decode cX8_isKind 10 = .ok (.iconst 1, 1) := by decide +kernel
theorem dX8_isKind_11 : decode cX8_isKind 11 = .ok (.goto 4, 3) := by decide +kernel
theorem dX8_isKind_14 : decode cX8_isKind 14 = .ok (.iconst 0, 1) := by decide +kernel
theorem dX8_isKind_15 : decode cX8_isKind 15 = .ok (.ireturn, 1) := by decide +kernel
theorem dX8_personAt_0 : decode cX8_personAt 0 = .ok (.iload_n 1, 1) := by decide +kernel
theorem dX8_personAt_1 : decode cX8_personAt 1 = .ok (.ifCond .lt 12, 3) := by decide +kernel
theorem dX8_personAt_4 : decode cX8_personAt 4 = .ok (.iload_n 1, 1) := by decide +kernel
theorem dX8_personAt_5 : decode cX8_personAt 5 = .ok (.aload_n 0, 1) := by decide +kernel
theorem dX8_personAt_6 : decode cX8_personAt 6 = .ok (.getfield 11, 3) := by decide +kernel
theorem dX8_personAt_9 : decode cX8_personAt 9 = .ok (.arraylength, 1) := by decide +kernel
theorem dX8_personAt_10 : decode cX8_personAt 10 = .ok (.if_icmp .lt 7, 3) := by decide +kernel
theorem dX8_personAt_13 : decode cX8_personAt 13 = .ok (.aconst_null, 1) := by decide +kernel
theorem dX8_personAt_14 : decode cX8_personAt 14 = .ok (.goto 9, 3) := by decide +kernel
theorem dX8_personAt_17 : decode cX8_personAt 17 = .ok (.aload_n 0, 1) := by decide +kernel
theorem dX8_personAt_18 : decode cX8_personAt 18 = .ok (.getfield 11, 3) := by decide +kernel
theorem dX8_personAt_21 : decode cX8_personAt 21 = .ok (.iload_n 1, 1) := by decide +kernel
theorem dX8_personAt_22 : decode cX8_personAt 22 = .ok (.aaload, 1) := by decide +kernel
theorem dX8_personAt_23 : decode cX8_personAt 23 = .ok (.areturn, 1) := by decide +kernel
set_option maxRecDepth 20000 in
theorem ggX8_couldSwap_X7_at : GoodIn wsX8_couldSwap wsX7_at := goodIn_r _ [5, 6, 7, 4, 8] (by decide +kernel) (by decide +kernel)
set_option maxRecDepth 20000 in
theorem gX8_couldSwap_X7_at : GoodIn wsX8_couldSwap (va_wsS RX8 154 yX7_at wsX7_at) := goodIn_app (goodIn_of _ (by decide +kernel)) ggX8_couldSwap_X7_at
set_option maxRecDepth 20000 in
theorem ggX8_couldSwap_X7_with : GoodIn wsX8_couldSwap wsX7_with := goodIn_r _ [11, 6, 7, 4, 8] (by decide +kernel) (by decide +kernel)
set_option maxRecDepth 20000 in
theorem gX8_couldSwap_X7_with : GoodIn wsX8_couldSwap (va_wsS RX8 144 yX7_with wsX7_with) := goodIn_app (goodIn_of _ (by decide +kernel)) ggX8_couldSwap_X7_with
set_option maxRecDepth 20000 in
theorem ggX8_couldSwap_X4_canHave : GoodIn wsX8_couldSwap wsX4_canHave := goodIn_r _ [16, 17, 18, 19, 20, 3, 4, 5, 6, 7, 8, 21, 22, 23, 15, 24, 25, 26, 27, 28, 29, 30, 31, 32, 33, 34, 35, 36, 37, 38, 39, 40, 41, 42, 43, 44, 45, 46, 47, 48, 49, 50, 51, 52, 62, 63] (by decide +kernel) (by decide +kernel)
set_option maxRecDepth 20000 in
theorem gX8_couldSwap_X4_canHave : GoodIn wsX8_couldSwap (wsV RX8 148 RX4 yX4_canHave wsX4_canHave) := goodIn_app (goodIn_of _ (by decide +kernel)) ggX8_couldSwap_X4_canHave
theorem dX8_couldSwap_0 : decode cX8_couldSwap 0 = .ok (.aload_n 1, 1) := by decide +kernel
theorem dX8_couldSwap_1 : decode cX8_couldSwap 1 = .ok (.getfield 128, 3) := by decide +kernel
theorem dX8_couldSwap_4 : decode cX8_couldSwap 4 = .ok (.iload_n 3, 1) := by decide +kernel
theorem dX8_couldSwap_5 : decode cX8_couldSwap 5 = .ok (.aload_n 2, 1) := by decide +kernel
theorem dX8_couldSwap_6 : decode cX8_couldSwap 6 = .ok (.getfield 128, 3) := by decide +kernel
theorem dX8_couldSwap_9 : decode cX8_couldSwap 9 = .ok (.iload_n 3, 1) := by decide +kernel
theorem dX8_couldSwap_10 : decode cX8_couldSwap 10 = .ok (.invokestatic 154, 3) := by decide +kernel
theorem dX8_couldSwap_13 : decode cX8_couldSwap 13 = .ok (.invokestatic 144, 3) := by decide +kernel
theorem dX8_couldSwap_16 : decode cX8_couldSwap 16 = .ok (.istore 4, 2) := by decide +kernel
theorem dX8_couldSwap_18 : decode cX8_couldSwap 18 = .ok (.aload_n 2, 1) := by decide +kernel
theorem dX8_couldSwap_19 : decode cX8_couldSwap 19 = .ok (.getfield 128, 3) := by decide +kernel
theorem dX8_couldSwap_22 : decode cX8_couldSwap 22 = .ok (.iload_n 3, 1) := by decide +kernel
theorem dX8_couldSwap_23 : decode cX8_couldSwap 23 = .ok (.aload_n 1, 1) := by decide +kernel
theorem dX8_couldSwap_24 : decode cX8_couldSwap 24 = .ok (.getfield 128, 3) := by decide +kernel
theorem dX8_couldSwap_27 : decode cX8_couldSwap 27 = .ok (.iload_n 3, 1) := by decide +kernel
theorem dX8_couldSwap_28 : decode cX8_couldSwap 28 = .ok (.invokestatic 154, 3) := by decide +kernel
theorem dX8_couldSwap_31 : decode cX8_couldSwap 31 = .ok (.invokestatic 144, 3) := by decide +kernel
theorem dX8_couldSwap_34 : decode cX8_couldSwap 34 = .ok (.istore 5, 2) := by decide +kernel
theorem dX8_couldSwap_36 : decode cX8_couldSwap 36 = .ok (.aload_n 1, 1) := by decide +kernel
theorem dX8_couldSwap_37 : decode cX8_couldSwap 37 = .ok (.iload 4, 2) := by decide +kernel
theorem dX8_couldSwap_39 : decode cX8_couldSwap 39 = .ok (.aload_n 0, 1) := by decide +kernel
theorem dX8_couldSwap_40 : decode cX8_couldSwap 40 = .ok (.getfield 25, 3) := by decide +kernel
theorem dX8_couldSwap_43 : decode cX8_couldSwap 43 = .ok (.invokevirtual 148, 3) := by decide +kernel
theorem dX8_couldSwap_46 : decode cX8_couldSwap 46 = .ok (.ifCond .eq 20, 3) := by decide +kernel
theorem dX8_couldSwap_49 : decode cX8_couldSwap 49 = .ok (.aload_n 2, 1) := by decide +kernel
theorem dX8_couldSwap_50 : decode cX8_couldSwap 50 = .ok (.iload 5, 2) := by decide +kernel
theorem dX8_couldSwap_52 : decode cX8_couldSwap 52 = .ok (.aload_n 0, 1) := by decide +kernel
theorem dX8_couldSwap_53 : decode cX8_couldSwap 53 = .ok (.getfield 25, 3) := by decide +kernel
theorem dX8_couldSwap_56 : decode cX8_couldSwap 56 = .ok (.invokevirtual 148, 3) := by decide +kernel
theorem dX8_couldSwap_59 : decode cX8_couldSwap 59 = .ok (.ifCond .eq 7, 3) := by decide +kernel
theorem dX8_couldSwap_62 : decode cX8_couldSwap 62 = .ok (.iconst 1, 1) := by decide +kernel
theorem dX8_couldSwap_63 : decode cX8_couldSwap 63 = .ok (.goto 4, 3) := by decide +kernel
theorem dX8_couldSwap_66 : decode cX8_couldSwap 66 = .ok (.iconst 0, 1) := by decide +kernel
theorem dX8_couldSwap_67 : decode cX8_couldSwap 67 = .ok (.ireturn, 1) := by decide +kernel
set_option maxRecDepth 20000 in
theorem ggX8_allGaps_X8_gapWithout : GoodIn wsX8_allGaps wsX8_gapWithout := goodIn_r _ [5, 6, 7, 8, 9, 10, 11, 12, 13, 14, 15, 16, 17, 18, 19, 20, 21, 22, 23, 24, 25, 26, 27, 28, 29, 30, 31, 32, 33, 34, 35, 36, 37, 38, 39, 40, 41, 42] (by decide +kernel) (by decide +kernel)
set_option maxRecDepth 20000 in
theorem gX8_allGaps_X8_gapWithout : GoodIn wsX8_allGaps (wsV RX8 174 RX8 yX8_gapWithout wsX8_gapWithout) := goodIn_app (goodIn_of _ (by decide +kernel)) ggX8_allGaps_X8_gapWithout
theorem dX8_allGaps_0 : decode cX8_allGaps 0 = .ok (.iconst 0, 1) := by decide +kernel
theorem dX8_allGaps_1 : decode cX8_allGaps 1 = .ok (.istore_n 1, 1) := by decide +kernel
theorem dX8_allGaps_2 : decode cX8_allGaps 2 = .ok (.iconst 0, 1) := by decide +kernel
theorem dX8_allGaps_3 : decode cX8_allGaps 3 = .ok (.istore_n 2, 1) := by decide +kernel
theorem dX8_allGaps_4 : decode cX8_allGaps 4 = .ok (.iload_n 2, 1) := by decide +kernel
theorem dX8_allGaps_5 : decode cX8_allGaps 5 = .ok (.bipush 7, 2) := by decide +kernel
theorem dX8_allGaps_7 : decode cX8_allGaps 7 = .ok (.if_icmp .ge 32, 3) := by decide +kernel
theorem dX8_allGaps_10 : decode cX8_allGaps 10 = .ok (.iconst 1, 1) := by decide +kernel
theorem dX8_allGaps_11 : decode cX8_allGaps 11 = .ok (.istore_n 3, 1) := by decide +kernel
theorem dX8_allGaps_12 : decode cX8_allGaps 12 = .ok (.iload_n 3, 1) := by decide +kernel
theorem dX8_allGaps_13 : decode cX8_allGaps 13 = .ok (.iconst 3, 1) := by decide +kernel
theorem dX8_allGaps_14 : decode cX8_allGaps 14 = .ok (.if_icmp .gt 19, 3) := by decide +kernel
theorem dX8_allGaps_17 : decode cX8_allGaps 17 = .ok (.iload_n 1, 1) := by decide +kernel
theorem dX8_allGaps_18 : decode cX8_allGaps 18 = .ok (.aload_n 0, 1) := by decide +kernel
theorem dX8_allGaps_19 : decode cX8_allGaps 19 = .ok (.aconst_null, 1) := by decide +kernel
theorem dX8_allGaps_20 : decode cX8_allGaps 20 = .ok (.iload_n 2, 1) := by decide +kernel
theorem dX8_allGaps_21 : decode cX8_allGaps 21 = .ok (.iload_n 3, 1) := by decide +kernel
theorem dX8_allGaps_22 : decode cX8_allGaps 22 = .ok (.invokevirtual 174, 3) := by decide +kernel
theorem dX8_allGaps_25 : decode cX8_allGaps 25 = .ok (.iadd, 1) := by decide +kernel
theorem dX8_allGaps_26 : decode cX8_allGaps 26 = .ok (.istore_n 1, 1) := by decide +kernel
theorem dX8_allGaps_27 : decode cX8_allGaps 27 = .ok (.iinc 3 1, 3) := by decide +kernel
theorem dX8_allGaps_30 : decode cX8_allGaps 30 = .ok (.goto (-18), 3) := by decide +kernel
theorem dX8_allGaps_33 : decode cX8_allGaps 33 = .ok (.iinc 2 1, 3) := by decide +kernel
theorem dX8_allGaps_36 : decode cX8_allGaps 36 = .ok (.goto (-32), 3) := by decide +kernel
theorem dX8_allGaps_39 : decode cX8_allGaps 39 = .ok (.iload_n 1, 1) := by decide +kernel
theorem dX8_allGaps_40 : decode cX8_allGaps 40 = .ok (.ireturn, 1) := by decide +kernel
set_option maxRecDepth 20000 in
theorem ggX8_gapWithout_X3_of : GoodIn wsX8_gapWithout wsX3_of := goodIn_r _ [11, 12, 37] (by decide +kernel) (by decide +kernel)
set_option maxRecDepth 20000 in
theorem gX8_gapWithout_X3_of : GoodIn wsX8_gapWithout (wsV RX8 85 RX3 yX3_of wsX3_of) := goodIn_app (goodIn_of _ (by decide +kernel)) ggX8_gapWithout_X3_of
set_option maxRecDepth 20000 in
theorem ggX8_gapWithout_X7_at : GoodIn wsX8_gapWithout wsX7_at := goodIn_r _ [16, 17, 18, 15, 19] (by decide +kernel) (by decide +kernel)
set_option maxRecDepth 20000 in
theorem gX8_gapWithout_X7_at : GoodIn wsX8_gapWithout (va_wsS RX8 154 yX7_at wsX7_at) := goodIn_app (goodIn_of _ (by decide +kernel)) ggX8_gapWithout_X7_at
theorem dX8_gapWithout_0 : decode cX8_gapWithout 0 = .ok (.aload_n 0, 1) := by decide +kernel
theorem dX8_gapWithout_1 : decode cX8_gapWithout 1 = .ok (.getfield 18, 3) := by decide +kernel
theorem dX8_gapWithout_4 : decode cX8_gapWithout 4 = .ok (.iload_n 2, 1) := by decide +kernel
theorem dX8_gapWithout_5 : decode cX8_gapWithout 5 = .ok (.iload_n 3, 1) := by decide +kernel
theorem dX8_gapWithout_6 : decode cX8_gapWithout 6 = .ok (.invokevirtual 85, 3) := by decide +kernel
theorem dX8_gapWithout_9 : decode cX8_gapWithout 9 = .ok (.istore 4, 2) := by decide +kernel
theorem dX8_gapWithout_11 : decode cX8_gapWithout 11 = .ok (.aload_n 0, 1) := by decide +kernel
theorem dX8_gapWithout_12 : decode cX8_gapWithout 12 = .ok (.getfield 11, 3) := by decide +kernel
theorem dX8_gapWithout_15 : decode cX8_gapWithout 15 = .ok (.astore 5, 2) := by decide +kernel
theorem dX8_gapWithout_17 : decode cX8_gapWithout 17 = .ok (.aload 5, 2) := by decide +kernel
theorem dX8_gapWithout_19 : decode cX8_gapWithout 19 = .ok (.arraylength, 1) := by decide +kernel
theorem dX8_gapWithout_20 : decode cX8_gapWithout 20 = .ok (.istore 6, 2) := by decide +kernel
theorem dX8_gapWithout_22 : decode cX8_gapWithout 22 = .ok (.iconst 0, 1) := by decide +kernel
theorem dX8_gapWithout_23 : decode cX8_gapWithout 23 = .ok (.istore 7, 2) := by decide +kernel
theorem dX8_gapWithout_25 : decode cX8_gapWithout 25 = .ok (.iload 7, 2) := by decide +kernel
theorem dX8_gapWithout_27 : decode cX8_gapWithout 27 = .ok (.iload 6, 2) := by decide +kernel
theorem dX8_gapWithout_29 : decode cX8_gapWithout 29 = .ok (.if_icmp .ge 43, 3) := by decide +kernel
theorem dX8_gapWithout_32 : decode cX8_gapWithout 32 = .ok (.aload 5, 2) := by decide +kernel
theorem dX8_gapWithout_34 : decode cX8_gapWithout 34 = .ok (.iload 7, 2) := by decide +kernel
theorem dX8_gapWithout_36 : decode cX8_gapWithout 36 = .ok (.aaload, 1) := by decide +kernel
theorem dX8_gapWithout_37 : decode cX8_gapWithout 37 = .ok (.astore 8, 2) := by decide +kernel
theorem dX8_gapWithout_39 : decode cX8_gapWithout 39 = .ok (.aload 8, 2) := by decide +kernel
theorem dX8_gapWithout_41 : decode cX8_gapWithout 41 = .ok (.ifnull 25, 3) := by decide +kernel
theorem dX8_gapWithout_44 : decode cX8_gapWithout 44 = .ok (.aload 8, 2) := by decide +kernel
theorem dX8_gapWithout_46 : decode cX8_gapWithout 46 = .ok (.aload_n 1, 1) := by decide +kernel
theorem dX8_gapWithout_47 : decode cX8_gapWithout 47 = .ok (.if_acmp .eq 19, 3) := by decide +kernel
theorem dX8_gapWithout_50 : decode cX8_gapWithout 50 = .ok (.aload 8, 2) := by decide +kernel
theorem dX8_gapWithout_52 : decode cX8_gapWithout 52 = .ok (.getfield 128, 3) := by decide +kernel
theorem dX8_gapWithout_55 : decode cX8_gapWithout 55 = .ok (.iload_n 2, 1) := by decide +kernel
theorem dX8_gapWithout_56 : decode cX8_gapWithout 56 = .ok (.invokestatic 154, 3) := by decide +kernel
theorem dX8_gapWithout_59 : decode cX8_gapWithout 59 = .ok (.iload_n 3, 1) := by decide +kernel
theorem dX8_gapWithout_60 : decode cX8_gapWithout 60 = .ok (.if_icmp .ne 6, 3) := by decide +kernel
theorem dX8_gapWithout_63 : decode cX8_gapWithout 63 = .ok (.iinc 4 (-1), 3) := by decide +kernel
theorem dX8_gapWithout_66 : decode cX8_gapWithout 66 = .ok (.iinc 7 1, 3) := by decide +kernel
theorem dX8_gapWithout_69 : decode cX8_gapWithout 69 = .ok (.goto (-44), 3) := by decide +kernel
theorem dX8_gapWithout_72 : decode cX8_gapWithout 72 = .ok (.iconst 0, 1) := by decide +kernel
theorem dX8_gapWithout_73 : decode cX8_gapWithout 73 = .ok (.iload 4, 2) := by decide +kernel
theorem dX8_gapWithout_75 : decode cX8_gapWithout 75 = .ok (.invokestatic 196, 3) := by decide +kernel
theorem dX8_gapWithout_78 : decode cX8_gapWithout 78 = .ok (.ireturn, 1) := by decide +kernel
set_option maxRecDepth 20000 in
theorem ggX8_leastGapsOf_X8_peopleWithOneOf : GoodIn wsX8_leastGapsOf wsX8_peopleWithOneOf := goodIn_r _ [10, 11, 18, 19, 20, 21, 22, 23, 24, 25, 26, 27, 28, 29, 30, 31, 32, 33, 34] (by decide +kernel) (by decide +kernel)
set_option maxRecDepth 20000 in
theorem gX8_leastGapsOf_X8_peopleWithOneOf : GoodIn wsX8_leastGapsOf (wsV RX8 201 RX8 yX8_peopleWithOneOf wsX8_peopleWithOneOf) := goodIn_app (goodIn_of _ (by decide +kernel)) ggX8_leastGapsOf_X8_peopleWithOneOf
set_option maxRecDepth 20000 in
theorem ggX8_leastGapsOf_X3_of : GoodIn wsX8_leastGapsOf wsX3_of := goodIn_r _ [16, 17, 35] (by decide +kernel) (by decide +kernel)
set_option maxRecDepth 20000 in
theorem gX8_leastGapsOf_X3_of : GoodIn wsX8_leastGapsOf (wsV RX8 85 RX3 yX3_of wsX3_of) := goodIn_app (goodIn_of _ (by decide +kernel)) ggX8_leastGapsOf_X3_of
theorem dX8_leastGapsOf_0 : decode cX8_leastGapsOf 0 = .ok (.iconst 0, 1) := by decide +kernel
theorem dX8_leastGapsOf_1 : decode cX8_leastGapsOf 1 = .ok (.istore_n 2, 1) := by decide +kernel
theorem dX8_leastGapsOf_2 : decode cX8_leastGapsOf 2 = .ok (.iconst 0, 1) := by decide +kernel
theorem dX8_leastGapsOf_3 : decode cX8_leastGapsOf 3 = .ok (.istore_n 3, 1) := by decide +kernel
theorem dX8_leastGapsOf_4 : decode cX8_leastGapsOf 4 = .ok (.iload_n 3, 1) := by decide +kernel
theorem dX8_leastGapsOf_5 : decode cX8_leastGapsOf 5 = .ok (.bipush 14, 2) := by decide +kernel
theorem dX8_leastGapsOf_7 : decode cX8_leastGapsOf 7 = .ok (.if_icmp .gt 63, 3) := by decide +kernel
theorem dX8_leastGapsOf_10 : decode cX8_leastGapsOf 10 = .ok (.aload_n 0, 1) := by decide +kernel
theorem dX8_leastGapsOf_11 : decode cX8_leastGapsOf 11 = .ok (.iload_n 3, 1) := by decide +kernel
theorem dX8_leastGapsOf_12 : decode cX8_leastGapsOf 12 = .ok (.invokevirtual 201, 3) := by decide +kernel
theorem dX8_leastGapsOf_15 : decode cX8_leastGapsOf 15 = .ok (.ineg, 1) := by decide +kernel
theorem dX8_leastGapsOf_16 : decode cX8_leastGapsOf 16 = .ok (.istore 4, 2) := by decide +kernel
theorem dX8_leastGapsOf_18 : decode cX8_leastGapsOf 18 = .ok (.iconst 1, 1) := by decide +kernel
theorem dX8_leastGapsOf_19 : decode cX8_leastGapsOf 19 = .ok (.istore 5, 2) := by decide +kernel
theorem dX8_leastGapsOf_21 : decode cX8_leastGapsOf 21 = .ok (.iload 5, 2) := by decide +kernel
theorem dX8_leastGapsOf_23 : decode cX8_leastGapsOf 23 = .ok (.iconst 3, 1) := by decide +kernel
theorem dX8_leastGapsOf_24 : decode cX8_leastGapsOf 24 = .ok (.if_icmp .gt 33, 3) := by decide +kernel
theorem dX8_leastGapsOf_27 : decode cX8_leastGapsOf 27 = .ok (.iload_n 3, 1) := by decide +kernel
theorem dX8_leastGapsOf_28 : decode cX8_leastGapsOf 28 = .ok (.iconst 1, 1) := by decide +kernel
theorem dX8_leastGapsOf_29 : decode cX8_leastGapsOf 29 = .ok (.iload 5, 2) := by decide +kernel
theorem dX8_leastGapsOf_31 : decode cX8_leastGapsOf 31 = .ok (.ishl, 1) := by decide +kernel
theorem dX8_leastGapsOf_32 : decode cX8_leastGapsOf 32 = .ok (.iand, 1) := by decide +kernel
theorem dX8_leastGapsOf_33 : decode cX8_leastGapsOf 33 = .ok (.ifCond .eq 18, 3) := by decide +kernel
theorem dX8_leastGapsOf_36 : decode cX8_leastGapsOf 36 = .ok (.iload 4, 2) := by decide +kernel
theorem dX8_leastGapsOf_38 : decode cX8_leastGapsOf 38 = .ok (.aload_n 0, 1) := by decide +kernel
theorem dX8_leastGapsOf_39 : decode cX8_leastGapsOf 39 = .ok (.getfield 18, 3) := by decide +kernel
theorem dX8_leastGapsOf_42 : decode cX8_leastGapsOf 42 = .ok (.iload_n 1, 1) := by decide +kernel
theorem dX8_leastGapsOf_43 : decode cX8_leastGapsOf 43 = .ok (.iload 5, 2) := by decide +kernel
theorem dX8_leastGapsOf_45 : decode cX8_leastGapsOf 45 = .ok (.invokevirtual 85, 3) := by decide +kernel
theorem dX8_leastGapsOf_48 : decode cX8_leastGapsOf 48 = .ok (.iadd, 1) := by decide +kernel
theorem dX8_leastGapsOf_49 : decode cX8_leastGapsOf 49 = .ok (.istore 4, 2) := by decide +kernel
theorem dX8_leastGapsOf_51 : decode cX8_leastGapsOf 51 = .ok (.iinc 5 1, 3) := by decide +kernel
theorem dX8_leastGapsOf_54 : decode cX8_leastGapsOf 54 = .ok (.goto (-33), 3) := by decide +kernel
theorem dX8_leastGapsOf_57 : decode cX8_leastGapsOf 57 = .ok (.iload_n 2, 1) := by decide +kernel
theorem dX8_leastGapsOf_58 : decode cX8_leastGapsOf 58 = .ok (.iload 4, 2) := by decide +kernel
theorem dX8_leastGapsOf_60 : decode cX8_leastGapsOf 60 = .ok (.invokestatic 196, 3) := by decide +kernel
theorem dX8_leastGapsOf_63 : decode cX8_leastGapsOf 63 = .ok (.istore_n 2, 1) := by decide +kernel
theorem dX8_leastGapsOf_64 : decode cX8_leastGapsOf 64 = .ok (.iinc 3 2, 3) := by decide +kernel
theorem dX8_leastGapsOf_67 : decode cX8_leastGapsOf 67 = .ok (.goto (-63), 3) := by decide +kernel
theorem dX8_leastGapsOf_70 : decode cX8_leastGapsOf 70 = .ok (.iload_n 2, 1) := by decide +kernel
theorem dX8_leastGapsOf_71 : decode cX8_leastGapsOf 71 = .ok (.ireturn, 1) := by decide +kernel
theorem dX8_peopleWithOneOf_0 : decode cX8_peopleWithOneOf 0 = .ok (.iconst 0, 1) := by decide +kernel
theorem dX8_peopleWithOneOf_1 : decode cX8_peopleWithOneOf 1 = .ok (.istore_n 2, 1) := by decide +kernel
theorem dX8_peopleWithOneOf_2 : decode cX8_peopleWithOneOf 2 = .ok (.aload_n 0, 1) := by decide +kernel
theorem dX8_peopleWithOneOf_3 : decode cX8_peopleWithOneOf 3 = .ok (.getfield 11, 3) := by decide +kernel
theorem dX8_peopleWithOneOf_6 : decode cX8_peopleWithOneOf 6 = .ok (.astore_n 3, 1) := by decide +kernel
theorem dX8_peopleWithOneOf_7 : decode cX8_peopleWithOneOf 7 = .ok (.aload_n 3, 1) := by decide +kernel
theorem dX8_peopleWithOneOf_8 : decode cX8_peopleWithOneOf 8 = .ok (.arraylength, 1) := by decide +kernel
theorem dX8_peopleWithOneOf_9 : decode cX8_peopleWithOneOf 9 = .ok (.istore 4, 2) := by decide +kernel
theorem dX8_peopleWithOneOf_11 : decode cX8_peopleWithOneOf 11 = .ok (.iconst 0, 1) := by decide +kernel
theorem dX8_peopleWithOneOf_12 : decode cX8_peopleWithOneOf 12 = .ok (.istore 5, 2) := by decide +kernel
theorem dX8_peopleWithOneOf_14 : decode cX8_peopleWithOneOf 14 = .ok (.iload 5, 2) := by decide +kernel
theorem dX8_peopleWithOneOf_16 : decode cX8_peopleWithOneOf 16 = .ok (.iload 4, 2) := by decide +kernel
theorem dX8_peopleWithOneOf_18 : decode cX8_peopleWithOneOf 18 = .ok (.if_icmp .ge 33, 3) := by decide +kernel
theorem dX8_peopleWithOneOf_21 : decode cX8_peopleWithOneOf 21 = .ok (.aload_n 3, 1) := by decide +kernel
theorem dX8_peopleWithOneOf_22 : decode cX8_peopleWithOneOf 22 = .ok (.iload 5, 2) := by decide +kernel
theorem dX8_peopleWithOneOf_24 : decode cX8_peopleWithOneOf 24 = .ok (.aaload, 1) := by decide +kernel
theorem dX8_peopleWithOneOf_25 : decode cX8_peopleWithOneOf 25 = .ok (.astore 6, 2) := by decide +kernel
theorem dX8_peopleWithOneOf_27 : decode cX8_peopleWithOneOf 27 = .ok (.aload 6, 2) := by decide +kernel
theorem dX8_peopleWithOneOf_29 : decode cX8_peopleWithOneOf 29 = .ok (.ifnull 16, 3) := by decide +kernel
theorem dX8_peopleWithOneOf_32 : decode cX8_peopleWithOneOf 32 = .ok (.aload 6, 2) := by decide +kernel
theorem dX8_peopleWithOneOf_34 : decode cX8_peopleWithOneOf 34 = .ok (.getfield 204, 3) := by decide +kernel
theorem dX8_peopleWithOneOf_37 : decode cX8_peopleWithOneOf 37 = .ok (.iload_n 1, 1) := by decide +kernel
theorem dX8_peopleWithOneOf_38 : decode cX8_peopleWithOneOf 38 = .ok (.iand, 1) := by decide +kernel
theorem dX8_peopleWithOneOf_39 : decode cX8_peopleWithOneOf 39 = .ok (.ifCond .eq 6, 3) := by decide +kernel
theorem dX8_peopleWithOneOf_42 : decode cX8_peopleWithOneOf 42 = .ok (.iinc 2 1, 3) := by decide +kernel
theorem dX8_peopleWithOneOf_45 : decode cX8_peopleWithOneOf 45 = .ok (.iinc 5 1, 3) := by decide +kernel
theorem dX8_peopleWithOneOf_48 : decode cX8_peopleWithOneOf 48 = .ok (.goto (-34), 3) := by decide +kernel
theorem dX8_peopleWithOneOf_51 : decode cX8_peopleWithOneOf 51 = .ok (.iload_n 2, 1) := by decide +kernel
theorem dX8_peopleWithOneOf_52 : decode cX8_peopleWithOneOf 52 = .ok (.ireturn, 1) := by decide +kernel
set_option maxRecDepth 20000 in
theorem ggX8_planRound_X8_chosenWeek : GoodIn wsX8_planRound wsX8_chosenWeek := goodIn_r _ [6, 7, 8, 9, 10, 11, 12, 5, 13, 14, 1, 15, 16, 17, 18, 19, 20, 21, 22, 23, 24, 25, 26, 27, 28, 29, 30, 31, 32, 33, 34, 35, 36, 37, 38, 39, 40, 41, 42, 43, 44, 45, 46, 47, 48, 49, 50, 51, 52, 53, 54, 55, 56, 57, 58, 59, 60, 61, 62, 63, 64, 65, 66, 67, 68, 69, 70, 71, 72, 73, 74, 75, 76, 77, 78, 79, 80, 81, 82, 83, 84, 85, 86, 87, 88, 89, 90, 91, 92, 93, 94, 95, 96, 97, 98, 99, 100, 101, 102, 103, 104, 105, 106, 107, 108, 109, 110, 111, 112, 113, 114, 115, 116, 117, 118, 119, 120, 121, 122, 123, 124, 125, 126, 127, 128, 129, 130, 131, 132, 133, 134, 135, 136, 137, 138, 139, 140, 141, 142, 143, 144, 145, 146, 147, 148, 149, 150, 151, 152, 153, 154, 155, 156, 157, 158] (by decide +kernel) (by decide +kernel)
set_option maxRecDepth 20000 in
theorem gX8_planRound_X8_chosenWeek : GoodIn wsX8_planRound (wsV RX8 207 RX8 yX8_chosenWeek wsX8_chosenWeek) := goodIn_app (goodIn_of _ (by decide +kernel)) ggX8_planRound_X8_chosenWeek
theorem dX8_planRound_0 : decode cX8_planRound 0 = .ok (.iconst 0, 1) := by decide +kernel
theorem dX8_planRound_1 : decode cX8_planRound 1 = .ok (.istore_n 1, 1) := by decide +kernel
theorem dX8_planRound_2 : decode cX8_planRound 2 = .ok (.aload_n 0, 1) := by decide +kernel
theorem dX8_planRound_3 : decode cX8_planRound 3 = .ok (.getfield 11, 3) := by decide +kernel
theorem dX8_planRound_6 : decode cX8_planRound 6 = .ok (.astore_n 2, 1) := by decide +kernel
theorem dX8_planRound_7 : decode cX8_planRound 7 = .ok (.aload_n 2, 1) := by decide +kernel
theorem dX8_planRound_8 : decode cX8_planRound 8 = .ok (.arraylength, 1) := by decide +kernel
theorem dX8_planRound_9 : decode cX8_planRound 9 = .ok (.istore_n 3, 1) := by decide +kernel
theorem dX8_planRound_10 : decode cX8_planRound 10 = .ok (.iconst 0, 1) := by decide +kernel
theorem dX8_planRound_11 : decode cX8_planRound 11 = .ok (.istore 4, 2) := by decide +kernel
theorem dX8_planRound_13 : decode cX8_planRound 13 = .ok (.iload 4, 2) := by decide +kernel
theorem dX8_planRound_15 : decode cX8_planRound 15 = .ok (.iload_n 3, 1) := by decide +kernel
theorem dX8_planRound_16 : decode cX8_planRound 16 = .ok (.if_icmp .ge 56, 3) := by decide +kernel
theorem dX8_planRound_19 : decode cX8_planRound 19 = .ok (.aload_n 2, 1) := by decide +kernel
theorem dX8_planRound_20 : decode cX8_planRound 20 = .ok (.iload 4, 2) := by decide +kernel
theorem dX8_planRound_22 : decode cX8_planRound 22 = .ok (.aaload, 1) := by decide +kernel
theorem dX8_planRound_23 : decode cX8_planRound 23 = .ok (.astore 5, 2) := by decide +kernel
theorem dX8_planRound_25 : decode cX8_planRound 25 = .ok (.aload 5, 2) := by decide +kernel
theorem dX8_planRound_27 : decode cX8_planRound 27 = .ok (.ifnonnull 6, 3) := by decide +kernel
theorem dX8_planRound_30 : decode cX8_planRound 30 = .ok (.goto 36, 3) := by decide +kernel
theorem dX8_planRound_33 : decode cX8_planRound 33 = .ok (.aload_n 0, 1) := by decide +kernel
theorem dX8_planRound_34 : decode cX8_planRound 34 = .ok (.aload 5, 2) := by decide +kernel
theorem dX8_planRound_36 : decode cX8_planRound 36 = .ok (.invokevirtual 207, 3) := by decide +kernel
theorem dX8_planRound_39 : decode cX8_planRound 39 = .ok (.istore 6, 2) := by decide +kernel
theorem dX8_planRound_41 : decode cX8_planRound 41 = .ok (.iload_n 1, 1) := by decide +kernel
theorem dX8_planRound_42 : decode cX8_planRound 42 = .ok (.iload 6, 2) := by decide +kernel
theorem dX8_planRound_44 : decode cX8_planRound 44 = .ok (.aload 5, 2) := by decide +kernel
theorem dX8_planRound_46 : decode cX8_planRound 46 = .ok (.getfield 128, 3) := by decide +kernel
theorem dX8_planRound_49 : decode cX8_planRound 49 = .ok (.if_icmp .eq 7, 3) := by decide +kernel
theorem dX8_planRound_52 : decode cX8_planRound 52 = .ok (.iconst 1, 1) := by decide +kernel
theorem dX8_planRound_53 : decode cX8_planRound 53 = .ok (.goto 4, 3) := by decide +kernel
theorem dX8_planRound_56 : decode cX8_planRound 56 = .ok (.iconst 0, 1) := by decide +kernel
theorem dX8_planRound_57 : decode cX8_planRound 57 = .ok (.ior, 1) := by decide +kernel
theorem dX8_planRound_58 : decode cX8_planRound 58 = .ok (.istore_n 1, 1) := by decide +kernel
theorem dX8_planRound_59 : decode cX8_planRound 59 = .ok (.aload 5, 2) := by decide +kernel
theorem dX8_planRound_61 : decode cX8_planRound 61 = .ok (.iload 6, 2) := by decide +kernel
theorem dX8_planRound_63 : decode cX8_planRound 63 = .ok (.putfield 128, 3) := by decide +kernel
theorem dX8_planRound_66 : decode cX8_planRound 66 = .ok (.iinc 4 1, 3) := by decide +kernel
theorem dX8_planRound_69 : decode cX8_planRound 69 = .ok (.goto (-56), 3) := by decide +kernel
theorem dX8_planRound_72 : decode cX8_planRound 72 = .ok (.iload_n 1, 1) := by decide +kernel
theorem dX8_planRound_73 : decode cX8_planRound 73 = .ok (.ireturn, 1) := by decide +kernel
set_option maxRecDepth 20000 in
theorem ggX8_chosenWeek_X8_gapWithout : GoodIn wsX8_chosenWeek wsX8_gapWithout := goodIn_r _ [8, 9, 10, 11, 12, 13, 14, 15, 16, 17, 18, 19, 20, 21, 22, 23, 24, 25, 26, 27, 132, 133, 134, 135, 136, 137, 138, 139, 140, 141, 142, 143, 144, 145, 146, 147, 148, 149] (by decide +kernel) (by decide +kernel)
set_option maxRecDepth 20000 in
theorem gX8_chosenWeek_X8_gapWithout : GoodIn wsX8_chosenWeek (wsV RX8 174 RX8 yX8_gapWithout wsX8_gapWithout) := goodIn_app (goodIn_of _ (by decide +kernel)) ggX8_chosenWeek_X8_gapWithout
set_option maxRecDepth 20000 in
theorem ggX8_chosenWeek_X5_priceOf : GoodIn wsX8_chosenWeek wsX5_priceOf := goodIn_r _ [31, 32, 33, 34, 35, 36, 37, 23, 38, 25, 26, 27, 39, 40, 41, 42, 43, 44, 141, 142, 143, 144, 145, 146, 147, 148] (by decide +kernel) (by decide +kernel)
set_option maxRecDepth 20000 in
theorem gX8_chosenWeek_X5_priceOf : GoodIn wsX8_chosenWeek (va_wsS RX8 211 yX5_priceOf wsX5_priceOf) := goodIn_app (goodIn_of _ (by decide +kernel)) ggX8_chosenWeek_X5_priceOf
set_option maxRecDepth 20000 in
theorem ggX8_chosenWeek_X5_put : GoodIn wsX8_chosenWeek wsX5_put := goodIn_r _ [48, 49, 150] (by decide +kernel) (by decide +kernel)
set_option maxRecDepth 20000 in
theorem gX8_chosenWeek_X5_put : GoodIn wsX8_chosenWeek (wsV RX8 215 RX5 yX5_put wsX5_put) := goodIn_app (goodIn_of _ (by decide +kernel)) ggX8_chosenWeek_X5_put
set_option maxRecDepth 20000 in
theorem ggX8_chosenWeek_X1_through : GoodIn wsX8_chosenWeek wsX1_through := goodIn_r _ [54, 55, 56, 57, 13, 58, 59, 60, 61, 62, 63, 64, 65, 66, 30, 67, 68, 69, 70, 71, 72, 73, 74, 53, 75, 76, 77, 78, 79, 80, 81, 82, 83, 84, 85, 86, 87, 88, 89, 90, 91, 42, 92, 93, 94, 95, 96, 97, 98, 99, 100, 101, 102, 103, 104, 105, 106, 107, 108, 109, 110, 111, 112, 113, 114, 115, 116, 49, 117, 118, 119, 120, 121, 122, 123, 124, 125, 126, 127, 151, 152, 141, 142, 143, 144, 145, 146, 147, 148, 153, 154, 150] (by decide +kernel) (by decide +kernel)
set_option maxRecDepth 20000 in
theorem gX8_chosenWeek_X1_through : GoodIn wsX8_chosenWeek (wsV RX8 189 RX1 yX1_through wsX1_through) := goodIn_app (goodIn_of _ (by decide +kernel)) ggX8_chosenWeek_X1_through
set_option maxRecDepth 20000 in
theorem ggX8_chosenWeek_X5_weekOf : GoodIn wsX8_chosenWeek wsX5_weekOf := goodIn_r _ [130, 68, 131] (by decide +kernel) (by decide +kernel)
set_option maxRecDepth 20000 in
theorem gX8_chosenWeek_X5_weekOf : GoodIn wsX8_chosenWeek (va_wsS RX8 218 yX5_weekOf wsX5_weekOf) := goodIn_app (goodIn_of _ (by decide +kernel)) ggX8_chosenWeek_X5_weekOf
theorem dX8_chosenWeek_0 : decode cX8_chosenWeek 0 = .ok (.iconst 0, 1) := by decide +kernel
theorem dX8_chosenWeek_1 : decode cX8_chosenWeek 1 = .ok (.istore_n 2, 1) := by decide +kernel
theorem dX8_chosenWeek_2 : decode cX8_chosenWeek 2 = .ok (.iload_n 2, 1) := by decide +kernel
theorem dX8_chosenWeek_3 : decode cX8_chosenWeek 3 = .ok (.bipush 7, 2) := by decide +kernel
theorem dX8_chosenWeek_5 : decode cX8_chosenWeek 5 = .ok (.if_icmp .ge 60, 3) := by decide +kernel
theorem dX8_chosenWeek_8 : decode cX8_chosenWeek 8 = .ok (.iconst 0, 1) := by decide +kernel
theorem dX8_chosenWeek_9 : decode cX8_chosenWeek 9 = .ok (.istore_n 3, 1) := by decide +kernel
theorem dX8_chosenWeek_10 : decode cX8_chosenWeek 10 = .ok (.iload_n 3, 1) := by decide +kernel
theorem dX8_chosenWeek_11 : decode cX8_chosenWeek 11 = .ok (.iconst 3, 1) := by decide +kernel
theorem dX8_chosenWeek_12 : decode cX8_chosenWeek 12 = .ok (.if_icmp .gt 47, 3) := by decide +kernel
theorem dX8_chosenWeek_15 : decode cX8_chosenWeek 15 = .ok (.iload_n 3, 1) := by decide +kernel
theorem dX8_chosenWeek_16 : decode cX8_chosenWeek 16 = .ok (.ifCond .eq 17, 3) := by decide +kernel
theorem dX8_chosenWeek_19 : decode cX8_chosenWeek 19 = .ok (.aload_n 0, 1) := by decide +kernel
theorem dX8_chosenWeek_20 : decode cX8_chosenWeek 20 = .ok (.aload_n 1, 1) := by decide +kernel
theorem dX8_chosenWeek_21 : decode cX8_chosenWeek 21 = .ok (.iload_n 2, 1) := by decide +kernel
theorem dX8_chosenWeek_22 : decode cX8_chosenWeek 22 = .ok (.iload_n 3, 1) := by decide +kernel
theorem dX8_chosenWeek_23 : decode cX8_chosenWeek 23 = .ok (.invokevirtual 174, 3) := by decide +kernel
theorem dX8_chosenWeek_26 : decode cX8_chosenWeek 26 = .ok (.ifCond .le 7, 3) := by decide +kernel
theorem dX8_chosenWeek_29 : decode cX8_chosenWeek 29 = .ok (.iconst 1, 1) := by decide +kernel
theorem dX8_chosenWeek_30 : decode cX8_chosenWeek 30 = .ok (.goto 4, 3) := by decide +kernel
theorem dX8_chosenWeek_33 : decode cX8_chosenWeek 33 = .ok (.iconst 0, 1) := by decide +kernel
theorem dX8_chosenWeek_34 : decode cX8_chosenWeek 34 = .ok (.istore 4, 2) := by decide +kernel
theorem dX8_chosenWeek_36 : decode cX8_chosenWeek 36 = .ok (.aload_n 0, 1) := by decide +kernel
theorem dX8_chosenWeek_37 : decode cX8_chosenWeek 37 = .ok (.getfield 46, 3) := by decide +kernel
theorem dX8_chosenWeek_40 : decode cX8_chosenWeek 40 = .ok (.iload_n 2, 1) := by decide +kernel
theorem dX8_chosenWeek_41 : decode cX8_chosenWeek 41 = .ok (.iload_n 3, 1) := by decide +kernel
theorem dX8_chosenWeek_42 : decode cX8_chosenWeek 42 = .ok (.aload_n 1, 1) := by decide +kernel
theorem dX8_chosenWeek_43 : decode cX8_chosenWeek 43 = .ok (.iload_n 2, 1) := by decide +kernel
theorem dX8_chosenWeek_44 : decode cX8_chosenWeek 44 = .ok (.iload_n 3, 1) := by decide +kernel
theorem dX8_chosenWeek_45 : decode cX8_chosenWeek 45 = .ok (.iload 4, 2) := by decide +kernel
theorem dX8_chosenWeek_47 : decode cX8_chosenWeek 47 = .ok (.invokestatic 211, 3) := by decide +kernel
theorem dX8_chosenWeek_50 : decode cX8_chosenWeek 50 = .ok (.invokevirtual 215, 3) := by decide +kernel
theorem dX8_chosenWeek_53 : decode cX8_chosenWeek 53 = .ok (.iinc 3 1, 3) := by decide +kernel
theorem dX8_chosenWeek_56 : decode cX8_chosenWeek 56 = .ok (.goto (-46), 3) := by decide +kernel
theorem dX8_chosenWeek_59 : decode cX8_chosenWeek 59 = .ok (.iinc 2 1, 3) := by decide +kernel
theorem dX8_chosenWeek_62 : decode cX8_chosenWeek 62 = .ok (.goto (-60), 3) := by decide +kernel
theorem dX8_chosenWeek_65 : decode cX8_chosenWeek 65 = .ok (.aload_n 0, 1) := by decide +kernel
theorem dX8_chosenWeek_66 : decode cX8_chosenWeek 66 = .ok (.getfield 32, 3) := by decide +kernel
theorem dX8_chosenWeek_69 : decode cX8_chosenWeek 69 = .ok (.aload_n 1, 1) := by decide +kernel
theorem dX8_chosenWeek_70 : decode cX8_chosenWeek 70 = .ok (.aload_n 0, 1) := by decide +kernel
theorem dX8_chosenWeek_71 : decode cX8_chosenWeek 71 = .ok (.getfield 25, 3) := by decide +kernel
theorem dX8_chosenWeek_74 : decode cX8_chosenWeek 74 = .ok (.aload_n 0, 1) := by decide +kernel
theorem dX8_chosenWeek_75 : decode cX8_chosenWeek 75 = .ok (.getfield 46, 3) := by decide +kernel
theorem dX8_chosenWeek_78 : decode cX8_chosenWeek 78 = .ok (.invokevirtual 189, 3) := by decide +kernel
theorem dX8_chosenWeek_81 : decode cX8_chosenWeek 81 = .ok (.invokestatic 218, 3) := by decide +kernel
theorem dX8_chosenWeek_84 : decode cX8_chosenWeek 84 = .ok (.ireturn, 1) := by decide +kernel
end
section
theorem dX9_init_0 : decode cX9_init 0 = .ok (.aload_n 0, 1) := by decide +kernel
theorem dX9_init_1 : decode cX9_init 1 = .ok (.invokespecial 1, 3) := by decide +kernel
theorem dX9_init_4 : decode cX9_init 4 = .ok (.aload_n 0, 1) := by decide +kernel
theorem dX9_init_5 : decode cX9_init 5 = .ok (.iconst 5, 1) := by decide +kernel
theorem dX9_init_6 : decode cX9_init 6 = .ok (.putfield 7, 3) := by decide +kernel
theorem dX9_init_9 : decode cX9_init 9 = .ok (.aload_n 0, 1) := by decide +kernel
theorem dX9_init_10 : decode cX9_init 10 = .ok (.bipush 8, 2) := by decide +kernel
theorem dX9_init_12 : decode cX9_init 12 = .ok (.newarray .int, 2) := by decide +kernel
theorem dX9_init_14 : decode cX9_init 14 = .ok (.putfield 13, 3) := by decide +kernel
theorem dX9_init_17 : decode cX9_init 17 = .ok (.aload_n 0, 1) := by decide +kernel
theorem dX9_init_18 : decode cX9_init 18 = .ok (.bipush 8, 2) := by decide +kernel
theorem dX9_init_20 : decode cX9_init 20 = .ok (.newarray .int, 2) := by decide +kernel
theorem dX9_init_22 : decode cX9_init 22 = .ok (.putfield 17, 3) := by decide +kernel
theorem dX9_init_25 : decode cX9_init 25 = .ok (.aload_n 0, 1) := by decide +kernel
theorem dX9_init_26 : decode cX9_init 26 = .ok (.bipush 28, 2) := by decide +kernel
theorem dX9_init_28 : decode cX9_init 28 = .ok (.newarray .int, 2) := by decide +kernel
theorem dX9_init_30 : decode cX9_init 30 = .ok (.putfield 20, 3) := by decide +kernel
theorem dX9_init_33 : decode cX9_init 33 = .ok (.aload_n 0, 1) := by decide +kernel
theorem dX9_init_34 : decode cX9_init 34 = .ok (.bipush 16, 2) := by decide +kernel
theorem dX9_init_36 : decode cX9_init 36 = .ok (.newarray .int, 2) := by decide +kernel
theorem dX9_init_38 : decode cX9_init 38 = .ok (.putfield 23, 3) := by decide +kernel
theorem dX9_init_41 : decode cX9_init 41 = .ok (.aload_n 0, 1) := by decide +kernel
theorem dX9_init_42 : decode cX9_init 42 = .ok (.bipush 56, 2) := by decide +kernel
theorem dX9_init_44 : decode cX9_init 44 = .ok (.newarray .int, 2) := by decide +kernel
theorem dX9_init_46 : decode cX9_init 46 = .ok (.putfield 26, 3) := by decide +kernel
theorem dX9_init_49 : decode cX9_init 49 = .ok (.aload_n 0, 1) := by decide +kernel
theorem dX9_init_50 : decode cX9_init 50 = .ok (.bipush 56, 2) := by decide +kernel
theorem dX9_init_52 : decode cX9_init 52 = .ok (.newarray .int, 2) := by decide +kernel
theorem dX9_init_54 : decode cX9_init 54 = .ok (.putfield 29, 3) := by decide +kernel
theorem dX9_init_57 : decode cX9_init 57 = .ok (.aload_n 0, 1) := by decide +kernel
theorem dX9_init_58 : decode cX9_init 58 = .ok (.bipush 8, 2) := by decide +kernel
theorem dX9_init_60 : decode cX9_init 60 = .ok (.newarray .int, 2) := by decide +kernel
theorem dX9_init_62 : decode cX9_init 62 = .ok (.putfield 32, 3) := by decide +kernel
theorem dX9_init_65 : decode cX9_init 65 = .ok (.aload_n 0, 1) := by decide +kernel
theorem dX9_init_66 : decode cX9_init 66 = .ok (.bipush 8, 2) := by decide +kernel
theorem dX9_init_68 : decode cX9_init 68 = .ok (.newarray .int, 2) := by decide +kernel
theorem dX9_init_70 : decode cX9_init 70 = .ok (.putfield 35, 3) := by decide +kernel
theorem dX9_init_73 : decode cX9_init 73 = .ok (.aload_n 0, 1) := by decide +kernel
theorem dX9_init_74 : decode cX9_init 74 = .ok (.bipush 8, 2) := by decide +kernel
theorem dX9_init_76 : decode cX9_init 76 = .ok (.newarray .int, 2) := by decide +kernel
theorem dX9_init_78 : decode cX9_init 78 = .ok (.putfield 38, 3) := by decide +kernel
theorem dX9_init_81 : decode cX9_init 81 = .ok (.aload_n 0, 1) := by decide +kernel
theorem dX9_init_82 : decode cX9_init 82 = .ok (.bipush 8, 2) := by decide +kernel
theorem dX9_init_84 : decode cX9_init 84 = .ok (.newarray .int, 2) := by decide +kernel
theorem dX9_init_86 : decode cX9_init 86 = .ok (.putfield 41, 3) := by decide +kernel
theorem dX9_init_89 : decode cX9_init 89 = .ok (.aload_n 0, 1) := by decide +kernel
theorem dX9_init_90 : decode cX9_init 90 = .ok (.getfield 23, 3) := by decide +kernel
theorem dX9_init_93 : decode cX9_init 93 = .ok (.bipush 9, 2) := by decide +kernel
theorem dX9_init_95 : decode cX9_init 95 = .ok (.iconst 1, 1) := by decide +kernel
theorem dX9_init_96 : decode cX9_init 96 = .ok (.iastore, 1) := by decide +kernel
theorem dX9_init_97 : decode cX9_init 97 = .ok (.aload_n 0, 1) := by decide +kernel
theorem dX9_init_98 : decode cX9_init 98 = .ok (.getfield 23, 3) := by decide +kernel
theorem dX9_init_101 : decode cX9_init 101 = .ok (.bipush 13, 2) := by decide +kernel
theorem dX9_init_103 : decode cX9_init 103 = .ok (.iconst 1, 1) := by decide +kernel
theorem dX9_init_104 : decode cX9_init 104 = .ok (.iastore, 1) := by decide +kernel
theorem dX9_init_105 : decode cX9_init 105 = .ok (.aload_n 0, 1) := by decide +kernel
theorem dX9_init_106 : decode cX9_init 106 = .ok (.getfield 23, 3) := by decide +kernel
theorem dX9_init_109 : decode cX9_init 109 = .ok (.bipush 14, 2) := by decide +kernel
theorem dX9_init_111 : decode cX9_init 111 = .ok (.iconst 1, 1) := by decide +kernel
theorem dX9_init_112 : decode cX9_init 112 = .ok (.iastore, 1) := by decide +kernel
theorem dX9_init_113 : decode cX9_init 113 = .ok (.return_, 1) := by decide +kernel
theorem dX9_thrown_0 : decode cX9_thrown 0 = .ok (.aload_n 0, 1) := by decide +kernel
theorem dX9_thrown_1 : decode cX9_thrown 1 = .ok (.getfield 44, 3) := by decide +kernel
theorem dX9_thrown_4 : decode cX9_thrown 4 = .ok (.ireturn, 1) := by decide +kernel
theorem dX9_fails_0 : decode cX9_fails 0 = .ok (.aload_n 0, 1) := by decide +kernel
theorem dX9_fails_1 : decode cX9_fails 1 = .ok (.iload_n 1, 1) := by decide +kernel
theorem dX9_fails_2 : decode cX9_fails 2 = .ok (.putfield 44, 3) := by decide +kernel
theorem dX9_fails_5 : decode cX9_fails 5 = .ok (.iconst 0, 1) := by decide +kernel
theorem dX9_fails_6 : decode cX9_fails 6 = .ok (.ireturn, 1) := by decide +kernel
theorem dX9_in_0 : decode cX9_in 0 = .ok (.iload_n 0, 1) := by decide +kernel
theorem dX9_in_1 : decode cX9_in 1 = .ok (.iload_n 1, 1) := by decide +kernel
theorem dX9_in_2 : decode cX9_in 2 = .ok (.if_icmp .lt 12, 3) := by decide +kernel
theorem dX9_in_5 : decode cX9_in 5 = .ok (.iload_n 0, 1) := by decide +kernel
theorem dX9_in_6 : decode cX9_in 6 = .ok (.iload_n 2, 1) := by decide +kernel
theorem dX9_in_7 : decode cX9_in 7 = .ok (.if_icmp .gt 7, 3) := by decide +kernel
theorem dX9_in_10 : decode cX9_in 10 = .ok (.iconst 1, 1) := by decide +kernel
theorem dX9_in_11 : decode cX9_in 11 = .ok (.goto 4, 3) := by decide +kernel
theorem dX9_in_14 : decode cX9_in 14 = .ok (.iconst 0, 1) := by decide +kernel
theorem dX9_in_15 : decode cX9_in 15 = .ok (.ireturn, 1) := by decide +kernel
set_option maxRecDepth 20000 in
theorem ggX9_isPerson_X9_in : GoodIn wsX9_isPerson wsX9_in := goodIn_r _ [5] (by decide +kernel) (by decide +kernel)
set_option maxRecDepth 20000 in
theorem gX9_isPerson_X9_in : GoodIn wsX9_isPerson (va_wsS RX9 50 yX9_in wsX9_in) := goodIn_app (goodIn_of _ (by decide +kernel)) ggX9_isPerson_X9_in
theorem dX9_isPerson_0 : decode cX9_isPerson 0 = .ok (.iload_n 1, 1) := by decide +kernel
theorem dX9_isPerson_1 : decode cX9_isPerson 1 = .ok (.iconst 0, 1) := by decide +kernel
theorem dX9_isPerson_2 : decode cX9_isPerson 2 = .ok (.aload_n 0, 1) := by decide +kernel
theorem dX9_isPerson_3 : decode cX9_isPerson 3 = .ok (.getfield 47, 3) := by decide +kernel
theorem dX9_isPerson_6 : decode cX9_isPerson 6 = .ok (.iconst 1, 1) := by decide +kernel
theorem dX9_isPerson_7 : decode cX9_isPerson 7 = .ok (.isub, 1) := by decide +kernel
theorem dX9_isPerson_8 : decode cX9_isPerson 8 = .ok (.invokestatic 50, 3) := by decide +kernel
theorem dX9_isPerson_11 : decode cX9_isPerson 11 = .ok (.ireturn, 1) := by decide +kernel
set_option maxRecDepth 20000 in
theorem ggX9_isDay_X9_in : GoodIn wsX9_isDay wsX9_in := goodIn_r _ [4] (by decide +kernel) (by decide +kernel)
set_option maxRecDepth 20000 in
theorem gX9_isDay_X9_in : GoodIn wsX9_isDay (va_wsS RX9 50 yX9_in wsX9_in) := goodIn_app (goodIn_of _ (by decide +kernel)) ggX9_isDay_X9_in
theorem dX9_isDay_0 : decode cX9_isDay 0 = .ok (.iload_n 0, 1) := by decide +kernel
theorem dX9_isDay_1 : decode cX9_isDay 1 = .ok (.iconst 0, 1) := by decide +kernel
theorem dX9_isDay_2 : decode cX9_isDay 2 = .ok (.bipush 6, 2) := by decide +kernel
theorem dX9_isDay_4 : decode cX9_isDay 4 = .ok (.invokestatic 50, 3) := by decide +kernel
theorem dX9_isDay_7 : decode cX9_isDay 7 = .ok (.ireturn, 1) := by decide +kernel
set_option maxRecDepth 20000 in
theorem ggX9_isKind_X9_in : GoodIn wsX9_isKind wsX9_in := goodIn_r _ [4] (by decide +kernel) (by decide +kernel)
set_option maxRecDepth 20000 in
theorem gX9_isKind_X9_in : GoodIn wsX9_isKind (va_wsS RX9 50 yX9_in wsX9_in) := goodIn_app (goodIn_of _ (by decide +kernel)) ggX9_isKind_X9_in
theorem dX9_isKind_0 : decode cX9_isKind 0 = .ok (.iload_n 0, 1) := by decide +kernel
theorem dX9_isKind_1 : decode cX9_isKind 1 = .ok (.iconst 1, 1) := by decide +kernel
theorem dX9_isKind_2 : decode cX9_isKind 2 = .ok (.iconst 3, 1) := by decide +kernel
theorem dX9_isKind_3 : decode cX9_isKind 3 = .ok (.invokestatic 50, 3) := by decide +kernel
theorem dX9_isKind_6 : decode cX9_isKind 6 = .ok (.ireturn, 1) := by decide +kernel
set_option maxRecDepth 20000 in
theorem ggX9_isAsked_X9_isPerson : GoodIn wsX9_isAsked wsX9_isPerson := goodIn_r _ [6, 7, 8, 9, 5, 10, 11, 12, 13, 14, 15, 16, 17, 18, 19, 20, 21, 22, 23, 24, 25] (by decide +kernel) (by decide +kernel)
set_option maxRecDepth 20000 in
theorem gX9_isAsked_X9_isPerson : GoodIn wsX9_isAsked (wsV RX9 54 RX9 yX9_isPerson wsX9_isPerson) := goodIn_app (goodIn_of _ (by decide +kernel)) ggX9_isAsked_X9_isPerson
theorem dX9_isAsked_0 : decode cX9_isAsked 0 = .ok (.aload_n 0, 1) := by decide +kernel
theorem dX9_isAsked_1 : decode cX9_isAsked 1 = .ok (.aload_n 0, 1) := by decide +kernel
theorem dX9_isAsked_2 : decode cX9_isAsked 2 = .ok (.iload_n 1, 1) := by decide +kernel
theorem dX9_isAsked_3 : decode cX9_isAsked 3 = .ok (.invokevirtual 54, 3) := by decide +kernel
theorem dX9_isAsked_6 : decode cX9_isAsked 6 = .ok (.ifCond .eq 7, 3) := by decide +kernel
theorem dX9_isAsked_9 : decode cX9_isAsked 9 = .ok (.iconst 0, 1) := by decide +kernel
theorem dX9_isAsked_10 : decode cX9_isAsked 10 = .ok (.goto 4, 3) := by decide +kernel
theorem dX9_isAsked_13 : decode cX9_isAsked 13 = .ok (.iconst 1, 1) := by decide +kernel
theorem dX9_isAsked_14 : decode cX9_isAsked 14 = .ok (.putfield 44, 3) := by decide +kernel
theorem dX9_isAsked_17 : decode cX9_isAsked 17 = .ok (.aload_n 0, 1) := by decide +kernel
theorem dX9_isAsked_18 : decode cX9_isAsked 18 = .ok (.getfield 44, 3) := by decide +kernel
theorem dX9_isAsked_21 : decode cX9_isAsked 21 = .ok (.ifCond .ne 7, 3) := by decide +kernel
theorem dX9_isAsked_24 : decode cX9_isAsked 24 = .ok (.iconst 1, 1) := by decide +kernel
theorem dX9_isAsked_25 : decode cX9_isAsked 25 = .ok (.goto 4, 3) := by decide +kernel
theorem dX9_isAsked_28 : decode cX9_isAsked 28 = .ok (.iconst 0, 1) := by decide +kernel
theorem dX9_isAsked_29 : decode cX9_isAsked 29 = .ok (.ireturn, 1) := by decide +kernel
theorem dX9_entryOf_0 : decode cX9_entryOf 0 = .ok (.iload_n 0, 1) := by decide +kernel
theorem dX9_entryOf_1 : decode cX9_entryOf 1 = .ok (.bipush 12, 2) := by decide +kernel
theorem dX9_entryOf_3 : decode cX9_entryOf 3 = .ok (.iconst 2, 1) := by decide +kernel
theorem dX9_entryOf_4 : decode cX9_entryOf 4 = .ok (.iload_n 1, 1) := by decide +kernel
theorem dX9_entryOf_5 : decode cX9_entryOf 5 = .ok (.imul, 1) := by decide +kernel
theorem dX9_entryOf_6 : decode cX9_entryOf 6 = .ok (.isub, 1) := by decide +kernel
theorem dX9_entryOf_7 : decode cX9_entryOf 7 = .ok (.ishr, 1) := by decide +kernel
theorem dX9_entryOf_8 : decode cX9_entryOf 8 = .ok (.iconst 3, 1) := by decide +kernel
theorem dX9_entryOf_9 : decode cX9_entryOf 9 = .ok (.iand, 1) := by decide +kernel
theorem dX9_entryOf_10 : decode cX9_entryOf 10 = .ok (.ireturn, 1) := by decide +kernel
set_option maxRecDepth 20000 in
theorem ggX9_with_X9_entryOf : GoodIn wsX9_with wsX9_entryOf := goodIn_r _ [4] (by decide +kernel) (by decide +kernel)
set_option maxRecDepth 20000 in
theorem gX9_with_X9_entryOf : GoodIn wsX9_with (va_wsS RX9 58 yX9_entryOf wsX9_entryOf) := goodIn_app (goodIn_of _ (by decide +kernel)) ggX9_with_X9_entryOf
theorem dX9_with_0 : decode cX9_with 0 = .ok (.iload_n 0, 1) := by decide +kernel
theorem dX9_with_1 : decode cX9_with 1 = .ok (.iload_n 0, 1) := by decide +kernel
theorem dX9_with_2 : decode cX9_with 2 = .ok (.iload_n 1, 1) := by decide +kernel
theorem dX9_with_3 : decode cX9_with 3 = .ok (.invokestatic 58, 3) := by decide +kernel
theorem dX9_with_6 : decode cX9_with 6 = .ok (.bipush 12, 2) := by decide +kernel
theorem dX9_with_8 : decode cX9_with 8 = .ok (.iconst 2, 1) := by decide +kernel
theorem dX9_with_9 : decode cX9_with 9 = .ok (.iload_n 1, 1) := by decide +kernel
theorem dX9_with_10 : decode cX9_with 10 = .ok (.imul, 1) := by decide +kernel
theorem dX9_with_11 : decode cX9_with 11 = .ok (.isub, 1) := by decide +kernel
theorem dX9_with_12 : decode cX9_with 12 = .ok (.ishl, 1) := by decide +kernel
theorem dX9_with_13 : decode cX9_with 13 = .ok (.isub, 1) := by decide +kernel
theorem dX9_with_14 : decode cX9_with 14 = .ok (.iload_n 2, 1) := by decide +kernel
theorem dX9_with_15 : decode cX9_with 15 = .ok (.bipush 12, 2) := by decide +kernel
theorem dX9_with_17 : decode cX9_with 17 = .ok (.iconst 2, 1) := by decide +kernel
theorem dX9_with_18 : decode cX9_with 18 = .ok (.iload_n 1, 1) := by decide +kernel
theorem dX9_with_19 : decode cX9_with 19 = .ok (.imul, 1) := by decide +kernel
theorem dX9_with_20 : decode cX9_with 20 = .ok (.isub, 1) := by decide +kernel
theorem dX9_with_21 : decode cX9_with 21 = .ok (.ishl, 1) := by decide +kernel
theorem dX9_with_22 : decode cX9_with 22 = .ok (.iadd, 1) := by decide +kernel
theorem dX9_with_23 : decode cX9_with 23 = .ok (.ireturn, 1) := by decide +kernel
theorem dX9_weekOf_0 : decode cX9_weekOf 0 = .ok (.iconst 0, 1) := by decide +kernel
theorem dX9_weekOf_1 : decode cX9_weekOf 1 = .ok (.istore_n 2, 1) := by decide +kernel
theorem dX9_weekOf_2 : decode cX9_weekOf 2 = .ok (.iconst 0, 1) := by decide +kernel
theorem dX9_weekOf_3 : decode cX9_weekOf 3 = .ok (.istore_n 3, 1) := by decide +kernel
theorem dX9_weekOf_4 : decode cX9_weekOf 4 = .ok (.iload_n 3, 1) := by decide +kernel
theorem dX9_weekOf_5 : decode cX9_weekOf 5 = .ok (.bipush 7, 2) := by decide +kernel
theorem dX9_weekOf_7 : decode cX9_weekOf 7 = .ok (.if_icmp .ge 25, 3) := by decide +kernel
theorem dX9_weekOf_10 : decode cX9_weekOf 10 = .ok (.iconst 4, 1) := by decide +kernel
theorem dX9_weekOf_11 : decode cX9_weekOf 11 = .ok (.iload_n 2, 1) := by decide +kernel
theorem dX9_weekOf_12 : decode cX9_weekOf 12 = .ok (.imul, 1) := by decide +kernel
theorem dX9_weekOf_13 : decode cX9_weekOf 13 = .ok (.aload_n 0, 1) := by decide +kernel
theorem dX9_weekOf_14 : decode cX9_weekOf 14 = .ok (.getfield 26, 3) := by decide +kernel
theorem dX9_weekOf_17 : decode cX9_weekOf 17 = .ok (.bipush 7, 2) := by decide +kernel
theorem dX9_weekOf_19 : decode cX9_weekOf 19 = .ok (.iload_n 1, 1) := by decide +kernel
theorem dX9_weekOf_20 : decode cX9_weekOf 20 = .ok (.imul, 1) := by decide +kernel
theorem dX9_weekOf_21 : decode cX9_weekOf 21 = .ok (.iload_n 3, 1) := by decide +kernel
theorem dX9_weekOf_22 : decode cX9_weekOf 22 = .ok (.iadd, 1) := by decide +kernel
theorem dX9_weekOf_23 : decode cX9_weekOf 23 = .ok (.iaload, 1) := by decide +kernel
theorem dX9_weekOf_24 : decode cX9_weekOf 24 = .ok (.iadd, 1) := by decide +kernel
theorem dX9_weekOf_25 : decode cX9_weekOf 25 = .ok (.istore_n 2, 1) := by decide +kernel
theorem dX9_weekOf_26 : decode cX9_weekOf 26 = .ok (.iinc 3 1, 3) := by decide +kernel
theorem dX9_weekOf_29 : decode cX9_weekOf 29 = .ok (.goto (-25), 3) := by decide +kernel
theorem dX9_weekOf_32 : decode cX9_weekOf 32 = .ok (.iload_n 2, 1) := by decide +kernel
theorem dX9_weekOf_33 : decode cX9_weekOf 33 = .ok (.ireturn, 1) := by decide +kernel
set_option maxRecDepth 20000 in
theorem ggX9_enter_X9_entryOf : GoodIn wsX9_enter wsX9_entryOf := goodIn_r _ [5] (by decide +kernel) (by decide +kernel)
set_option maxRecDepth 20000 in
theorem gX9_enter_X9_entryOf : GoodIn wsX9_enter (va_wsS RX9 58 yX9_entryOf wsX9_entryOf) := goodIn_app (goodIn_of _ (by decide +kernel)) ggX9_enter_X9_entryOf
theorem dX9_enter_0 : decode cX9_enter 0 = .ok (.iconst 0, 1) := by decide +kernel
theorem dX9_enter_1 : decode cX9_enter 1 = .ok (.istore_n 3, 1) := by decide +kernel
theorem dX9_enter_2 : decode cX9_enter 2 = .ok (.iload_n 3, 1) := by decide +kernel
theorem dX9_enter_3 : decode cX9_enter 3 = .ok (.bipush 7, 2) := by decide +kernel
theorem dX9_enter_5 : decode cX9_enter 5 = .ok (.if_icmp .ge 25, 3) := by decide +kernel
theorem dX9_enter_8 : decode cX9_enter 8 = .ok (.aload_n 0, 1) := by decide +kernel
theorem dX9_enter_9 : decode cX9_enter 9 = .ok (.getfield 26, 3) := by decide +kernel
theorem dX9_enter_12 : decode cX9_enter 12 = .ok (.bipush 7, 2) := by decide +kernel
theorem dX9_enter_14 : decode cX9_enter 14 = .ok (.iload_n 1, 1) := by decide +kernel
theorem dX9_enter_15 : decode cX9_enter 15 = .ok (.imul, 1) := by decide +kernel
theorem dX9_enter_16 : decode cX9_enter 16 = .ok (.iload_n 3, 1) := by decide +kernel
theorem dX9_enter_17 : decode cX9_enter 17 = .ok (.iadd, 1) := by decide +kernel
theorem dX9_enter_18 : decode cX9_enter 18 = .ok (.iload_n 2, 1) := by decide +kernel
theorem dX9_enter_19 : decode cX9_enter 19 = .ok (.iload_n 3, 1) := by decide +kernel
theorem dX9_enter_20 : decode cX9_enter 20 = .ok (.invokestatic 58, 3) := by decide +kernel
theorem dX9_enter_23 : decode cX9_enter 23 = .ok (.iastore, 1) := by decide +kernel
theorem dX9_enter_24 : decode cX9_enter 24 = .ok (.iinc 3 1, 3) := by decide +kernel
theorem dX9_enter_27 : decode cX9_enter 27 = .ok (.goto (-25), 3) := by decide +kernel
theorem dX9_enter_30 : decode cX9_enter 30 = .ok (.return_, 1) := by decide +kernel
set_option maxRecDepth 20000 in
theorem ggX9_countShifts_X9_entryOf : GoodIn wsX9_countShifts wsX9_entryOf := goodIn_r _ [4] (by decide +kernel) (by decide +kernel)
set_option maxRecDepth 20000 in
theorem gX9_countShifts_X9_entryOf : GoodIn wsX9_countShifts (va_wsS RX9 58 yX9_entryOf wsX9_entryOf) := goodIn_app (goodIn_of _ (by decide +kernel)) ggX9_countShifts_X9_entryOf
theorem dX9_countShifts_0 : decode cX9_countShifts 0 = .ok (.iconst 0, 1) := by decide +kernel
theorem dX9_countShifts_1 : decode cX9_countShifts 1 = .ok (.istore_n 1, 1) := by decide +kernel
theorem dX9_countShifts_2 : decode cX9_countShifts 2 = .ok (.iconst 0, 1) := by decide +kernel
theorem dX9_countShifts_3 : decode cX9_countShifts 3 = .ok (.istore_n 2, 1) := by decide +kernel
theorem dX9_countShifts_4 : decode cX9_countShifts 4 = .ok (.iload_n 2, 1) := by decide +kernel
theorem dX9_countShifts_5 : decode cX9_countShifts 5 = .ok (.bipush 7, 2) := by decide +kernel
theorem dX9_countShifts_7 : decode cX9_countShifts 7 = .ok (.if_icmp .ge 25, 3) := by decide +kernel
theorem dX9_countShifts_10 : decode cX9_countShifts 10 = .ok (.iload_n 1, 1) := by decide +kernel
theorem dX9_countShifts_11 : decode cX9_countShifts 11 = .ok (.iload_n 0, 1) := by decide +kernel
theorem dX9_countShifts_12 : decode cX9_countShifts 12 = .ok (.iload_n 2, 1) := by decide +kernel
theorem dX9_countShifts_13 : decode cX9_countShifts 13 = .ok (.invokestatic 58, 3) := by decide +kernel
theorem dX9_countShifts_16 : decode cX9_countShifts 16 = .ok (.ifCond .le 7, 3) := by decide +kernel
theorem dX9_countShifts_19 : decode cX9_countShifts 19 = .ok (.iconst 1, 1) := by decide +kernel
theorem dX9_countShifts_20 : decode cX9_countShifts 20 = .ok (.goto 4, 3) := by decide +kernel
theorem dX9_countShifts_23 : decode cX9_countShifts 23 = .ok (.iconst 0, 1) := by decide +kernel
theorem dX9_countShifts_24 : decode cX9_countShifts 24 = .ok (.iadd, 1) := by decide +kernel
theorem dX9_countShifts_25 : decode cX9_countShifts 25 = .ok (.istore_n 1, 1) := by decide +kernel
theorem dX9_countShifts_26 : decode cX9_countShifts 26 = .ok (.iinc 2 1, 3) := by decide +kernel
theorem dX9_countShifts_29 : decode cX9_countShifts 29 = .ok (.goto (-25), 3) := by decide +kernel
theorem dX9_countShifts_32 : decode cX9_countShifts 32 = .ok (.iload_n 1, 1) := by decide +kernel
theorem dX9_countShifts_33 : decode cX9_countShifts 33 = .ok (.ireturn, 1) := by decide +kernel
set_option maxRecDepth 20000 in
theorem ggX9_isPossible_X9_countShifts : GoodIn wsX9_isPossible wsX9_countShifts := goodIn_r _ [11, 12, 13, 10, 14] (by decide +kernel) (by decide +kernel)
set_option maxRecDepth 20000 in
theorem gX9_isPossible_X9_countShifts : GoodIn wsX9_isPossible (va_wsS RX9 62 yX9_countShifts wsX9_countShifts) := goodIn_app (goodIn_of _ (by decide +kernel)) ggX9_isPossible_X9_countShifts
set_option maxRecDepth 20000 in
theorem ggX9_isPossible_X9_entryOf : GoodIn wsX9_isPossible wsX9_entryOf := goodIn_r _ [14] (by decide +kernel) (by decide +kernel)
set_option maxRecDepth 20000 in
theorem gX9_isPossible_X9_entryOf : GoodIn wsX9_isPossible (va_wsS RX9 58 yX9_entryOf wsX9_entryOf) := goodIn_app (goodIn_of _ (by decide +kernel)) ggX9_isPossible_X9_entryOf
theorem dX9_isPossible_0 : decode cX9_isPossible 0 = .ok (.iload_n 2, 1) := by decide +kernel
theorem dX9_isPossible_1 : decode cX9_isPossible 1 = .ok (.invokestatic 62, 3) := by decide +kernel
theorem dX9_isPossible_4 : decode cX9_isPossible 4 = .ok (.aload_n 0, 1) := by decide +kernel
theorem dX9_isPossible_5 : decode cX9_isPossible 5 = .ok (.getfield 17, 3) := by decide +kernel
theorem dX9_isPossible_8 : decode cX9_isPossible 8 = .ok (.iload_n 1, 1) := by decide +kernel
theorem dX9_isPossible_9 : decode cX9_isPossible 9 = .ok (.iaload, 1) := by decide +kernel
theorem dX9_isPossible_10 : decode cX9_isPossible 10 = .ok (.if_icmp .gt 7, 3) := by decide +kernel
theorem dX9_isPossible_13 : decode cX9_isPossible 13 = .ok (.iconst 1, 1) := by decide +kernel
theorem dX9_isPossible_14 : decode cX9_isPossible 14 = .ok (.goto 4, 3) := by decide +kernel
theorem dX9_isPossible_17 : decode cX9_isPossible 17 = .ok (.iconst 0, 1) := by decide +kernel
theorem dX9_isPossible_18 : decode cX9_isPossible 18 = .ok (.istore_n 3, 1) := by decide +kernel
theorem dX9_isPossible_19 : decode cX9_isPossible 19 = .ok (.aload_n 0, 1) := by decide +kernel
theorem dX9_isPossible_20 : decode cX9_isPossible 20 = .ok (.getfield 35, 3) := by decide +kernel
theorem dX9_isPossible_23 : decode cX9_isPossible 23 = .ok (.iload_n 1, 1) := by decide +kernel
theorem dX9_isPossible_24 : decode cX9_isPossible 24 = .ok (.iaload, 1) := by decide +kernel
theorem dX9_isPossible_25 : decode cX9_isPossible 25 = .ok (.istore 4, 2) := by decide +kernel
theorem dX9_isPossible_27 : decode cX9_isPossible 27 = .ok (.aload_n 0, 1) := by decide +kernel
theorem dX9_isPossible_28 : decode cX9_isPossible 28 = .ok (.getfield 38, 3) := by decide +kernel
theorem dX9_isPossible_31 : decode cX9_isPossible 31 = .ok (.iload_n 1, 1) := by decide +kernel
theorem dX9_isPossible_32 : decode cX9_isPossible 32 = .ok (.iaload, 1) := by decide +kernel
theorem dX9_isPossible_33 : decode cX9_isPossible 33 = .ok (.istore 5, 2) := by decide +kernel
theorem dX9_isPossible_35 : decode cX9_isPossible 35 = .ok (.iconst 0, 1) := by decide +kernel
theorem dX9_isPossible_36 : decode cX9_isPossible 36 = .ok (.istore 6, 2) := by decide +kernel
theorem dX9_isPossible_38 : decode cX9_isPossible 38 = .ok (.iload 6, 2) := by decide +kernel
theorem dX9_isPossible_40 : decode cX9_isPossible 40 = .ok (.bipush 7, 2) := by decide +kernel
theorem dX9_isPossible_42 : decode cX9_isPossible 42 = .ok (.if_icmp .ge 117, 3) := by decide +kernel
theorem dX9_isPossible_45 : decode cX9_isPossible 45 = .ok (.iload_n 3, 1) := by decide +kernel
theorem dX9_isPossible_46 : decode cX9_isPossible 46 = .ok (.ifCond .eq 113, 3) := by decide +kernel
theorem dX9_isPossible_49 : decode cX9_isPossible 49 = .ok (.iload_n 2, 1) := by decide +kernel
theorem dX9_isPossible_50 : decode cX9_isPossible 50 = .ok (.iload 6, 2) := by decide +kernel
theorem dX9_isPossible_52 : decode cX9_isPossible 52 = .ok (.invokestatic 58, 3) := by decide +kernel
theorem dX9_isPossible_55 : decode cX9_isPossible 55 = .ok (.istore 7, 2) := by decide +kernel
theorem dX9_isPossible_57 : decode cX9_isPossible 57 = .ok (.aload_n 0, 1) := by decide +kernel
theorem dX9_isPossible_58 : decode cX9_isPossible 58 = .ok (.getfield 29, 3) := by decide +kernel
theorem dX9_isPossible_61 : decode cX9_isPossible 61 = .ok (.bipush 7, 2) := by decide +kernel
theorem dX9_isPossible_63 : decode cX9_isPossible 63 = .ok (.iload_n 1, 1) := by decide +kernel
theorem dX9_isPossible_64 : decode cX9_isPossible 64 = .ok (.imul, 1) := by decide +kernel
theorem dX9_isPossible_65 : decode cX9_isPossible 65 = .ok (.iload 6, 2) := by decide +kernel
theorem dX9_isPossible_67 : decode cX9_isPossible 67 = .ok (.iadd, 1) := by decide +kernel
theorem dX9_isPossible_68 : decode cX9_isPossible 68 = .ok (.iaload, 1) := by decide +kernel
theorem dX9_isPossible_69 : decode cX9_isPossible 69 = .ok (.istore 8, 2) := by decide +kernel
theorem dX9_isPossible_71 : decode cX9_isPossible 71 = .ok (.iload 7, 2) := by decide +kernel
theorem dX9_isPossible_73 : decode cX9_isPossible 73 = .ok (.ifCond .le 10, 3) := by decide +kernel
theorem dX9_isPossible_76 : decode cX9_isPossible 76 = .ok (.iload 5, 2) := by decide +kernel
theorem dX9_isPossible_78 : decode cX9_isPossible 78 = .ok (.iconst 1, 1) := by decide +kernel
theorem dX9_isPossible_79 : decode cX9_isPossible 79 = .ok (.iadd, 1) := by decide +kernel
theorem dX9_isPossible_80 : decode cX9_isPossible 80 = .ok (.goto 4, 3) := by decide +kernel
theorem dX9_isPossible_83 : decode cX9_isPossible 83 = .ok (.iconst 0, 1) := by decide +kernel
theorem dX9_isPossible_84 : decode cX9_isPossible 84 = .ok (.istore 5, 2) := by decide +kernel
theorem dX9_isPossible_86 : decode cX9_isPossible 86 = .ok (.iload 7, 2) := by decide +kernel
theorem dX9_isPossible_88 : decode cX9_isPossible 88 = .ok (.ifCond .eq 18, 3) := by decide +kernel
theorem dX9_isPossible_91 : decode cX9_isPossible 91 = .ok (.aload_n 0, 1) := by decide +kernel
theorem dX9_isPossible_92 : decode cX9_isPossible 92 = .ok (.getfield 13, 3) := by decide +kernel
theorem dX9_isPossible_95 : decode cX9_isPossible 95 = .ok (.iload_n 1, 1) := by decide +kernel
theorem dX9_isPossible_96 : decode cX9_isPossible 96 = .ok (.iaload, 1) := by decide +kernel
theorem dX9_isPossible_97 : decode cX9_isPossible 97 = .ok (.iload 7, 2) := by decide +kernel
theorem dX9_isPossible_99 : decode cX9_isPossible 99 = .ok (.ishr, 1) := by decide +kernel
theorem dX9_isPossible_100 : decode cX9_isPossible 100 = .ok (.iconst 1, 1) := by decide +kernel
theorem dX9_isPossible_101 : decode cX9_isPossible 101 = .ok (.iand, 1) := by decide +kernel
theorem dX9_isPossible_102 : decode cX9_isPossible 102 = .ok (.iconst 1, 1) := by decide +kernel
theorem dX9_isPossible_103 : decode cX9_isPossible 103 = .ok (.if_icmp .ne 44, 3) := by decide +kernel
theorem dX9_isPossible_106 : decode cX9_isPossible 106 = .ok (.iload 8, 2) := by decide +kernel
theorem dX9_isPossible_108 : decode cX9_isPossible 108 = .ok (.iconst (-1), 1) := by decide +kernel
theorem dX9_isPossible_109 : decode cX9_isPossible 109 = .ok (.if_icmp .eq 10, 3) := by decide +kernel
theorem dX9_isPossible_112 : decode cX9_isPossible 112 = .ok (.iload 8, 2) := by decide +kernel
theorem dX9_isPossible_114 : decode cX9_isPossible 114 = .ok (.iload 7, 2) := by decide +kernel
theorem dX9_isPossible_116 : decode cX9_isPossible 116 = .ok (.if_icmp .ne 31, 3) := by decide +kernel
theorem dX9_isPossible_119 : decode cX9_isPossible 119 = .ok (.aload_n 0, 1) := by decide +kernel
theorem dX9_isPossible_120 : decode cX9_isPossible 120 = .ok (.getfield 23, 3) := by decide +kernel
theorem dX9_isPossible_123 : decode cX9_isPossible 123 = .ok (.iconst 4, 1) := by decide +kernel
theorem dX9_isPossible_124 : decode cX9_isPossible 124 = .ok (.iload 4, 2) := by decide +kernel
theorem dX9_isPossible_126 : decode cX9_isPossible 126 = .ok (.imul, 1) := by decide +kernel
theorem dX9_isPossible_127 : decode cX9_isPossible 127 = .ok (.iload 7, 2) := by decide +kernel
theorem dX9_isPossible_129 : decode cX9_isPossible 129 = .ok (.iadd, 1) := by decide +kernel
theorem dX9_isPossible_130 : decode cX9_isPossible 130 = .ok (.iaload, 1) := by decide +kernel
theorem dX9_isPossible_131 : decode cX9_isPossible 131 = .ok (.ifCond .ne 16, 3) := by decide +kernel
theorem dX9_isPossible_134 : decode cX9_isPossible 134 = .ok (.iload 5, 2) := by decide +kernel
theorem dX9_isPossible_136 : decode cX9_isPossible 136 = .ok (.aload_n 0, 1) := by decide +kernel
theorem dX9_isPossible_137 : decode cX9_isPossible 137 = .ok (.getfield 7, 3) := by decide +kernel
theorem dX9_isPossible_140 : decode cX9_isPossible 140 = .ok (.if_icmp .gt 7, 3) := by decide +kernel
theorem dX9_isPossible_143 : decode cX9_isPossible 143 = .ok (.iconst 1, 1) := by decide +kernel
theorem dX9_isPossible_144 : decode cX9_isPossible 144 = .ok (.goto 4, 3) := by decide +kernel
theorem dX9_isPossible_147 : decode cX9_isPossible 147 = .ok (.iconst 0, 1) := by decide +kernel
theorem dX9_isPossible_148 : decode cX9_isPossible 148 = .ok (.istore_n 3, 1) := by decide +kernel
theorem dX9_isPossible_149 : decode cX9_isPossible 149 = .ok (.iload 7, 2) := by decide +kernel
theorem dX9_isPossible_151 : decode cX9_isPossible 151 = .ok (.istore 4, 2) := by decide +kernel
theorem dX9_isPossible_153 : decode cX9_isPossible 153 = .ok (.iinc 6 1, 3) := by decide +kernel
theorem dX9_isPossible_156 : decode cX9_isPossible 156 = .ok (.goto (-118), 3) := by decide +kernel
theorem dX9_isPossible_159 : decode cX9_isPossible 159 = .ok (.iload_n 3, 1) := by decide +kernel
theorem dX9_isPossible_160 : decode cX9_isPossible 160 = .ok (.ireturn, 1) := by decide +kernel
set_option maxRecDepth 20000 in
theorem ggX9_brokenBy_X9_entryOf : GoodIn wsX9_brokenBy wsX9_entryOf := goodIn_r _ [5] (by decide +kernel) (by decide +kernel)
set_option maxRecDepth 20000 in
theorem gX9_brokenBy_X9_entryOf : GoodIn wsX9_brokenBy (va_wsS RX9 58 yX9_entryOf wsX9_entryOf) := goodIn_app (goodIn_of _ (by decide +kernel)) ggX9_brokenBy_X9_entryOf
theorem dX9_brokenBy_0 : decode cX9_brokenBy 0 = .ok (.iconst 0, 1) := by decide +kernel
theorem dX9_brokenBy_1 : decode cX9_brokenBy 1 = .ok (.istore_n 3, 1) := by decide +kernel
theorem dX9_brokenBy_2 : decode cX9_brokenBy 2 = .ok (.iconst 0, 1) := by decide +kernel
theorem dX9_brokenBy_3 : decode cX9_brokenBy 3 = .ok (.istore 4, 2) := by decide +kernel
theorem dX9_brokenBy_5 : decode cX9_brokenBy 5 = .ok (.iload 4, 2) := by decide +kernel
theorem dX9_brokenBy_7 : decode cX9_brokenBy 7 = .ok (.bipush 7, 2) := by decide +kernel
theorem dX9_brokenBy_9 : decode cX9_brokenBy 9 = .ok (.if_icmp .ge 41, 3) := by decide +kernel
theorem dX9_brokenBy_12 : decode cX9_brokenBy 12 = .ok (.iload_n 3, 1) := by decide +kernel
theorem dX9_brokenBy_13 : decode cX9_brokenBy 13 = .ok (.iload_n 2, 1) := by decide +kernel
theorem dX9_brokenBy_14 : decode cX9_brokenBy 14 = .ok (.iload 4, 2) := by decide +kernel
theorem dX9_brokenBy_16 : decode cX9_brokenBy 16 = .ok (.invokestatic 58, 3) := by decide +kernel
theorem dX9_brokenBy_19 : decode cX9_brokenBy 19 = .ok (.ifCond .le 22, 3) := by decide +kernel
theorem dX9_brokenBy_22 : decode cX9_brokenBy 22 = .ok (.aload_n 0, 1) := by decide +kernel
theorem dX9_brokenBy_23 : decode cX9_brokenBy 23 = .ok (.getfield 32, 3) := by decide +kernel
theorem dX9_brokenBy_26 : decode cX9_brokenBy 26 = .ok (.iload_n 1, 1) := by decide +kernel
theorem dX9_brokenBy_27 : decode cX9_brokenBy 27 = .ok (.iaload, 1) := by decide +kernel
theorem dX9_brokenBy_28 : decode cX9_brokenBy 28 = .ok (.iload 4, 2) := by decide +kernel
theorem dX9_brokenBy_30 : decode cX9_brokenBy 30 = .ok (.ishr, 1) := by decide +kernel
theorem dX9_brokenBy_31 : decode cX9_brokenBy 31 = .ok (.iconst 1, 1) := by decide +kernel
theorem dX9_brokenBy_32 : decode cX9_brokenBy 32 = .ok (.iand, 1) := by decide +kernel
theorem dX9_brokenBy_33 : decode cX9_brokenBy 33 = .ok (.iconst 1, 1) := by decide +kernel
theorem dX9_brokenBy_34 : decode cX9_brokenBy 34 = .ok (.if_icmp .ne 7, 3) := by decide +kernel
theorem dX9_brokenBy_37 : decode cX9_brokenBy 37 = .ok (.iconst 1, 1) := by decide +kernel
theorem dX9_brokenBy_38 : decode cX9_brokenBy 38 = .ok (.goto 4, 3) := by decide +kernel
theorem dX9_brokenBy_41 : decode cX9_brokenBy 41 = .ok (.iconst 0, 1) := by decide +kernel
theorem dX9_brokenBy_42 : decode cX9_brokenBy 42 = .ok (.iadd, 1) := by decide +kernel
theorem dX9_brokenBy_43 : decode cX9_brokenBy 43 = .ok (.istore_n 3, 1) := by decide +kernel
theorem dX9_brokenBy_44 : decode cX9_brokenBy 44 = .ok (.iinc 4 1, 3) := by decide +kernel
theorem dX9_brokenBy_47 : decode cX9_brokenBy 47 = .ok (.goto (-42), 3) := by decide +kernel
theorem dX9_brokenBy_50 : decode cX9_brokenBy 50 = .ok (.iload_n 3, 1) := by decide +kernel
theorem dX9_brokenBy_51 : decode cX9_brokenBy 51 = .ok (.ireturn, 1) := by decide +kernel
set_option maxRecDepth 20000 in
theorem ggX9_weekendOf_X9_entryOf : GoodIn wsX9_weekendOf wsX9_entryOf := goodIn_r _ [4] (by decide +kernel) (by decide +kernel)
set_option maxRecDepth 20000 in
theorem gX9_weekendOf_X9_entryOf : GoodIn wsX9_weekendOf (va_wsS RX9 58 yX9_entryOf wsX9_entryOf) := goodIn_app (goodIn_of _ (by decide +kernel)) ggX9_weekendOf_X9_entryOf
theorem dX9_weekendOf_0 : decode cX9_weekendOf 0 = .ok (.iload_n 0, 1) := by decide +kernel
theorem dX9_weekendOf_1 : decode cX9_weekendOf 1 = .ok (.iconst 5, 1) := by decide +kernel
theorem dX9_weekendOf_2 : decode cX9_weekendOf 2 = .ok (.invokestatic 58, 3) := by decide +kernel
theorem dX9_weekendOf_5 : decode cX9_weekendOf 5 = .ok (.ifCond .le 7, 3) := by decide +kernel
theorem dX9_weekendOf_8 : decode cX9_weekendOf 8 = .ok (.iconst 1, 1) := by decide +kernel
theorem dX9_weekendOf_9 : decode cX9_weekendOf 9 = .ok (.goto 4, 3) := by decide +kernel
theorem dX9_weekendOf_12 : decode cX9_weekendOf 12 = .ok (.iconst 0, 1) := by decide +kernel
theorem dX9_weekendOf_13 : decode cX9_weekendOf 13 = .ok (.iload_n 0, 1) := by decide +kernel
theorem dX9_weekendOf_14 : decode cX9_weekendOf 14 = .ok (.bipush 6, 2) := by decide +kernel
theorem dX9_weekendOf_16 : decode cX9_weekendOf 16 = .ok (.invokestatic 58, 3) := by decide +kernel
theorem dX9_weekendOf_19 : decode cX9_weekendOf 19 = .ok (.ifCond .le 7, 3) := by decide +kernel
theorem dX9_weekendOf_22 : decode cX9_weekendOf 22 = .ok (.iconst 1, 1) := by decide +kernel
theorem dX9_weekendOf_23 : decode cX9_weekendOf 23 = .ok (.goto 4, 3) := by decide +kernel
theorem dX9_weekendOf_26 : decode cX9_weekendOf 26 = .ok (.iconst 0, 1) := by decide +kernel
theorem dX9_weekendOf_27 : decode cX9_weekendOf 27 = .ok (.iadd, 1) := by decide +kernel
theorem dX9_weekendOf_28 : decode cX9_weekendOf 28 = .ok (.ireturn, 1) := by decide +kernel
set_option maxRecDepth 20000 in
theorem ggX9_addPerson_X9_in : GoodIn wsX9_addPerson wsX9_in := goodIn_r _ [9] (by decide +kernel) (by decide +kernel)
set_option maxRecDepth 20000 in
theorem gX9_addPerson_X9_in : GoodIn wsX9_addPerson (va_wsS RX9 50 yX9_in wsX9_in) := goodIn_app (goodIn_of _ (by decide +kernel)) ggX9_addPerson_X9_in
set_option maxRecDepth 20000 in
theorem ggX9_addPerson_X9_fails : GoodIn wsX9_addPerson wsX9_fails := goodIn_r _ [13, 1, 14, 15, 16, 17, 18, 19, 20, 21, 22, 23, 24, 25, 26, 27, 28] (by decide +kernel) (by decide +kernel)
set_option maxRecDepth 20000 in
theorem gX9_addPerson_X9_fails : GoodIn wsX9_addPerson (wsV RX9 66 RX9 yX9_fails wsX9_fails) := goodIn_app (goodIn_of _ (by decide +kernel)) ggX9_addPerson_X9_fails
theorem dX9_addPerson_0 : decode cX9_addPerson 0 = .ok (.aload_n 0, 1) := by decide +kernel
theorem dX9_addPerson_1 : decode cX9_addPerson 1 = .ok (.iconst 0, 1) := by decide +kernel
theorem dX9_addPerson_2 : decode cX9_addPerson 2 = .ok (.putfield 44, 3) := by decide +kernel
theorem dX9_addPerson_5 : decode cX9_addPerson 5 = .ok (.iload_n 1, 1) := by decide +kernel
theorem dX9_addPerson_6 : decode cX9_addPerson 6 = .ok (.iconst 2, 1) := by decide +kernel
theorem dX9_addPerson_7 : decode cX9_addPerson 7 = .ok (.bipush 14, 2) := by decide +kernel
theorem dX9_addPerson_9 : decode cX9_addPerson 9 = .ok (.invokestatic 50, 3) := by decide +kernel
theorem dX9_addPerson_12 : decode cX9_addPerson 12 = .ok (.ifCond .eq 20, 3) := by decide +kernel
theorem dX9_addPerson_15 : decode cX9_addPerson 15 = .ok (.iload_n 1, 1) := by decide +kernel
theorem dX9_addPerson_16 : decode cX9_addPerson 16 = .ok (.iconst 2, 1) := by decide +kernel
theorem dX9_addPerson_17 : decode cX9_addPerson 17 = .ok (.irem, 1) := by decide +kernel
theorem dX9_addPerson_18 : decode cX9_addPerson 18 = .ok (.iconst 1, 1) := by decide +kernel
theorem dX9_addPerson_19 : decode cX9_addPerson 19 = .ok (.if_icmp .eq 13, 3) := by decide +kernel
theorem dX9_addPerson_22 : decode cX9_addPerson 22 = .ok (.iload_n 2, 1) := by decide +kernel
theorem dX9_addPerson_23 : decode cX9_addPerson 23 = .ok (.iconst 0, 1) := by decide +kernel
theorem dX9_addPerson_24 : decode cX9_addPerson 24 = .ok (.bipush 7, 2) := by decide +kernel
theorem dX9_addPerson_26 : decode cX9_addPerson 26 = .ok (.invokestatic 50, 3) := by decide +kernel
theorem dX9_addPerson_29 : decode cX9_addPerson 29 = .ok (.ifCond .ne 9, 3) := by decide +kernel
theorem dX9_addPerson_32 : decode cX9_addPerson 32 = .ok (.aload_n 0, 1) := by decide +kernel
theorem dX9_addPerson_33 : decode cX9_addPerson 33 = .ok (.iconst 1, 1) := by decide +kernel
theorem dX9_addPerson_34 : decode cX9_addPerson 34 = .ok (.invokevirtual 66, 3) := by decide +kernel
theorem dX9_addPerson_37 : decode cX9_addPerson 37 = .ok (.ireturn, 1) := by decide +kernel
theorem dX9_addPerson_38 : decode cX9_addPerson 38 = .ok (.aload_n 0, 1) := by decide +kernel
theorem dX9_addPerson_39 : decode cX9_addPerson 39 = .ok (.getfield 47, 3) := by decide +kernel
theorem dX9_addPerson_42 : decode cX9_addPerson 42 = .ok (.bipush 8, 2) := by decide +kernel
theorem dX9_addPerson_44 : decode cX9_addPerson 44 = .ok (.if_icmp .ne 9, 3) := by decide +kernel
theorem dX9_addPerson_47 : decode cX9_addPerson 47 = .ok (.aload_n 0, 1) := by decide +kernel
theorem dX9_addPerson_48 : decode cX9_addPerson 48 = .ok (.iconst 2, 1) := by decide +kernel
theorem dX9_addPerson_49 : decode cX9_addPerson 49 = .ok (.invokevirtual 66, 3) := by decide +kernel
theorem dX9_addPerson_52 : decode cX9_addPerson 52 = .ok (.ireturn, 1) := by decide +kernel
theorem dX9_addPerson_53 : decode cX9_addPerson 53 = .ok (.aload_n 0, 1) := by decide +kernel
theorem dX9_addPerson_54 : decode cX9_addPerson 54 = .ok (.getfield 13, 3) := by decide +kernel
theorem dX9_addPerson_57 : decode cX9_addPerson 57 = .ok (.aload_n 0, 1) := by decide +kernel
theorem dX9_addPerson_58 : decode cX9_addPerson 58 = .ok (.getfield 47, 3) := by decide +kernel
theorem dX9_addPerson_61 : decode cX9_addPerson 61 = .ok (.iload_n 1, 1) := by decide +kernel
theorem dX9_addPerson_62 : decode cX9_addPerson 62 = .ok (.iastore, 1) := by decide +kernel
theorem dX9_addPerson_63 : decode cX9_addPerson 63 = .ok (.aload_n 0, 1) := by decide +kernel
theorem dX9_addPerson_64 : decode cX9_addPerson 64 = .ok (.getfield 17, 3) := by decide +kernel
theorem dX9_addPerson_67 : decode cX9_addPerson 67 = .ok (.aload_n 0, 1) := by decide +kernel
theorem dX9_addPerson_68 : decode cX9_addPerson 68 = .ok (.getfield 47, 3) := by decide +kernel
theorem dX9_addPerson_71 : decode cX9_addPerson 71 = .ok (.iload_n 2, 1) := by decide +kernel
theorem dX9_addPerson_72 : decode cX9_addPerson 72 = .ok (.iastore, 1) := by decide +kernel
theorem dX9_addPerson_73 : decode cX9_addPerson 73 = .ok (.iconst 0, 1) := by decide +kernel
theorem dX9_addPerson_74 : decode cX9_addPerson 74 = .ok (.istore_n 3, 1) := by decide +kernel
theorem dX9_addPerson_75 : decode cX9_addPerson 75 = .ok (.iload_n 3, 1) := by decide +kernel
theorem dX9_addPerson_76 : decode cX9_addPerson 76 = .ok (.bipush 7, 2) := by decide +kernel
theorem dX9_addPerson_78 : decode cX9_addPerson 78 = .ok (.if_icmp .ge 24, 3) := by decide +kernel
theorem dX9_addPerson_81 : decode cX9_addPerson 81 = .ok (.aload_n 0, 1) := by decide +kernel
theorem dX9_addPerson_82 : decode cX9_addPerson 82 = .ok (.getfield 29, 3) := by decide +kernel
theorem dX9_addPerson_85 : decode cX9_addPerson 85 = .ok (.bipush 7, 2) := by decide +kernel
theorem dX9_addPerson_87 : decode cX9_addPerson 87 = .ok (.aload_n 0, 1) := by decide +kernel
theorem dX9_addPerson_88 : decode cX9_addPerson 88 = .ok (.getfield 47, 3) := by decide +kernel
theorem dX9_addPerson_91 : decode cX9_addPerson 91 = .ok (.imul, 1) := by decide +kernel
theorem dX9_addPerson_92 : decode cX9_addPerson 92 = .ok (.iload_n 3, 1) := by decide +kernel
theorem dX9_addPerson_93 : decode cX9_addPerson 93 = .ok (.iadd, 1) := by decide +kernel
theorem dX9_addPerson_94 : decode cX9_addPerson 94 = .ok (.iconst (-1), 1) := by decide +kernel
theorem dX9_addPerson_95 : decode cX9_addPerson 95 = .ok (.iastore, 1) := by decide +kernel
theorem dX9_addPerson_96 : decode cX9_addPerson 96 = .ok (.iinc 3 1, 3) := by decide +kernel
theorem dX9_addPerson_99 : decode cX9_addPerson 99 = .ok (.goto (-24), 3) := by decide +kernel
theorem dX9_addPerson_102 : decode cX9_addPerson 102 = .ok (.aload_n 0, 1) := by decide +kernel
theorem dX9_addPerson_103 : decode cX9_addPerson 103 = .ok (.dup, 1) := by decide +kernel
theorem dX9_addPerson_104 : decode cX9_addPerson 104 = .ok (.getfield 47, 3) := by decide +kernel
theorem dX9_addPerson_107 : decode cX9_addPerson 107 = .ok (.iconst 1, 1) := by decide +kernel
theorem dX9_addPerson_108 : decode cX9_addPerson 108 = .ok (.iadd, 1) := by decide +kernel
theorem dX9_addPerson_109 : decode cX9_addPerson 109 = .ok (.putfield 47, 3) := by decide +kernel
theorem dX9_addPerson_112 : decode cX9_addPerson 112 = .ok (.aload_n 0, 1) := by decide +kernel
theorem dX9_addPerson_113 : decode cX9_addPerson 113 = .ok (.getfield 47, 3) := by decide +kernel
theorem dX9_addPerson_116 : decode cX9_addPerson 116 = .ok (.iconst 1, 1) := by decide +kernel
theorem dX9_addPerson_117 : decode cX9_addPerson 117 = .ok (.isub, 1) := by decide +kernel
theorem dX9_addPerson_118 : decode cX9_addPerson 118 = .ok (.ireturn, 1) := by decide +kernel
set_option maxRecDepth 20000 in
theorem ggX9_setNeed_X9_isDay : GoodIn wsX9_setNeed wsX9_isDay := goodIn_r _ [6, 7, 8, 5, 9] (by decide +kernel) (by decide +kernel)
set_option maxRecDepth 20000 in
theorem gX9_setNeed_X9_isDay : GoodIn wsX9_setNeed (va_wsS RX9 69 yX9_isDay wsX9_isDay) := goodIn_app (goodIn_of _ (by decide +kernel)) ggX9_setNeed_X9_isDay
set_option maxRecDepth 20000 in
theorem ggX9_setNeed_X9_isKind : GoodIn wsX9_setNeed wsX9_isKind := goodIn_r _ [12, 7, 8, 5, 9] (by decide +kernel) (by decide +kernel)
set_option maxRecDepth 20000 in
theorem gX9_setNeed_X9_isKind : GoodIn wsX9_setNeed (va_wsS RX9 72 yX9_isKind wsX9_isKind) := goodIn_app (goodIn_of _ (by decide +kernel)) ggX9_setNeed_X9_isKind
set_option maxRecDepth 20000 in
theorem ggX9_setNeed_X9_fails : GoodIn wsX9_setNeed wsX9_fails := goodIn_r _ [16, 1, 17, 18, 19, 20, 21, 22, 23, 24, 25, 26, 27, 28, 29, 30, 31] (by decide +kernel) (by decide +kernel)
set_option maxRecDepth 20000 in
theorem gX9_setNeed_X9_fails : GoodIn wsX9_setNeed (wsV RX9 66 RX9 yX9_fails wsX9_fails) := goodIn_app (goodIn_of _ (by decide +kernel)) ggX9_setNeed_X9_fails
set_option maxRecDepth 20000 in
theorem ggX9_setNeed_X9_in : GoodIn wsX9_setNeed wsX9_in := goodIn_r _ [9] (by decide +kernel) (by decide +kernel)
set_option maxRecDepth 20000 in
theorem gX9_setNeed_X9_in : GoodIn wsX9_setNeed (va_wsS RX9 50 yX9_in wsX9_in) := goodIn_app (goodIn_of _ (by decide +kernel)) ggX9_setNeed_X9_in
theorem dX9_setNeed_0 : decode cX9_setNeed 0 = .ok (.aload_n 0, 1) := by decide +kernel
theorem dX9_setNeed_1 : decode cX9_setNeed 1 = .ok (.iconst 0, 1) := by decide +kernel
theorem dX9_setNeed_2 : decode cX9_setNeed 2 = .ok (.putfield 44, 3) := by decide +kernel
theorem dX9_setNeed_5 : decode cX9_setNeed 5 = .ok (.iload_n 1, 1) := by decide +kernel
theorem dX9_setNeed_6 : decode cX9_setNeed 6 = .ok (.invokestatic 69, 3) := by decide +kernel
theorem dX9_setNeed_9 : decode cX9_setNeed 9 = .ok (.ifCond .eq 10, 3) := by decide +kernel
theorem dX9_setNeed_12 : decode cX9_setNeed 12 = .ok (.iload_n 2, 1) := by decide +kernel
theorem dX9_setNeed_13 : decode cX9_setNeed 13 = .ok (.invokestatic 72, 3) := by decide +kernel
theorem dX9_setNeed_16 : decode cX9_setNeed 16 = .ok (.ifCond .ne 9, 3) := by decide +kernel
theorem dX9_setNeed_19 : decode cX9_setNeed 19 = .ok (.aload_n 0, 1) := by decide +kernel
theorem dX9_setNeed_20 : decode cX9_setNeed 20 = .ok (.iconst 1, 1) := by decide +kernel
theorem dX9_setNeed_21 : decode cX9_setNeed 21 = .ok (.invokevirtual 66, 3) := by decide +kernel
theorem dX9_setNeed_24 : decode cX9_setNeed 24 = .ok (.ireturn, 1) := by decide +kernel
theorem dX9_setNeed_25 : decode cX9_setNeed 25 = .ok (.iload_n 3, 1) := by decide +kernel
theorem dX9_setNeed_26 : decode cX9_setNeed 26 = .ok (.iconst 0, 1) := by decide +kernel
theorem dX9_setNeed_27 : decode cX9_setNeed 27 = .ok (.iconst 5, 1) := by decide +kernel
theorem dX9_setNeed_28 : decode cX9_setNeed 28 = .ok (.invokestatic 50, 3) := by decide +kernel
theorem dX9_setNeed_31 : decode cX9_setNeed 31 = .ok (.ifCond .ne 9, 3) := by decide +kernel
theorem dX9_setNeed_34 : decode cX9_setNeed 34 = .ok (.aload_n 0, 1) := by decide +kernel
theorem dX9_setNeed_35 : decode cX9_setNeed 35 = .ok (.iconst 2, 1) := by decide +kernel
theorem dX9_setNeed_36 : decode cX9_setNeed 36 = .ok (.invokevirtual 66, 3) := by decide +kernel
theorem dX9_setNeed_39 : decode cX9_setNeed 39 = .ok (.ireturn, 1) := by decide +kernel
theorem dX9_setNeed_40 : decode cX9_setNeed 40 = .ok (.aload_n 0, 1) := by decide +kernel
theorem dX9_setNeed_41 : decode cX9_setNeed 41 = .ok (.getfield 20, 3) := by decide +kernel
theorem dX9_setNeed_44 : decode cX9_setNeed 44 = .ok (.iconst 4, 1) := by decide +kernel
theorem dX9_setNeed_45 : decode cX9_setNeed 45 = .ok (.iload_n 1, 1) := by decide +kernel
theorem dX9_setNeed_46 : decode cX9_setNeed 46 = .ok (.imul, 1) := by decide +kernel
theorem dX9_setNeed_47 : decode cX9_setNeed 47 = .ok (.iload_n 2, 1) := by decide +kernel
theorem dX9_setNeed_48 : decode cX9_setNeed 48 = .ok (.iadd, 1) := by decide +kernel
theorem dX9_setNeed_49 : decode cX9_setNeed 49 = .ok (.iaload, 1) := by decide +kernel
theorem dX9_setNeed_50 : decode cX9_setNeed 50 = .ok (.istore 4, 2) := by decide +kernel
theorem dX9_setNeed_52 : decode cX9_setNeed 52 = .ok (.aload_n 0, 1) := by decide +kernel
theorem dX9_setNeed_53 : decode cX9_setNeed 53 = .ok (.getfield 20, 3) := by decide +kernel
theorem dX9_setNeed_56 : decode cX9_setNeed 56 = .ok (.iconst 4, 1) := by decide +kernel
theorem dX9_setNeed_57 : decode cX9_setNeed 57 = .ok (.iload_n 1, 1) := by decide +kernel
theorem dX9_setNeed_58 : decode cX9_setNeed 58 = .ok (.imul, 1) := by decide +kernel
theorem dX9_setNeed_59 : decode cX9_setNeed 59 = .ok (.iload_n 2, 1) := by decide +kernel
theorem dX9_setNeed_60 : decode cX9_setNeed 60 = .ok (.iadd, 1) := by decide +kernel
theorem dX9_setNeed_61 : decode cX9_setNeed 61 = .ok (.iload_n 3, 1) := by decide +kernel
theorem dX9_setNeed_62 : decode cX9_setNeed 62 = .ok (.iastore, 1) := by decide +kernel
theorem dX9_setNeed_63 : decode cX9_setNeed 63 = .ok (.iload 4, 2) := by decide +kernel
theorem dX9_setNeed_65 : decode cX9_setNeed 65 = .ok (.ireturn, 1) := by decide +kernel
set_option maxRecDepth 20000 in
theorem ggX9_forbid_X9_isKind : GoodIn wsX9_forbid wsX9_isKind := goodIn_r _ [6, 7, 8, 5, 9] (by decide +kernel) (by decide +kernel)
set_option maxRecDepth 20000 in
theorem gX9_forbid_X9_isKind : GoodIn wsX9_forbid (va_wsS RX9 72 yX9_isKind wsX9_isKind) := goodIn_app (goodIn_of _ (by decide +kernel)) ggX9_forbid_X9_isKind
theorem dX9_forbid_0 : decode cX9_forbid 0 = .ok (.aload_n 0, 1) := by decide +kernel
theorem dX9_forbid_1 : decode cX9_forbid 1 = .ok (.iload_n 1, 1) := by decide +kernel
theorem dX9_forbid_2 : decode cX9_forbid 2 = .ok (.invokestatic 72, 3) := by decide +kernel
theorem dX9_forbid_5 : decode cX9_forbid 5 = .ok (.ifCond .eq 14, 3) := by decide +kernel
theorem dX9_forbid_8 : decode cX9_forbid 8 = .ok (.iload_n 2, 1) := by decide +kernel
theorem dX9_forbid_9 : decode cX9_forbid 9 = .ok (.invokestatic 72, 3) := by decide +kernel
theorem dX9_forbid_12 : decode cX9_forbid 12 = .ok (.ifCond .eq 7, 3) := by decide +kernel
theorem dX9_forbid_15 : decode cX9_forbid 15 = .ok (.iconst 0, 1) := by decide +kernel
theorem dX9_forbid_16 : decode cX9_forbid 16 = .ok (.goto 4, 3) := by decide +kernel
theorem dX9_forbid_19 : decode cX9_forbid 19 = .ok (.iconst 1, 1) := by decide +kernel
theorem dX9_forbid_20 : decode cX9_forbid 20 = .ok (.putfield 44, 3) := by decide +kernel
theorem dX9_forbid_23 : decode cX9_forbid 23 = .ok (.iload_n 3, 1) := by decide +kernel
theorem dX9_forbid_24 : decode cX9_forbid 24 = .ok (.ifCond .eq 7, 3) := by decide +kernel
theorem dX9_forbid_27 : decode cX9_forbid 27 = .ok (.iconst 1, 1) := by decide +kernel
theorem dX9_forbid_28 : decode cX9_forbid 28 = .ok (.goto 4, 3) := by decide +kernel
theorem dX9_forbid_31 : decode cX9_forbid 31 = .ok (.iconst 0, 1) := by decide +kernel
theorem dX9_forbid_32 : decode cX9_forbid 32 = .ok (.istore 4, 2) := by decide +kernel
theorem dX9_forbid_34 : decode cX9_forbid 34 = .ok (.aload_n 0, 1) := by decide +kernel
theorem dX9_forbid_35 : decode cX9_forbid 35 = .ok (.getfield 44, 3) := by decide +kernel
theorem dX9_forbid_38 : decode cX9_forbid 38 = .ok (.ifCond .ne 22, 3) := by decide +kernel
theorem dX9_forbid_41 : decode cX9_forbid 41 = .ok (.aload_n 0, 1) := by decide +kernel
theorem dX9_forbid_42 : decode cX9_forbid 42 = .ok (.getfield 23, 3) := by decide +kernel
theorem dX9_forbid_45 : decode cX9_forbid 45 = .ok (.iconst 4, 1) := by decide +kernel
theorem dX9_forbid_46 : decode cX9_forbid 46 = .ok (.iload_n 1, 1) := by decide +kernel
theorem dX9_forbid_47 : decode cX9_forbid 47 = .ok (.imul, 1) := by decide +kernel
theorem dX9_forbid_48 : decode cX9_forbid 48 = .ok (.iload_n 2, 1) := by decide +kernel
theorem dX9_forbid_49 : decode cX9_forbid 49 = .ok (.iadd, 1) := by decide +kernel
theorem dX9_forbid_50 : decode cX9_forbid 50 = .ok (.iaload, 1) := by decide +kernel
theorem dX9_forbid_51 : decode cX9_forbid 51 = .ok (.iload 4, 2) := by decide +kernel
theorem dX9_forbid_53 : decode cX9_forbid 53 = .ok (.if_icmp .eq 7, 3) := by decide +kernel
theorem dX9_forbid_56 : decode cX9_forbid 56 = .ok (.iconst 1, 1) := by decide +kernel
theorem dX9_forbid_57 : decode cX9_forbid 57 = .ok (.goto 4, 3) := by decide +kernel
theorem dX9_forbid_60 : decode cX9_forbid 60 = .ok (.iconst 0, 1) := by decide +kernel
theorem dX9_forbid_61 : decode cX9_forbid 61 = .ok (.istore 5, 2) := by decide +kernel
theorem dX9_forbid_63 : decode cX9_forbid 63 = .ok (.iload 5, 2) := by decide +kernel
theorem dX9_forbid_65 : decode cX9_forbid 65 = .ok (.ifCond .eq 15, 3) := by decide +kernel
theorem dX9_forbid_68 : decode cX9_forbid 68 = .ok (.aload_n 0, 1) := by decide +kernel
theorem dX9_forbid_69 : decode cX9_forbid 69 = .ok (.getfield 23, 3) := by decide +kernel
theorem dX9_forbid_72 : decode cX9_forbid 72 = .ok (.iconst 4, 1) := by decide +kernel
theorem dX9_forbid_73 : decode cX9_forbid 73 = .ok (.iload_n 1, 1) := by decide +kernel
theorem dX9_forbid_74 : decode cX9_forbid 74 = .ok (.imul, 1) := by decide +kernel
theorem dX9_forbid_75 : decode cX9_forbid 75 = .ok (.iload_n 2, 1) := by decide +kernel
theorem dX9_forbid_76 : decode cX9_forbid 76 = .ok (.iadd, 1) := by decide +kernel
theorem dX9_forbid_77 : decode cX9_forbid 77 = .ok (.iload 4, 2) := by decide +kernel
theorem dX9_forbid_79 : decode cX9_forbid 79 = .ok (.iastore, 1) := by decide +kernel
theorem dX9_forbid_80 : decode cX9_forbid 80 = .ok (.iload 5, 2) := by decide +kernel
theorem dX9_forbid_82 : decode cX9_forbid 82 = .ok (.ireturn, 1) := by decide +kernel
set_option maxRecDepth 20000 in
theorem ggX9_setRun_X9_in : GoodIn wsX9_setRun wsX9_in := goodIn_r _ [6] (by decide +kernel) (by decide +kernel)
set_option maxRecDepth 20000 in
theorem gX9_setRun_X9_in : GoodIn wsX9_setRun (va_wsS RX9 50 yX9_in wsX9_in) := goodIn_app (goodIn_of _ (by decide +kernel)) ggX9_setRun_X9_in
set_option maxRecDepth 20000 in
theorem ggX9_setRun_X9_fails : GoodIn wsX9_setRun wsX9_fails := goodIn_r _ [10, 1, 11, 12, 13, 14, 15, 16, 17, 18, 19, 20, 21, 22, 23, 24, 25] (by decide +kernel) (by decide +kernel)
set_option maxRecDepth 20000 in
theorem gX9_setRun_X9_fails : GoodIn wsX9_setRun (wsV RX9 66 RX9 yX9_fails wsX9_fails) := goodIn_app (goodIn_of _ (by decide +kernel)) ggX9_setRun_X9_fails
theorem dX9_setRun_0 : decode cX9_setRun 0 = .ok (.aload_n 0, 1) := by decide +kernel
theorem dX9_setRun_1 : decode cX9_setRun 1 = .ok (.iconst 0, 1) := by decide +kernel
theorem dX9_setRun_2 : decode cX9_setRun 2 = .ok (.putfield 44, 3) := by decide +kernel
theorem dX9_setRun_5 : decode cX9_setRun 5 = .ok (.iload_n 1, 1) := by decide +kernel
theorem dX9_setRun_6 : decode cX9_setRun 6 = .ok (.iconst 1, 1) := by decide +kernel
theorem dX9_setRun_7 : decode cX9_setRun 7 = .ok (.bipush 14, 2) := by decide +kernel
theorem dX9_setRun_9 : decode cX9_setRun 9 = .ok (.invokestatic 50, 3) := by decide +kernel
theorem dX9_setRun_12 : decode cX9_setRun 12 = .ok (.ifCond .ne 9, 3) := by decide +kernel
theorem dX9_setRun_15 : decode cX9_setRun 15 = .ok (.aload_n 0, 1) := by decide +kernel
theorem dX9_setRun_16 : decode cX9_setRun 16 = .ok (.iconst 1, 1) := by decide +kernel
theorem dX9_setRun_17 : decode cX9_setRun 17 = .ok (.invokevirtual 66, 3) := by decide +kernel
theorem dX9_setRun_20 : decode cX9_setRun 20 = .ok (.ireturn, 1) := by decide +kernel
theorem dX9_setRun_21 : decode cX9_setRun 21 = .ok (.aload_n 0, 1) := by decide +kernel
theorem dX9_setRun_22 : decode cX9_setRun 22 = .ok (.getfield 7, 3) := by decide +kernel
theorem dX9_setRun_25 : decode cX9_setRun 25 = .ok (.istore_n 2, 1) := by decide +kernel
theorem dX9_setRun_26 : decode cX9_setRun 26 = .ok (.aload_n 0, 1) := by decide +kernel
theorem dX9_setRun_27 : decode cX9_setRun 27 = .ok (.iload_n 1, 1) := by decide +kernel
theorem dX9_setRun_28 : decode cX9_setRun 28 = .ok (.putfield 7, 3) := by decide +kernel
theorem dX9_setRun_31 : decode cX9_setRun 31 = .ok (.iload_n 2, 1) := by decide +kernel
theorem dX9_setRun_32 : decode cX9_setRun 32 = .ok (.ireturn, 1) := by decide +kernel
set_option maxRecDepth 20000 in
theorem ggX9_wish_X9_isPerson : GoodIn wsX9_wish wsX9_isPerson := goodIn_r _ [7, 8, 9, 10, 6, 11, 15, 16, 17, 18, 19, 20, 21, 22, 23, 24, 25, 26, 27, 28, 29] (by decide +kernel) (by decide +kernel)
set_option maxRecDepth 20000 in
theorem gX9_wish_X9_isPerson : GoodIn wsX9_wish (wsV RX9 54 RX9 yX9_isPerson wsX9_isPerson) := goodIn_app (goodIn_of _ (by decide +kernel)) ggX9_wish_X9_isPerson
set_option maxRecDepth 20000 in
theorem ggX9_wish_X9_isDay : GoodIn wsX9_wish wsX9_isDay := goodIn_r _ [14, 9, 10, 6, 11] (by decide +kernel) (by decide +kernel)
set_option maxRecDepth 20000 in
theorem gX9_wish_X9_isDay : GoodIn wsX9_wish (va_wsS RX9 69 yX9_isDay wsX9_isDay) := goodIn_app (goodIn_of _ (by decide +kernel)) ggX9_wish_X9_isDay
theorem dX9_wish_0 : decode cX9_wish 0 = .ok (.aload_n 0, 1) := by decide +kernel
theorem dX9_wish_1 : decode cX9_wish 1 = .ok (.aload_n 0, 1) := by decide +kernel
theorem dX9_wish_2 : decode cX9_wish 2 = .ok (.iload_n 1, 1) := by decide +kernel
theorem dX9_wish_3 : decode cX9_wish 3 = .ok (.invokevirtual 54, 3) := by decide +kernel
theorem dX9_wish_6 : decode cX9_wish 6 = .ok (.ifCond .eq 14, 3) := by decide +kernel
theorem dX9_wish_9 : decode cX9_wish 9 = .ok (.iload_n 2, 1) := by decide +kernel
theorem dX9_wish_10 : decode cX9_wish 10 = .ok (.invokestatic 69, 3) := by decide +kernel
theorem dX9_wish_13 : decode cX9_wish 13 = .ok (.ifCond .eq 7, 3) := by decide +kernel
theorem dX9_wish_16 : decode cX9_wish 16 = .ok (.iconst 0, 1) := by decide +kernel
theorem dX9_wish_17 : decode cX9_wish 17 = .ok (.goto 4, 3) := by decide +kernel
theorem dX9_wish_20 : decode cX9_wish 20 = .ok (.iconst 1, 1) := by decide +kernel
theorem dX9_wish_21 : decode cX9_wish 21 = .ok (.putfield 44, 3) := by decide +kernel
theorem dX9_wish_24 : decode cX9_wish 24 = .ok (.aload_n 0, 1) := by decide +kernel
theorem dX9_wish_25 : decode cX9_wish 25 = .ok (.getfield 44, 3) := by decide +kernel
theorem dX9_wish_28 : decode cX9_wish 28 = .ok (.ifCond .ne 29, 3) := by decide +kernel
theorem dX9_wish_31 : decode cX9_wish 31 = .ok (.aload_n 0, 1) := by decide +kernel
theorem dX9_wish_32 : decode cX9_wish 32 = .ok (.getfield 32, 3) := by decide +kernel
theorem dX9_wish_35 : decode cX9_wish 35 = .ok (.iload_n 1, 1) := by decide +kernel
theorem dX9_wish_36 : decode cX9_wish 36 = .ok (.iaload, 1) := by decide +kernel
theorem dX9_wish_37 : decode cX9_wish 37 = .ok (.iload_n 2, 1) := by decide +kernel
theorem dX9_wish_38 : decode cX9_wish 38 = .ok (.ishr, 1) := by decide +kernel
theorem dX9_wish_39 : decode cX9_wish 39 = .ok (.iconst 1, 1) := by decide +kernel
theorem dX9_wish_40 : decode cX9_wish 40 = .ok (.iand, 1) := by decide +kernel
theorem dX9_wish_41 : decode cX9_wish 41 = .ok (.iload_n 3, 1) := by decide +kernel
theorem dX9_wish_42 : decode cX9_wish 42 = .ok (.ifCond .eq 7, 3) := by decide +kernel
theorem dX9_wish_45 : decode cX9_wish 45 = .ok (.iconst 1, 1) := by decide +kernel
theorem dX9_wish_46 : decode cX9_wish 46 = .ok (.goto 4, 3) := by decide +kernel
theorem dX9_wish_49 : decode cX9_wish 49 = .ok (.iconst 0, 1) := by decide +kernel
theorem dX9_wish_50 : decode cX9_wish 50 = .ok (.if_icmp .eq 7, 3) := by decide +kernel
theorem dX9_wish_53 : decode cX9_wish 53 = .ok (.iconst 1, 1) := by decide +kernel
theorem dX9_wish_54 : decode cX9_wish 54 = .ok (.goto 4, 3) := by decide +kernel
theorem dX9_wish_57 : decode cX9_wish 57 = .ok (.iconst 0, 1) := by decide +kernel
theorem dX9_wish_58 : decode cX9_wish 58 = .ok (.istore 4, 2) := by decide +kernel
theorem dX9_wish_60 : decode cX9_wish 60 = .ok (.iload 4, 2) := by decide +kernel
theorem dX9_wish_62 : decode cX9_wish 62 = .ok (.ifCond .eq 15, 3) := by decide +kernel
theorem dX9_wish_65 : decode cX9_wish 65 = .ok (.aload_n 0, 1) := by decide +kernel
theorem dX9_wish_66 : decode cX9_wish 66 = .ok (.getfield 32, 3) := by decide +kernel
theorem dX9_wish_69 : decode cX9_wish 69 = .ok (.iload_n 1, 1) := by decide +kernel
theorem dX9_wish_70 : decode cX9_wish 70 = .ok (.dup2, 1) := by decide +kernel
theorem dX9_wish_71 : decode cX9_wish 71 = .ok (.iaload, 1) := by decide +kernel
theorem dX9_wish_72 : decode cX9_wish 72 = .ok (.iconst 1, 1) := by decide +kernel
theorem dX9_wish_73 : decode cX9_wish 73 = .ok (.iload_n 2, 1) := by decide +kernel
theorem dX9_wish_74 : decode cX9_wish 74 = .ok (.ishl, 1) := by decide +kernel
theorem dX9_wish_75 : decode cX9_wish 75 = .ok (.ixor, 1) := by decide +kernel
theorem dX9_wish_76 : decode cX9_wish 76 = .ok (.iastore, 1) := by decide +kernel
theorem dX9_wish_77 : decode cX9_wish 77 = .ok (.iload 4, 2) := by decide +kernel
theorem dX9_wish_79 : decode cX9_wish 79 = .ok (.ireturn, 1) := by decide +kernel
set_option maxRecDepth 20000 in
theorem ggX9_fix_X9_isPerson : GoodIn wsX9_fix wsX9_isPerson := goodIn_r _ [7, 8, 9, 10, 6, 11, 19, 20, 21, 22, 23, 24, 25, 26, 27, 28, 29, 30, 31, 32, 33] (by decide +kernel) (by decide +kernel)
set_option maxRecDepth 20000 in
theorem gX9_fix_X9_isPerson : GoodIn wsX9_fix (wsV RX9 54 RX9 yX9_isPerson wsX9_isPerson) := goodIn_app (goodIn_of _ (by decide +kernel)) ggX9_fix_X9_isPerson
set_option maxRecDepth 20000 in
theorem ggX9_fix_X9_isDay : GoodIn wsX9_fix wsX9_isDay := goodIn_r _ [14, 9, 10, 6, 11] (by decide +kernel) (by decide +kernel)
set_option maxRecDepth 20000 in
theorem gX9_fix_X9_isDay : GoodIn wsX9_fix (va_wsS RX9 69 yX9_isDay wsX9_isDay) := goodIn_app (goodIn_of _ (by decide +kernel)) ggX9_fix_X9_isDay
set_option maxRecDepth 20000 in
theorem ggX9_fix_X9_fails : GoodIn wsX9_fix wsX9_fails := goodIn_r _ [18, 1, 19, 20, 21, 22, 23, 24, 25, 26, 27, 28, 29, 30, 31, 32, 33] (by decide +kernel) (by decide +kernel)
set_option maxRecDepth 20000 in
theorem gX9_fix_X9_fails : GoodIn wsX9_fix (wsV RX9 66 RX9 yX9_fails wsX9_fails) := goodIn_app (goodIn_of _ (by decide +kernel)) ggX9_fix_X9_fails
set_option maxRecDepth 20000 in
theorem ggX9_fix_X9_in : GoodIn wsX9_fix wsX9_in := goodIn_r _ [11] (by decide +kernel) (by decide +kernel)
set_option maxRecDepth 20000 in
theorem gX9_fix_X9_in : GoodIn wsX9_fix (va_wsS RX9 50 yX9_in wsX9_in) := goodIn_app (goodIn_of _ (by decide +kernel)) ggX9_fix_X9_in
theorem dX9_fix_0 : decode cX9_fix 0 = .ok (.aload_n 0, 1) := by decide +kernel
theorem dX9_fix_1 : decode cX9_fix 1 = .ok (.iconst 0, 1) := by decide +kernel
theorem dX9_fix_2 : decode cX9_fix 2 = .ok (.putfield 44, 3) := by decide +kernel
theorem dX9_fix_5 : decode cX9_fix 5 = .ok (.aload_n 0, 1) := by decide +kernel
theorem dX9_fix_6 : decode cX9_fix 6 = .ok (.iload_n 1, 1) := by decide +kernel
theorem dX9_fix_7 : decode cX9_fix 7 = .ok (.invokevirtual 54, 3) := by decide +kernel
theorem dX9_fix_10 : decode cX9_fix 10 = .ok (.ifCond .eq 10, 3) := by decide +kernel
theorem dX9_fix_13 : decode cX9_fix 13 = .ok (.iload_n 2, 1) := by decide +kernel
theorem dX9_fix_14 : decode cX9_fix 14 = .ok (.invokestatic 69, 3) := by decide +kernel
theorem dX9_fix_17 : decode cX9_fix 17 = .ok (.ifCond .ne 9, 3) := by decide +kernel
theorem dX9_fix_20 : decode cX9_fix 20 = .ok (.aload_n 0, 1) := by decide +kernel
theorem dX9_fix_21 : decode cX9_fix 21 = .ok (.iconst 1, 1) := by decide +kernel
theorem dX9_fix_22 : decode cX9_fix 22 = .ok (.invokevirtual 66, 3) := by decide +kernel
theorem dX9_fix_25 : decode cX9_fix 25 = .ok (.ireturn, 1) := by decide +kernel
theorem dX9_fix_26 : decode cX9_fix 26 = .ok (.iload_n 3, 1) := by decide +kernel
theorem dX9_fix_27 : decode cX9_fix 27 = .ok (.iconst (-1), 1) := by decide +kernel
theorem dX9_fix_28 : decode cX9_fix 28 = .ok (.iconst 3, 1) := by decide +kernel
theorem dX9_fix_29 : decode cX9_fix 29 = .ok (.invokestatic 50, 3) := by decide +kernel
theorem dX9_fix_32 : decode cX9_fix 32 = .ok (.ifCond .ne 9, 3) := by decide +kernel
theorem dX9_fix_35 : decode cX9_fix 35 = .ok (.aload_n 0, 1) := by decide +kernel
theorem dX9_fix_36 : decode cX9_fix 36 = .ok (.iconst 2, 1) := by decide +kernel
theorem dX9_fix_37 : decode cX9_fix 37 = .ok (.invokevirtual 66, 3) := by decide +kernel
theorem dX9_fix_40 : decode cX9_fix 40 = .ok (.ireturn, 1) := by decide +kernel
theorem dX9_fix_41 : decode cX9_fix 41 = .ok (.aload_n 0, 1) := by decide +kernel
theorem dX9_fix_42 : decode cX9_fix 42 = .ok (.getfield 29, 3) := by decide +kernel
theorem dX9_fix_45 : decode cX9_fix 45 = .ok (.bipush 7, 2) := by decide +kernel
theorem dX9_fix_47 : decode cX9_fix 47 = .ok (.iload_n 1, 1) := by decide +kernel
theorem dX9_fix_48 : decode cX9_fix 48 = .ok (.imul, 1) := by decide +kernel
theorem dX9_fix_49 : decode cX9_fix 49 = .ok (.iload_n 2, 1) := by decide +kernel
theorem dX9_fix_50 : decode cX9_fix 50 = .ok (.iadd, 1) := by decide +kernel
theorem dX9_fix_51 : decode cX9_fix 51 = .ok (.iaload, 1) := by decide +kernel
theorem dX9_fix_52 : decode cX9_fix 52 = .ok (.istore 4, 2) := by decide +kernel
theorem dX9_fix_54 : decode cX9_fix 54 = .ok (.aload_n 0, 1) := by decide +kernel
theorem dX9_fix_55 : decode cX9_fix 55 = .ok (.getfield 29, 3) := by decide +kernel
theorem dX9_fix_58 : decode cX9_fix 58 = .ok (.bipush 7, 2) := by decide +kernel
theorem dX9_fix_60 : decode cX9_fix 60 = .ok (.iload_n 1, 1) := by decide +kernel
theorem dX9_fix_61 : decode cX9_fix 61 = .ok (.imul, 1) := by decide +kernel
theorem dX9_fix_62 : decode cX9_fix 62 = .ok (.iload_n 2, 1) := by decide +kernel
theorem dX9_fix_63 : decode cX9_fix 63 = .ok (.iadd, 1) := by decide +kernel
theorem dX9_fix_64 : decode cX9_fix 64 = .ok (.iload_n 3, 1) := by decide +kernel
theorem dX9_fix_65 : decode cX9_fix 65 = .ok (.iastore, 1) := by decide +kernel
theorem dX9_fix_66 : decode cX9_fix 66 = .ok (.iload 4, 2) := by decide +kernel
theorem dX9_fix_68 : decode cX9_fix 68 = .ok (.ireturn, 1) := by decide +kernel
theorem dX9_countEntries_0 : decode cX9_countEntries 0 = .ok (.iconst 0, 1) := by decide +kernel
theorem dX9_countEntries_1 : decode cX9_countEntries 1 = .ok (.istore 4, 2) := by decide +kernel
theorem dX9_countEntries_3 : decode cX9_countEntries 3 = .ok (.iconst 0, 1) := by decide +kernel
theorem dX9_countEntries_4 : decode cX9_countEntries 4 = .ok (.istore 5, 2) := by decide +kernel
theorem dX9_countEntries_6 : decode cX9_countEntries 6 = .ok (.iload 5, 2) := by decide +kernel
theorem dX9_countEntries_8 : decode cX9_countEntries 8 = .ok (.aload_n 0, 1) := by decide +kernel
theorem dX9_countEntries_9 : decode cX9_countEntries 9 = .ok (.getfield 47, 3) := by decide +kernel
theorem dX9_countEntries_12 : decode cX9_countEntries 12 = .ok (.if_icmp .ge 41, 3) := by decide +kernel
theorem dX9_countEntries_15 : decode cX9_countEntries 15 = .ok (.iload 4, 2) := by decide +kernel
theorem dX9_countEntries_17 : decode cX9_countEntries 17 = .ok (.iload 5, 2) := by decide +kernel
theorem dX9_countEntries_19 : decode cX9_countEntries 19 = .ok (.iload_n 3, 1) := by decide +kernel
theorem dX9_countEntries_20 : decode cX9_countEntries 20 = .ok (.if_icmp .eq 23, 3) := by decide +kernel
theorem dX9_countEntries_23 : decode cX9_countEntries 23 = .ok (.aload_n 0, 1) := by decide +kernel
theorem dX9_countEntries_24 : decode cX9_countEntries 24 = .ok (.getfield 26, 3) := by decide +kernel
theorem dX9_countEntries_27 : decode cX9_countEntries 27 = .ok (.bipush 7, 2) := by decide +kernel
theorem dX9_countEntries_29 : decode cX9_countEntries 29 = .ok (.iload 5, 2) := by decide +kernel
theorem dX9_countEntries_31 : decode cX9_countEntries 31 = .ok (.imul, 1) := by decide +kernel
theorem dX9_countEntries_32 : decode cX9_countEntries 32 = .ok (.iload_n 1, 1) := by decide +kernel
theorem dX9_countEntries_33 : decode cX9_countEntries 33 = .ok (.iadd, 1) := by decide +kernel
theorem dX9_countEntries_34 : decode cX9_countEntries 34 = .ok (.iaload, 1) := by decide +kernel
theorem dX9_countEntries_35 : decode cX9_countEntries 35 = .ok (.iload_n 2, 1) := by decide +kernel
theorem dX9_countEntries_36 : decode cX9_countEntries 36 = .ok (.if_icmp .ne 7, 3) := by decide +kernel
theorem dX9_countEntries_39 : decode cX9_countEntries 39 = .ok (.iconst 1, 1) := by decide +kernel
theorem dX9_countEntries_40 : decode cX9_countEntries 40 = .ok (.goto 4, 3) := by decide +kernel
theorem dX9_countEntries_43 : decode cX9_countEntries 43 = .ok (.iconst 0, 1) := by decide +kernel
theorem dX9_countEntries_44 : decode cX9_countEntries 44 = .ok (.iadd, 1) := by decide +kernel
theorem dX9_countEntries_45 : decode cX9_countEntries 45 = .ok (.istore 4, 2) := by decide +kernel
theorem dX9_countEntries_47 : decode cX9_countEntries 47 = .ok (.iinc 5 1, 3) := by decide +kernel
theorem dX9_countEntries_50 : decode cX9_countEntries 50 = .ok (.goto (-44), 3) := by decide +kernel
theorem dX9_countEntries_53 : decode cX9_countEntries 53 = .ok (.iload 4, 2) := by decide +kernel
theorem dX9_countEntries_55 : decode cX9_countEntries 55 = .ok (.ireturn, 1) := by decide +kernel
set_option maxRecDepth 20000 in
theorem ggX9_gapOf_X9_countEntries : GoodIn wsX9_gapOf wsX9_countEntries := goodIn_r _ [6, 7, 8, 9, 10, 11, 12, 13, 14, 15, 16, 17, 18, 19, 20, 21, 22, 23] (by decide +kernel) (by decide +kernel)
set_option maxRecDepth 20000 in
theorem gX9_gapOf_X9_countEntries : GoodIn wsX9_gapOf (wsV RX9 75 RX9 yX9_countEntries wsX9_countEntries) := goodIn_app (goodIn_of _ (by decide +kernel)) ggX9_gapOf_X9_countEntries
theorem dX9_gapOf_0 : decode cX9_gapOf 0 = .ok (.aload_n 0, 1) := by decide +kernel
theorem dX9_gapOf_1 : decode cX9_gapOf 1 = .ok (.getfield 20, 3) := by decide +kernel
theorem dX9_gapOf_4 : decode cX9_gapOf 4 = .ok (.iconst 4, 1) := by decide +kernel
theorem dX9_gapOf_5 : decode cX9_gapOf 5 = .ok (.iload_n 1, 1) := by decide +kernel
theorem dX9_gapOf_6 : decode cX9_gapOf 6 = .ok (.imul, 1) := by decide +kernel
theorem dX9_gapOf_7 : decode cX9_gapOf 7 = .ok (.iload_n 2, 1) := by decide +kernel
theorem dX9_gapOf_8 : decode cX9_gapOf 8 = .ok (.iadd, 1) := by decide +kernel
theorem dX9_gapOf_9 : decode cX9_gapOf 9 = .ok (.iaload, 1) := by decide +kernel
theorem dX9_gapOf_10 : decode cX9_gapOf 10 = .ok (.aload_n 0, 1) := by decide +kernel
theorem dX9_gapOf_11 : decode cX9_gapOf 11 = .ok (.iload_n 1, 1) := by decide +kernel
theorem dX9_gapOf_12 : decode cX9_gapOf 12 = .ok (.iload_n 2, 1) := by decide +kernel
theorem dX9_gapOf_13 : decode cX9_gapOf 13 = .ok (.iload_n 3, 1) := by decide +kernel
theorem dX9_gapOf_14 : decode cX9_gapOf 14 = .ok (.invokevirtual 75, 3) := by decide +kernel
theorem dX9_gapOf_17 : decode cX9_gapOf 17 = .ok (.isub, 1) := by decide +kernel
theorem dX9_gapOf_18 : decode cX9_gapOf 18 = .ok (.istore 4, 2) := by decide +kernel
theorem dX9_gapOf_20 : decode cX9_gapOf 20 = .ok (.iload 4, 2) := by decide +kernel
theorem dX9_gapOf_22 : decode cX9_gapOf 22 = .ok (.ifCond .le 8, 3) := by decide +kernel
theorem dX9_gapOf_25 : decode cX9_gapOf 25 = .ok (.iload 4, 2) := by decide +kernel
theorem dX9_gapOf_27 : decode cX9_gapOf 27 = .ok (.goto 4, 3) := by decide +kernel
theorem dX9_gapOf_30 : decode cX9_gapOf 30 = .ok (.iconst 0, 1) := by decide +kernel
theorem dX9_gapOf_31 : decode cX9_gapOf 31 = .ok (.ireturn, 1) := by decide +kernel
set_option maxRecDepth 20000 in
theorem ggX9_allGaps_X9_gapOf : GoodIn wsX9_allGaps wsX9_gapOf := goodIn_r _ [5, 6, 7, 8, 9, 4, 10, 11, 12, 13, 14, 15, 16, 17, 18, 19, 20, 21, 22, 23, 24, 25, 26, 27] (by decide +kernel) (by decide +kernel)
set_option maxRecDepth 20000 in
theorem gX9_allGaps_X9_gapOf : GoodIn wsX9_allGaps (wsV RX9 79 RX9 yX9_gapOf wsX9_gapOf) := goodIn_app (goodIn_of _ (by decide +kernel)) ggX9_allGaps_X9_gapOf
theorem dX9_allGaps_0 : decode cX9_allGaps 0 = .ok (.iconst 0, 1) := by decide +kernel
theorem dX9_allGaps_1 : decode cX9_allGaps 1 = .ok (.istore_n 1, 1) := by decide +kernel
theorem dX9_allGaps_2 : decode cX9_allGaps 2 = .ok (.iconst 0, 1) := by decide +kernel
theorem dX9_allGaps_3 : decode cX9_allGaps 3 = .ok (.istore_n 2, 1) := by decide +kernel
theorem dX9_allGaps_4 : decode cX9_allGaps 4 = .ok (.iload_n 2, 1) := by decide +kernel
theorem dX9_allGaps_5 : decode cX9_allGaps 5 = .ok (.bipush 7, 2) := by decide +kernel
theorem dX9_allGaps_7 : decode cX9_allGaps 7 = .ok (.if_icmp .ge 32, 3) := by decide +kernel
theorem dX9_allGaps_10 : decode cX9_allGaps 10 = .ok (.iconst 1, 1) := by decide +kernel
theorem dX9_allGaps_11 : decode cX9_allGaps 11 = .ok (.istore_n 3, 1) := by decide +kernel
theorem dX9_allGaps_12 : decode cX9_allGaps 12 = .ok (.iload_n 3, 1) := by decide +kernel
theorem dX9_allGaps_13 : decode cX9_allGaps 13 = .ok (.iconst 3, 1) := by decide +kernel
theorem dX9_allGaps_14 : decode cX9_allGaps 14 = .ok (.if_icmp .gt 19, 3) := by decide +kernel
theorem dX9_allGaps_17 : decode cX9_allGaps 17 = .ok (.iload_n 1, 1) := by decide +kernel
theorem dX9_allGaps_18 : decode cX9_allGaps 18 = .ok (.aload_n 0, 1) := by decide +kernel
theorem dX9_allGaps_19 : decode cX9_allGaps 19 = .ok (.iload_n 2, 1) := by decide +kernel
theorem dX9_allGaps_20 : decode cX9_allGaps 20 = .ok (.iload_n 3, 1) := by decide +kernel
theorem dX9_allGaps_21 : decode cX9_allGaps 21 = .ok (.iconst (-1), 1) := by decide +kernel
theorem dX9_allGaps_22 : decode cX9_allGaps 22 = .ok (.invokevirtual 79, 3) := by decide +kernel
theorem dX9_allGaps_25 : decode cX9_allGaps 25 = .ok (.iadd, 1) := by decide +kernel
theorem dX9_allGaps_26 : decode cX9_allGaps 26 = .ok (.istore_n 1, 1) := by decide +kernel
theorem dX9_allGaps_27 : decode cX9_allGaps 27 = .ok (.iinc 3 1, 3) := by decide +kernel
theorem dX9_allGaps_30 : decode cX9_allGaps 30 = .ok (.goto (-18), 3) := by decide +kernel
theorem dX9_allGaps_33 : decode cX9_allGaps 33 = .ok (.iinc 2 1, 3) := by decide +kernel
theorem dX9_allGaps_36 : decode cX9_allGaps 36 = .ok (.goto (-32), 3) := by decide +kernel
theorem dX9_allGaps_39 : decode cX9_allGaps 39 = .ok (.iload_n 1, 1) := by decide +kernel
theorem dX9_allGaps_40 : decode cX9_allGaps 40 = .ok (.ireturn, 1) := by decide +kernel
set_option maxRecDepth 20000 in
theorem ggX9_fills_X9_gapOf : GoodIn wsX9_fills wsX9_gapOf := goodIn_r _ [5, 6, 7, 8, 9, 4, 10, 11, 12, 13, 14, 15, 16, 17, 18, 19, 20, 21, 22, 23, 24, 25, 26, 27] (by decide +kernel) (by decide +kernel)
set_option maxRecDepth 20000 in
theorem gX9_fills_X9_gapOf : GoodIn wsX9_fills (wsV RX9 79 RX9 yX9_gapOf wsX9_gapOf) := goodIn_app (goodIn_of _ (by decide +kernel)) ggX9_fills_X9_gapOf
theorem dX9_fills_0 : decode cX9_fills 0 = .ok (.iconst 0, 1) := by decide +kernel
theorem dX9_fills_1 : decode cX9_fills 1 = .ok (.istore_n 2, 1) := by decide +kernel
theorem dX9_fills_2 : decode cX9_fills 2 = .ok (.iconst 0, 1) := by decide +kernel
theorem dX9_fills_3 : decode cX9_fills 3 = .ok (.istore_n 3, 1) := by decide +kernel
theorem dX9_fills_4 : decode cX9_fills 4 = .ok (.iload_n 3, 1) := by decide +kernel
theorem dX9_fills_5 : decode cX9_fills 5 = .ok (.bipush 7, 2) := by decide +kernel
theorem dX9_fills_7 : decode cX9_fills 7 = .ok (.if_icmp .ge 50, 3) := by decide +kernel
theorem dX9_fills_10 : decode cX9_fills 10 = .ok (.iconst 1, 1) := by decide +kernel
theorem dX9_fills_11 : decode cX9_fills 11 = .ok (.istore 4, 2) := by decide +kernel
theorem dX9_fills_13 : decode cX9_fills 13 = .ok (.iload 4, 2) := by decide +kernel
theorem dX9_fills_15 : decode cX9_fills 15 = .ok (.iconst 3, 1) := by decide +kernel
theorem dX9_fills_16 : decode cX9_fills 16 = .ok (.if_icmp .gt 35, 3) := by decide +kernel
theorem dX9_fills_19 : decode cX9_fills 19 = .ok (.iload_n 2, 1) := by decide +kernel
theorem dX9_fills_20 : decode cX9_fills 20 = .ok (.aload_n 0, 1) := by decide +kernel
theorem dX9_fills_21 : decode cX9_fills 21 = .ok (.iload_n 3, 1) := by decide +kernel
theorem dX9_fills_22 : decode cX9_fills 22 = .ok (.iload 4, 2) := by decide +kernel
theorem dX9_fills_24 : decode cX9_fills 24 = .ok (.iload_n 1, 1) := by decide +kernel
theorem dX9_fills_25 : decode cX9_fills 25 = .ok (.invokevirtual 79, 3) := by decide +kernel
theorem dX9_fills_28 : decode cX9_fills 28 = .ok (.ifCond .le 14, 3) := by decide +kernel
theorem dX9_fills_31 : decode cX9_fills 31 = .ok (.iconst 1, 1) := by decide +kernel
theorem dX9_fills_32 : decode cX9_fills 32 = .ok (.iconst 4, 1) := by decide +kernel
theorem dX9_fills_33 : decode cX9_fills 33 = .ok (.iload_n 3, 1) := by decide +kernel
theorem dX9_fills_34 : decode cX9_fills 34 = .ok (.imul, 1) := by decide +kernel
theorem dX9_fills_35 : decode cX9_fills 35 = .ok (.iload 4, 2) := by decide +kernel
theorem dX9_fills_37 : decode cX9_fills 37 = .ok (.iadd, 1) := by decide +kernel
theorem dX9_fills_38 : decode cX9_fills 38 = .ok (.ishl, 1) := by decide +kernel
theorem dX9_fills_39 : decode cX9_fills 39 = .ok (.goto 4, 3) := by decide +kernel
theorem dX9_fills_42 : decode cX9_fills 42 = .ok (.iconst 0, 1) := by decide +kernel
theorem dX9_fills_43 : decode cX9_fills 43 = .ok (.ior, 1) := by decide +kernel
theorem dX9_fills_44 : decode cX9_fills 44 = .ok (.istore_n 2, 1) := by decide +kernel
theorem dX9_fills_45 : decode cX9_fills 45 = .ok (.iinc 4 1, 3) := by decide +kernel
theorem dX9_fills_48 : decode cX9_fills 48 = .ok (.goto (-35), 3) := by decide +kernel
theorem dX9_fills_51 : decode cX9_fills 51 = .ok (.iinc 3 1, 3) := by decide +kernel
theorem dX9_fills_54 : decode cX9_fills 54 = .ok (.goto (-50), 3) := by decide +kernel
theorem dX9_fills_57 : decode cX9_fills 57 = .ok (.iload_n 2, 1) := by decide +kernel
theorem dX9_fills_58 : decode cX9_fills 58 = .ok (.ireturn, 1) := by decide +kernel
set_option maxRecDepth 20000 in
theorem ggX9_price_X9_entryOf : GoodIn wsX9_price wsX9_entryOf := goodIn_r _ [6] (by decide +kernel) (by decide +kernel)
set_option maxRecDepth 20000 in
theorem gX9_price_X9_entryOf : GoodIn wsX9_price (va_wsS RX9 58 yX9_entryOf wsX9_entryOf) := goodIn_app (goodIn_of _ (by decide +kernel)) ggX9_price_X9_entryOf
set_option maxRecDepth 20000 in
theorem ggX9_price_X9_weekendOf : GoodIn wsX9_price wsX9_weekendOf := goodIn_r _ [9, 3, 4, 5, 6] (by decide +kernel) (by decide +kernel)
set_option maxRecDepth 20000 in
theorem gX9_price_X9_weekendOf : GoodIn wsX9_price (va_wsS RX9 82 yX9_weekendOf wsX9_weekendOf) := goodIn_app (goodIn_of _ (by decide +kernel)) ggX9_price_X9_weekendOf
set_option maxRecDepth 20000 in
theorem ggX9_price_X9_countShifts : GoodIn wsX9_price wsX9_countShifts := goodIn_r _ [12, 3, 4, 5, 6] (by decide +kernel) (by decide +kernel)
set_option maxRecDepth 20000 in
theorem gX9_price_X9_countShifts : GoodIn wsX9_price (va_wsS RX9 62 yX9_countShifts wsX9_countShifts) := goodIn_app (goodIn_of _ (by decide +kernel)) ggX9_price_X9_countShifts
set_option maxRecDepth 20000 in
theorem ggX9_price_X9_brokenBy : GoodIn wsX9_price wsX9_brokenBy := goodIn_r _ [16, 17, 3, 4, 5, 6, 18, 19, 20, 21, 22, 23, 24, 25, 26, 27, 28, 29, 30, 31, 32] (by decide +kernel) (by decide +kernel)
set_option maxRecDepth 20000 in
theorem gX9_price_X9_brokenBy : GoodIn wsX9_price (wsV RX9 86 RX9 yX9_brokenBy wsX9_brokenBy) := goodIn_app (goodIn_of _ (by decide +kernel)) ggX9_price_X9_brokenBy
theorem dX9_price_0 : decode cX9_price 0 = .ok (.bipush 7, 2) := by decide +kernel
theorem dX9_price_2 : decode cX9_price 2 = .ok (.istore 4, 2) := by decide +kernel
theorem dX9_price_4 : decode cX9_price 4 = .ok (.iconst 0, 1) := by decide +kernel
theorem dX9_price_5 : decode cX9_price 5 = .ok (.istore 5, 2) := by decide +kernel
theorem dX9_price_7 : decode cX9_price 7 = .ok (.iload 5, 2) := by decide +kernel
theorem dX9_price_9 : decode cX9_price 9 = .ok (.bipush 7, 2) := by decide +kernel
theorem dX9_price_11 : decode cX9_price 11 = .ok (.if_icmp .ge 47, 3) := by decide +kernel
theorem dX9_price_14 : decode cX9_price 14 = .ok (.iload_n 2, 1) := by decide +kernel
theorem dX9_price_15 : decode cX9_price 15 = .ok (.iload 5, 2) := by decide +kernel
theorem dX9_price_17 : decode cX9_price 17 = .ok (.invokestatic 58, 3) := by decide +kernel
theorem dX9_price_20 : decode cX9_price 20 = .ok (.istore 6, 2) := by decide +kernel
theorem dX9_price_22 : decode cX9_price 22 = .ok (.iload 4, 2) := by decide +kernel
theorem dX9_price_24 : decode cX9_price 24 = .ok (.iload 6, 2) := by decide +kernel
theorem dX9_price_26 : decode cX9_price 26 = .ok (.ifCond .le 22, 3) := by decide +kernel
theorem dX9_price_29 : decode cX9_price 29 = .ok (.iload_n 3, 1) := by decide +kernel
theorem dX9_price_30 : decode cX9_price 30 = .ok (.iconst 4, 1) := by decide +kernel
theorem dX9_price_31 : decode cX9_price 31 = .ok (.iload 5, 2) := by decide +kernel
theorem dX9_price_33 : decode cX9_price 33 = .ok (.imul, 1) := by decide +kernel
theorem dX9_price_34 : decode cX9_price 34 = .ok (.iload 6, 2) := by decide +kernel
theorem dX9_price_36 : decode cX9_price 36 = .ok (.iadd, 1) := by decide +kernel
theorem dX9_price_37 : decode cX9_price 37 = .ok (.ishr, 1) := by decide +kernel
theorem dX9_price_38 : decode cX9_price 38 = .ok (.iconst 1, 1) := by decide +kernel
theorem dX9_price_39 : decode cX9_price 39 = .ok (.iand, 1) := by decide +kernel
theorem dX9_price_40 : decode cX9_price 40 = .ok (.iconst 1, 1) := by decide +kernel
theorem dX9_price_41 : decode cX9_price 41 = .ok (.if_icmp .ne 7, 3) := by decide +kernel
theorem dX9_price_44 : decode cX9_price 44 = .ok (.iconst 1, 1) := by decide +kernel
theorem dX9_price_45 : decode cX9_price 45 = .ok (.goto 4, 3) := by decide +kernel
theorem dX9_price_48 : decode cX9_price 48 = .ok (.iconst 0, 1) := by decide +kernel
theorem dX9_price_49 : decode cX9_price 49 = .ok (.isub, 1) := by decide +kernel
theorem dX9_price_50 : decode cX9_price 50 = .ok (.istore 4, 2) := by decide +kernel
theorem dX9_price_52 : decode cX9_price 52 = .ok (.iinc 5 1, 3) := by decide +kernel
theorem dX9_price_55 : decode cX9_price 55 = .ok (.goto (-48), 3) := by decide +kernel
theorem dX9_price_58 : decode cX9_price 58 = .ok (.iload_n 2, 1) := by decide +kernel
theorem dX9_price_59 : decode cX9_price 59 = .ok (.invokestatic 82, 3) := by decide +kernel
theorem dX9_price_62 : decode cX9_price 62 = .ok (.aload_n 0, 1) := by decide +kernel
theorem dX9_price_63 : decode cX9_price 63 = .ok (.getfield 41, 3) := by decide +kernel
theorem dX9_price_66 : decode cX9_price 66 = .ok (.iload_n 1, 1) := by decide +kernel
theorem dX9_price_67 : decode cX9_price 67 = .ok (.iaload, 1) := by decide +kernel
theorem dX9_price_68 : decode cX9_price 68 = .ok (.imul, 1) := by decide +kernel
theorem dX9_price_69 : decode cX9_price 69 = .ok (.istore 5, 2) := by decide +kernel
theorem dX9_price_71 : decode cX9_price 71 = .ok (.iload 4, 2) := by decide +kernel
theorem dX9_price_73 : decode cX9_price 73 = .ok (.bipush 8, 2) := by decide +kernel
theorem dX9_price_75 : decode cX9_price 75 = .ok (.imul, 1) := by decide +kernel
theorem dX9_price_76 : decode cX9_price 76 = .ok (.iload_n 2, 1) := by decide +kernel
theorem dX9_price_77 : decode cX9_price 77 = .ok (.invokestatic 62, 3) := by decide +kernel
theorem dX9_price_80 : decode cX9_price 80 = .ok (.iadd, 1) := by decide +kernel
theorem dX9_price_81 : decode cX9_price 81 = .ok (.ldc 85, 2) := by decide +kernel
theorem dX9_price_83 : decode cX9_price 83 = .ok (.imul, 1) := by decide +kernel
theorem dX9_price_84 : decode cX9_price 84 = .ok (.iload 5, 2) := by decide +kernel
theorem dX9_price_86 : decode cX9_price 86 = .ok (.iadd, 1) := by decide +kernel
theorem dX9_price_87 : decode cX9_price 87 = .ok (.bipush 8, 2) := by decide +kernel
theorem dX9_price_89 : decode cX9_price 89 = .ok (.imul, 1) := by decide +kernel
theorem dX9_price_90 : decode cX9_price 90 = .ok (.aload_n 0, 1) := by decide +kernel
theorem dX9_price_91 : decode cX9_price 91 = .ok (.iload_n 1, 1) := by decide +kernel
theorem dX9_price_92 : decode cX9_price 92 = .ok (.iload_n 2, 1) := by decide +kernel
theorem dX9_price_93 : decode cX9_price 93 = .ok (.invokevirtual 86, 3) := by decide +kernel
theorem dX9_price_96 : decode cX9_price 96 = .ok (.iadd, 1) := by decide +kernel
theorem dX9_price_97 : decode cX9_price 97 = .ok (.ireturn, 1) := by decide +kernel
set_option maxRecDepth 20000 in
theorem ggX9_choice_X9_fills : GoodIn wsX9_choice wsX9_fills := goodIn_r _ [5, 6, 7, 8, 4, 9, 10, 11, 12, 13, 14, 15, 16, 48, 49, 50, 51, 52, 53, 54, 55, 56, 57, 58, 59, 60, 61, 62] (by decide +kernel) (by decide +kernel)
set_option maxRecDepth 20000 in
theorem gX9_choice_X9_fills : GoodIn wsX9_choice (wsV RX9 89 RX9 yX9_fills wsX9_fills) := goodIn_app (goodIn_of _ (by decide +kernel)) ggX9_choice_X9_fills
set_option maxRecDepth 20000 in
theorem ggX9_choice_X9_isPossible : GoodIn wsX9_choice wsX9_isPossible := goodIn_r _ [20, 21, 22, 23, 24, 25, 26, 27, 28, 29, 4, 30, 31, 32, 33, 48, 49, 50, 51, 52, 53, 54, 55, 56, 57, 58, 59, 60, 61, 62] (by decide +kernel) (by decide +kernel)
set_option maxRecDepth 20000 in
theorem gX9_choice_X9_isPossible : GoodIn wsX9_choice (wsV RX9 92 RX9 yX9_isPossible wsX9_isPossible) := goodIn_app (goodIn_of _ (by decide +kernel)) ggX9_choice_X9_isPossible
set_option maxRecDepth 20000 in
theorem ggX9_choice_X9_price : GoodIn wsX9_choice wsX9_price := goodIn_r _ [37, 38, 39, 31, 32, 4, 33, 40, 41, 42, 28, 29, 30, 43, 44, 45, 46, 47, 48, 49, 50, 51, 52, 53, 54, 55, 56, 57, 58, 59, 60, 61, 62] (by decide +kernel) (by decide +kernel)
set_option maxRecDepth 20000 in
theorem gX9_choice_X9_price : GoodIn wsX9_choice (wsV RX9 96 RX9 yX9_price wsX9_price) := goodIn_app (goodIn_of _ (by decide +kernel)) ggX9_choice_X9_price
theorem dX9_choice_0 : decode cX9_choice 0 = .ok (.aload_n 0, 1) := by decide +kernel
theorem dX9_choice_1 : decode cX9_choice 1 = .ok (.iload_n 1, 1) := by decide +kernel
theorem dX9_choice_2 : decode cX9_choice 2 = .ok (.invokevirtual 89, 3) := by decide +kernel
theorem dX9_choice_5 : decode cX9_choice 5 = .ok (.istore_n 2, 1) := by decide +kernel
theorem dX9_choice_6 : decode cX9_choice 6 = .ok (.iconst 0, 1) := by decide +kernel
theorem dX9_choice_7 : decode cX9_choice 7 = .ok (.istore_n 3, 1) := by decide +kernel
theorem dX9_choice_8 : decode cX9_choice 8 = .ok (.iconst (-1), 1) := by decide +kernel
theorem dX9_choice_9 : decode cX9_choice 9 = .ok (.istore 4, 2) := by decide +kernel
theorem dX9_choice_11 : decode cX9_choice 11 = .ok (.iconst 0, 1) := by decide +kernel
theorem dX9_choice_12 : decode cX9_choice 12 = .ok (.istore 5, 2) := by decide +kernel
theorem dX9_choice_14 : decode cX9_choice 14 = .ok (.iload 5, 2) := by decide +kernel
theorem dX9_choice_16 : decode cX9_choice 16 = .ok (.sipush 16384, 3) := by decide +kernel
theorem dX9_choice_19 : decode cX9_choice 19 = .ok (.if_icmp .ge 71, 3) := by decide +kernel
theorem dX9_choice_22 : decode cX9_choice 22 = .ok (.aload_n 0, 1) := by decide +kernel
theorem dX9_choice_23 : decode cX9_choice 23 = .ok (.iload_n 1, 1) := by decide +kernel
theorem dX9_choice_24 : decode cX9_choice 24 = .ok (.iload 5, 2) := by decide +kernel
theorem dX9_choice_26 : decode cX9_choice 26 = .ok (.invokevirtual 92, 3) := by decide +kernel
theorem dX9_choice_29 : decode cX9_choice 29 = .ok (.ifCond .eq 55, 3) := by decide +kernel
theorem dX9_choice_32 : decode cX9_choice 32 = .ok (.aload_n 0, 1) := by decide +kernel
theorem dX9_choice_33 : decode cX9_choice 33 = .ok (.iload_n 1, 1) := by decide +kernel
theorem dX9_choice_34 : decode cX9_choice 34 = .ok (.iload 5, 2) := by decide +kernel
theorem dX9_choice_36 : decode cX9_choice 36 = .ok (.iload_n 2, 1) := by decide +kernel
theorem dX9_choice_37 : decode cX9_choice 37 = .ok (.invokevirtual 96, 3) := by decide +kernel
theorem dX9_choice_40 : decode cX9_choice 40 = .ok (.istore 6, 2) := by decide +kernel
theorem dX9_choice_42 : decode cX9_choice 42 = .ok (.iload 4, 2) := by decide +kernel
theorem dX9_choice_44 : decode cX9_choice 44 = .ok (.iconst (-1), 1) := by decide +kernel
theorem dX9_choice_45 : decode cX9_choice 45 = .ok (.if_icmp .eq 10, 3) := by decide +kernel
theorem dX9_choice_48 : decode cX9_choice 48 = .ok (.iload 6, 2) := by decide +kernel
theorem dX9_choice_50 : decode cX9_choice 50 = .ok (.iload 4, 2) := by decide +kernel
theorem dX9_choice_52 : decode cX9_choice 52 = .ok (.if_icmp .ge 8, 3) := by decide +kernel
theorem dX9_choice_55 : decode cX9_choice 55 = .ok (.iload 5, 2) := by decide +kernel
theorem dX9_choice_57 : decode cX9_choice 57 = .ok (.goto 4, 3) := by decide +kernel
theorem dX9_choice_60 : decode cX9_choice 60 = .ok (.iload_n 3, 1) := by decide +kernel
theorem dX9_choice_61 : decode cX9_choice 61 = .ok (.istore_n 3, 1) := by decide +kernel
theorem dX9_choice_62 : decode cX9_choice 62 = .ok (.iload 4, 2) := by decide +kernel
theorem dX9_choice_64 : decode cX9_choice 64 = .ok (.iconst (-1), 1) := by decide +kernel
theorem dX9_choice_65 : decode cX9_choice 65 = .ok (.if_icmp .eq 10, 3) := by decide +kernel
theorem dX9_choice_68 : decode cX9_choice 68 = .ok (.iload 6, 2) := by decide +kernel
theorem dX9_choice_70 : decode cX9_choice 70 = .ok (.iload 4, 2) := by decide +kernel
theorem dX9_choice_72 : decode cX9_choice 72 = .ok (.if_icmp .ge 8, 3) := by decide +kernel
theorem dX9_choice_75 : decode cX9_choice 75 = .ok (.iload 6, 2) := by decide +kernel
theorem dX9_choice_77 : decode cX9_choice 77 = .ok (.goto 5, 3) := by decide +kernel
theorem dX9_choice_80 : decode cX9_choice 80 = .ok (.iload 4, 2) := by decide +kernel
theorem dX9_choice_82 : decode cX9_choice 82 = .ok (.istore 4, 2) := by decide +kernel
theorem dX9_choice_84 : decode cX9_choice 84 = .ok (.iinc 5 1, 3) := by decide +kernel
theorem dX9_choice_87 : decode cX9_choice 87 = .ok (.goto (-73), 3) := by decide +kernel
theorem dX9_choice_90 : decode cX9_choice 90 = .ok (.iload_n 3, 1) := by decide +kernel
theorem dX9_choice_91 : decode cX9_choice 91 = .ok (.ireturn, 1) := by decide +kernel
set_option maxRecDepth 20000 in
theorem ggX9_plan_X9_choice : GoodIn wsX9_plan wsX9_choice := goodIn_r _ [9, 10, 11, 12, 8, 13, 14, 15, 16, 17, 18, 19, 20, 21, 22, 4, 2, 23, 24, 25, 26, 27, 28, 29, 30, 31, 32, 33, 34, 35, 36, 37, 38, 39, 40, 41, 42, 43, 44, 45, 46, 47, 48, 49, 50, 51, 52, 53, 66, 67, 68, 69, 70, 71, 72, 73, 74, 75, 76, 77, 78, 79, 80] (by decide +kernel) (by decide +kernel)
set_option maxRecDepth 20000 in
theorem gX9_plan_X9_choice : GoodIn wsX9_plan (wsV RX9 102 RX9 yX9_choice wsX9_choice) := goodIn_app (goodIn_of _ (by decide +kernel)) ggX9_plan_X9_choice
set_option maxRecDepth 20000 in
theorem ggX9_plan_X9_weekOf : GoodIn wsX9_plan wsX9_weekOf := goodIn_r _ [57, 2, 66, 67, 68, 69, 70, 71, 72, 73, 74, 75, 76, 77, 78, 79, 80] (by decide +kernel) (by decide +kernel)
set_option maxRecDepth 20000 in
theorem gX9_plan_X9_weekOf : GoodIn wsX9_plan (wsV RX9 105 RX9 yX9_weekOf wsX9_weekOf) := goodIn_app (goodIn_of _ (by decide +kernel)) ggX9_plan_X9_weekOf
set_option maxRecDepth 20000 in
theorem ggX9_plan_X9_enter : GoodIn wsX9_plan wsX9_enter := goodIn_r _ [61, 2, 37, 38, 8, 39, 66, 67, 68, 69, 70, 71, 72, 73, 74, 75, 76, 77, 78, 79, 80] (by decide +kernel) (by decide +kernel)
set_option maxRecDepth 20000 in
theorem gX9_plan_X9_enter : GoodIn wsX9_plan (wsV RX9 108 RX9 yX9_enter wsX9_enter) := goodIn_app (goodIn_of _ (by decide +kernel)) ggX9_plan_X9_enter
set_option maxRecDepth 20000 in
theorem ggX9_plan_X9_allGaps : GoodIn wsX9_plan wsX9_allGaps := goodIn_r _ [65, 14, 15, 16, 8, 17, 18, 19, 20, 21, 22, 4, 2, 66, 67, 68, 69, 70, 71, 72, 73, 74, 75, 76, 77, 78, 79, 80] (by decide +kernel) (by decide +kernel)
set_option maxRecDepth 20000 in
theorem gX9_plan_X9_allGaps : GoodIn wsX9_plan (wsV RX9 112 RX9 yX9_allGaps wsX9_allGaps) := goodIn_app (goodIn_of _ (by decide +kernel)) ggX9_plan_X9_allGaps
theorem dX9_plan_0 : decode cX9_plan 0 = .ok (.aload_n 0, 1) := by decide +kernel
theorem dX9_plan_1 : decode cX9_plan 1 = .ok (.iconst 0, 1) := by decide +kernel
theorem dX9_plan_2 : decode cX9_plan 2 = .ok (.putfield 44, 3) := by decide +kernel
theorem dX9_plan_5 : decode cX9_plan 5 = .ok (.iconst 0, 1) := by decide +kernel
theorem dX9_plan_6 : decode cX9_plan 6 = .ok (.istore_n 1, 1) := by decide +kernel
theorem dX9_plan_7 : decode cX9_plan 7 = .ok (.iload_n 1, 1) := by decide +kernel
theorem dX9_plan_8 : decode cX9_plan 8 = .ok (.bipush 56, 2) := by decide +kernel
theorem dX9_plan_10 : decode cX9_plan 10 = .ok (.if_icmp .ge 16, 3) := by decide +kernel
theorem dX9_plan_13 : decode cX9_plan 13 = .ok (.aload_n 0, 1) := by decide +kernel
theorem dX9_plan_14 : decode cX9_plan 14 = .ok (.getfield 26, 3) := by decide +kernel
theorem dX9_plan_17 : decode cX9_plan 17 = .ok (.iload_n 1, 1) := by decide +kernel
theorem dX9_plan_18 : decode cX9_plan 18 = .ok (.iconst 0, 1) := by decide +kernel
theorem dX9_plan_19 : decode cX9_plan 19 = .ok (.iastore, 1) := by decide +kernel
theorem dX9_plan_20 : decode cX9_plan 20 = .ok (.iinc 1 1, 3) := by decide +kernel
theorem dX9_plan_23 : decode cX9_plan 23 = .ok (.goto (-16), 3) := by decide +kernel
theorem dX9_plan_26 : decode cX9_plan 26 = .ok (.aload_n 0, 1) := by decide +kernel
theorem dX9_plan_27 : decode cX9_plan 27 = .ok (.iconst 0, 1) := by decide +kernel
theorem dX9_plan_28 : decode cX9_plan 28 = .ok (.putfield 99, 3) := by decide +kernel
theorem dX9_plan_31 : decode cX9_plan 31 = .ok (.iconst 1, 1) := by decide +kernel
theorem dX9_plan_32 : decode cX9_plan 32 = .ok (.istore_n 1, 1) := by decide +kernel
theorem dX9_plan_33 : decode cX9_plan 33 = .ok (.iload_n 1, 1) := by decide +kernel
theorem dX9_plan_34 : decode cX9_plan 34 = .ok (.ifCond .eq 74, 3) := by decide +kernel
theorem dX9_plan_37 : decode cX9_plan 37 = .ok (.aload_n 0, 1) := by decide +kernel
theorem dX9_plan_38 : decode cX9_plan 38 = .ok (.getfield 99, 3) := by decide +kernel
theorem dX9_plan_41 : decode cX9_plan 41 = .ok (.bipush 10, 2) := by decide +kernel
theorem dX9_plan_43 : decode cX9_plan 43 = .ok (.if_icmp .ge 65, 3) := by decide +kernel
theorem dX9_plan_46 : decode cX9_plan 46 = .ok (.iconst 0, 1) := by decide +kernel
theorem dX9_plan_47 : decode cX9_plan 47 = .ok (.istore_n 1, 1) := by decide +kernel
theorem dX9_plan_48 : decode cX9_plan 48 = .ok (.iconst 0, 1) := by decide +kernel
theorem dX9_plan_49 : decode cX9_plan 49 = .ok (.istore_n 2, 1) := by decide +kernel
theorem dX9_plan_50 : decode cX9_plan 50 = .ok (.iload_n 2, 1) := by decide +kernel
theorem dX9_plan_51 : decode cX9_plan 51 = .ok (.aload_n 0, 1) := by decide +kernel
theorem dX9_plan_52 : decode cX9_plan 52 = .ok (.getfield 47, 3) := by decide +kernel
theorem dX9_plan_55 : decode cX9_plan 55 = .ok (.if_icmp .ge 40, 3) := by decide +kernel
theorem dX9_plan_58 : decode cX9_plan 58 = .ok (.aload_n 0, 1) := by decide +kernel
theorem dX9_plan_59 : decode cX9_plan 59 = .ok (.iload_n 2, 1) := by decide +kernel
theorem dX9_plan_60 : decode cX9_plan 60 = .ok (.invokevirtual 102, 3) := by decide +kernel
theorem dX9_plan_63 : decode cX9_plan 63 = .ok (.istore_n 3, 1) := by decide +kernel
theorem dX9_plan_64 : decode cX9_plan 64 = .ok (.iload_n 1, 1) := by decide +kernel
theorem dX9_plan_65 : decode cX9_plan 65 = .ok (.ifCond .ne 12, 3) := by decide +kernel
theorem dX9_plan_68 : decode cX9_plan 68 = .ok (.iload_n 3, 1) := by decide +kernel
theorem dX9_plan_69 : decode cX9_plan 69 = .ok (.aload_n 0, 1) := by decide +kernel
theorem dX9_plan_70 : decode cX9_plan 70 = .ok (.iload_n 2, 1) := by decide +kernel
theorem dX9_plan_71 : decode cX9_plan 71 = .ok (.invokevirtual 105, 3) := by decide +kernel
theorem dX9_plan_74 : decode cX9_plan 74 = .ok (.if_icmp .eq 7, 3) := by decide +kernel
theorem dX9_plan_77 : decode cX9_plan 77 = .ok (.iconst 1, 1) := by decide +kernel
theorem dX9_plan_78 : decode cX9_plan 78 = .ok (.goto 4, 3) := by decide +kernel
theorem dX9_plan_81 : decode cX9_plan 81 = .ok (.iconst 0, 1) := by decide +kernel
theorem dX9_plan_82 : decode cX9_plan 82 = .ok (.istore_n 1, 1) := by decide +kernel
theorem dX9_plan_83 : decode cX9_plan 83 = .ok (.aload_n 0, 1) := by decide +kernel
theorem dX9_plan_84 : decode cX9_plan 84 = .ok (.iload_n 2, 1) := by decide +kernel
theorem dX9_plan_85 : decode cX9_plan 85 = .ok (.iload_n 3, 1) := by decide +kernel
theorem dX9_plan_86 : decode cX9_plan 86 = .ok (.invokevirtual 108, 3) := by decide +kernel
theorem dX9_plan_89 : decode cX9_plan 89 = .ok (.iinc 2 1, 3) := by decide +kernel
theorem dX9_plan_92 : decode cX9_plan 92 = .ok (.goto (-42), 3) := by decide +kernel
theorem dX9_plan_95 : decode cX9_plan 95 = .ok (.aload_n 0, 1) := by decide +kernel
theorem dX9_plan_96 : decode cX9_plan 96 = .ok (.dup, 1) := by decide +kernel
theorem dX9_plan_97 : decode cX9_plan 97 = .ok (.getfield 99, 3) := by decide +kernel
theorem dX9_plan_100 : decode cX9_plan 100 = .ok (.iconst 1, 1) := by decide +kernel
theorem dX9_plan_101 : decode cX9_plan 101 = .ok (.iadd, 1) := by decide +kernel
theorem dX9_plan_102 : decode cX9_plan 102 = .ok (.putfield 99, 3) := by decide +kernel
theorem dX9_plan_105 : decode cX9_plan 105 = .ok (.goto (-72), 3) := by decide +kernel
theorem dX9_plan_108 : decode cX9_plan 108 = .ok (.aload_n 0, 1) := by decide +kernel
theorem dX9_plan_109 : decode cX9_plan 109 = .ok (.invokevirtual 112, 3) := by decide +kernel
theorem dX9_plan_112 : decode cX9_plan 112 = .ok (.ireturn, 1) := by decide +kernel
theorem dX9_rounds_0 : decode cX9_rounds 0 = .ok (.aload_n 0, 1) := by decide +kernel
theorem dX9_rounds_1 : decode cX9_rounds 1 = .ok (.iconst 0, 1) := by decide +kernel
theorem dX9_rounds_2 : decode cX9_rounds 2 = .ok (.putfield 44, 3) := by decide +kernel
theorem dX9_rounds_5 : decode cX9_rounds 5 = .ok (.aload_n 0, 1) := by decide +kernel
theorem dX9_rounds_6 : decode cX9_rounds 6 = .ok (.getfield 99, 3) := by decide +kernel
theorem dX9_rounds_9 : decode cX9_rounds 9 = .ok (.ireturn, 1) := by decide +kernel
set_option maxRecDepth 20000 in
theorem ggX9_set_X9_isPerson : GoodIn wsX9_set wsX9_isPerson := goodIn_r _ [7, 8, 9, 10, 6, 11, 43, 44, 45, 46, 47, 48, 49, 50, 51, 52, 53, 54, 55, 56, 57] (by decide +kernel) (by decide +kernel)
set_option maxRecDepth 20000 in
theorem gX9_set_X9_isPerson : GoodIn wsX9_set (wsV RX9 54 RX9 yX9_isPerson wsX9_isPerson) := goodIn_app (goodIn_of _ (by decide +kernel)) ggX9_set_X9_isPerson
set_option maxRecDepth 20000 in
theorem ggX9_set_X9_isDay : GoodIn wsX9_set wsX9_isDay := goodIn_r _ [14, 9, 10, 6, 11] (by decide +kernel) (by decide +kernel)
set_option maxRecDepth 20000 in
theorem gX9_set_X9_isDay : GoodIn wsX9_set (va_wsS RX9 69 yX9_isDay wsX9_isDay) := goodIn_app (goodIn_of _ (by decide +kernel)) ggX9_set_X9_isDay
set_option maxRecDepth 20000 in
theorem ggX9_set_X9_fails : GoodIn wsX9_set wsX9_fails := goodIn_r _ [18, 1, 43, 44, 45, 46, 47, 48, 49, 50, 51, 52, 53, 54, 55, 56, 57] (by decide +kernel) (by decide +kernel)
set_option maxRecDepth 20000 in
theorem gX9_set_X9_fails : GoodIn wsX9_set (wsV RX9 66 RX9 yX9_fails wsX9_fails) := goodIn_app (goodIn_of _ (by decide +kernel)) ggX9_set_X9_fails
set_option maxRecDepth 20000 in
theorem ggX9_set_X9_in : GoodIn wsX9_set wsX9_in := goodIn_r _ [11] (by decide +kernel) (by decide +kernel)
set_option maxRecDepth 20000 in
theorem gX9_set_X9_in : GoodIn wsX9_set (va_wsS RX9 50 yX9_in wsX9_in) := goodIn_app (goodIn_of _ (by decide +kernel)) ggX9_set_X9_in
set_option maxRecDepth 20000 in
theorem ggX9_set_X9_weekOf : GoodIn wsX9_set wsX9_weekOf := goodIn_r _ [22, 2, 43, 44, 45, 46, 47, 48, 49, 50, 51, 52, 53, 54, 55, 56, 57] (by decide +kernel) (by decide +kernel)
set_option maxRecDepth 20000 in
theorem gX9_set_X9_weekOf : GoodIn wsX9_set (wsV RX9 105 RX9 yX9_weekOf wsX9_weekOf) := goodIn_app (goodIn_of _ (by decide +kernel)) ggX9_set_X9_weekOf
set_option maxRecDepth 20000 in
theorem ggX9_set_X9_with : GoodIn wsX9_set wsX9_with := goodIn_r _ [25, 26, 27, 6, 28] (by decide +kernel) (by decide +kernel)
set_option maxRecDepth 20000 in
theorem gX9_set_X9_with : GoodIn wsX9_set (va_wsS RX9 116 yX9_with wsX9_with) := goodIn_app (goodIn_of _ (by decide +kernel)) ggX9_set_X9_with
set_option maxRecDepth 20000 in
theorem ggX9_set_X9_isPossible : GoodIn wsX9_set wsX9_isPossible := goodIn_r _ [32, 33, 34, 35, 36, 37, 38, 39, 40, 41, 6, 42, 26, 27, 28, 43, 44, 45, 46, 47, 48, 49, 50, 51, 52, 53, 54, 55, 56, 57] (by decide +kernel) (by decide +kernel)
set_option maxRecDepth 20000 in
theorem gX9_set_X9_isPossible : GoodIn wsX9_set (wsV RX9 92 RX9 yX9_isPossible wsX9_isPossible) := goodIn_app (goodIn_of _ (by decide +kernel)) ggX9_set_X9_isPossible
theorem dX9_set_0 : decode cX9_set 0 = .ok (.aload_n 0, 1) := by decide +kernel
theorem dX9_set_1 : decode cX9_set 1 = .ok (.iconst 0, 1) := by decide +kernel
theorem dX9_set_2 : decode cX9_set 2 = .ok (.putfield 44, 3) := by decide +kernel
theorem dX9_set_5 : decode cX9_set 5 = .ok (.aload_n 0, 1) := by decide +kernel
theorem dX9_set_6 : decode cX9_set 6 = .ok (.iload_n 1, 1) := by decide +kernel
theorem dX9_set_7 : decode cX9_set 7 = .ok (.invokevirtual 54, 3) := by decide +kernel
theorem dX9_set_10 : decode cX9_set 10 = .ok (.ifCond .eq 10, 3) := by decide +kernel
theorem dX9_set_13 : decode cX9_set 13 = .ok (.iload_n 2, 1) := by decide +kernel
theorem dX9_set_14 : decode cX9_set 14 = .ok (.invokestatic 69, 3) := by decide +kernel
theorem dX9_set_17 : decode cX9_set 17 = .ok (.ifCond .ne 9, 3) := by decide +kernel
theorem dX9_set_20 : decode cX9_set 20 = .ok (.aload_n 0, 1) := by decide +kernel
theorem dX9_set_21 : decode cX9_set 21 = .ok (.iconst 1, 1) := by decide +kernel
theorem dX9_set_22 : decode cX9_set 22 = .ok (.invokevirtual 66, 3) := by decide +kernel
theorem dX9_set_25 : decode cX9_set 25 = .ok (.ireturn, 1) := by decide +kernel
theorem dX9_set_26 : decode cX9_set 26 = .ok (.iload_n 3, 1) := by decide +kernel
theorem dX9_set_27 : decode cX9_set 27 = .ok (.iconst 0, 1) := by decide +kernel
theorem dX9_set_28 : decode cX9_set 28 = .ok (.iconst 3, 1) := by decide +kernel
theorem dX9_set_29 : decode cX9_set 29 = .ok (.invokestatic 50, 3) := by decide +kernel
theorem dX9_set_32 : decode cX9_set 32 = .ok (.ifCond .ne 9, 3) := by decide +kernel
theorem dX9_set_35 : decode cX9_set 35 = .ok (.aload_n 0, 1) := by decide +kernel
theorem dX9_set_36 : decode cX9_set 36 = .ok (.iconst 2, 1) := by decide +kernel
theorem dX9_set_37 : decode cX9_set 37 = .ok (.invokevirtual 66, 3) := by decide +kernel
theorem dX9_set_40 : decode cX9_set 40 = .ok (.ireturn, 1) := by decide +kernel
theorem dX9_set_41 : decode cX9_set 41 = .ok (.aload_n 0, 1) := by decide +kernel
theorem dX9_set_42 : decode cX9_set 42 = .ok (.iload_n 1, 1) := by decide +kernel
theorem dX9_set_43 : decode cX9_set 43 = .ok (.aload_n 0, 1) := by decide +kernel
theorem dX9_set_44 : decode cX9_set 44 = .ok (.iload_n 1, 1) := by decide +kernel
theorem dX9_set_45 : decode cX9_set 45 = .ok (.invokevirtual 105, 3) := by decide +kernel
theorem dX9_set_48 : decode cX9_set 48 = .ok (.iload_n 2, 1) := by decide +kernel
theorem dX9_set_49 : decode cX9_set 49 = .ok (.iload_n 3, 1) := by decide +kernel
theorem dX9_set_50 : decode cX9_set 50 = .ok (.invokestatic 116, 3) := by decide +kernel
theorem dX9_set_53 : decode cX9_set 53 = .ok (.invokevirtual 92, 3) := by decide +kernel
theorem dX9_set_56 : decode cX9_set 56 = .ok (.ifCond .ne 9, 3) := by decide +kernel
theorem dX9_set_59 : decode cX9_set 59 = .ok (.aload_n 0, 1) := by decide +kernel
theorem dX9_set_60 : decode cX9_set 60 = .ok (.iconst 3, 1) := by decide +kernel
theorem dX9_set_61 : decode cX9_set 61 = .ok (.invokevirtual 66, 3) := by decide +kernel
theorem dX9_set_64 : decode cX9_set 64 = .ok (.ireturn, 1) := by decide +kernel
theorem dX9_set_65 : decode cX9_set 65 = .ok (.aload_n 0, 1) := by decide +kernel
theorem dX9_set_66 : decode cX9_set 66 = .ok (.getfield 26, 3) := by decide +kernel
theorem dX9_set_69 : decode cX9_set 69 = .ok (.bipush 7, 2) := by decide +kernel
theorem dX9_set_71 : decode cX9_set 71 = .ok (.iload_n 1, 1) := by decide +kernel
theorem dX9_set_72 : decode cX9_set 72 = .ok (.imul, 1) := by decide +kernel
theorem dX9_set_73 : decode cX9_set 73 = .ok (.iload_n 2, 1) := by decide +kernel
theorem dX9_set_74 : decode cX9_set 74 = .ok (.iadd, 1) := by decide +kernel
theorem dX9_set_75 : decode cX9_set 75 = .ok (.iaload, 1) := by decide +kernel
theorem dX9_set_76 : decode cX9_set 76 = .ok (.istore 4, 2) := by decide +kernel
theorem dX9_set_78 : decode cX9_set 78 = .ok (.aload_n 0, 1) := by decide +kernel
theorem dX9_set_79 : decode cX9_set 79 = .ok (.getfield 26, 3) := by decide +kernel
theorem dX9_set_82 : decode cX9_set 82 = .ok (.bipush 7, 2) := by decide +kernel
theorem dX9_set_84 : decode cX9_set 84 = .ok (.iload_n 1, 1) := by decide +kernel
theorem dX9_set_85 : decode cX9_set 85 = .ok (.imul, 1) := by decide +kernel
theorem dX9_set_86 : decode cX9_set 86 = .ok (.iload_n 2, 1) := by decide +kernel
theorem dX9_set_87 : decode cX9_set 87 = .ok (.iadd, 1) := by decide +kernel
theorem dX9_set_88 : decode cX9_set 88 = .ok (.iload_n 3, 1) := by decide +kernel
theorem dX9_set_89 : decode cX9_set 89 = .ok (.iastore, 1) := by decide +kernel
theorem dX9_set_90 : decode cX9_set 90 = .ok (.iload 4, 2) := by decide +kernel
theorem dX9_set_92 : decode cX9_set 92 = .ok (.ireturn, 1) := by decide +kernel
set_option maxRecDepth 20000 in
theorem ggX9_canSwap_X9_weekOf : GoodIn wsX9_canSwap wsX9_weekOf := goodIn_r _ [6, 1, 27, 28, 29, 30, 31, 32, 33, 34, 35, 36, 37, 38, 39, 40, 41] (by decide +kernel) (by decide +kernel)
set_option maxRecDepth 20000 in
theorem gX9_canSwap_X9_weekOf : GoodIn wsX9_canSwap (wsV RX9 105 RX9 yX9_weekOf wsX9_weekOf) := goodIn_app (goodIn_of _ (by decide +kernel)) ggX9_canSwap_X9_weekOf
set_option maxRecDepth 20000 in
theorem ggX9_canSwap_X9_with : GoodIn wsX9_canSwap wsX9_with := goodIn_r _ [9, 10, 11, 5, 12] (by decide +kernel) (by decide +kernel)
set_option maxRecDepth 20000 in
theorem gX9_canSwap_X9_with : GoodIn wsX9_canSwap (va_wsS RX9 116 yX9_with wsX9_with) := goodIn_app (goodIn_of _ (by decide +kernel)) ggX9_canSwap_X9_with
set_option maxRecDepth 20000 in
theorem ggX9_canSwap_X9_isPossible : GoodIn wsX9_canSwap wsX9_isPossible := goodIn_r _ [16, 17, 18, 19, 20, 21, 22, 23, 24, 25, 5, 26, 10, 11, 12, 27, 28, 29, 30, 31, 32, 33, 34, 35, 36, 37, 38, 39, 40, 41] (by decide +kernel) (by decide +kernel)
set_option maxRecDepth 20000 in
theorem gX9_canSwap_X9_isPossible : GoodIn wsX9_canSwap (wsV RX9 92 RX9 yX9_isPossible wsX9_isPossible) := goodIn_app (goodIn_of _ (by decide +kernel)) ggX9_canSwap_X9_isPossible
theorem dX9_canSwap_0 : decode cX9_canSwap 0 = .ok (.aload_n 0, 1) := by decide +kernel
theorem dX9_canSwap_1 : decode cX9_canSwap 1 = .ok (.getfield 26, 3) := by decide +kernel
theorem dX9_canSwap_4 : decode cX9_canSwap 4 = .ok (.bipush 7, 2) := by decide +kernel
theorem dX9_canSwap_6 : decode cX9_canSwap 6 = .ok (.iload_n 1, 1) := by decide +kernel
theorem dX9_canSwap_7 : decode cX9_canSwap 7 = .ok (.imul, 1) := by decide +kernel
theorem dX9_canSwap_8 : decode cX9_canSwap 8 = .ok (.iload_n 3, 1) := by decide +kernel
theorem dX9_canSwap_9 : decode cX9_canSwap 9 = .ok (.iadd, 1) := by decide +kernel
theorem dX9_canSwap_10 : decode cX9_canSwap 10 = .ok (.iaload, 1) := by decide +kernel
theorem dX9_canSwap_11 : decode cX9_canSwap 11 = .ok (.istore 4, 2) := by decide +kernel
theorem dX9_canSwap_13 : decode cX9_canSwap 13 = .ok (.aload_n 0, 1) := by decide +kernel
theorem dX9_canSwap_14 : decode cX9_canSwap 14 = .ok (.getfield 26, 3) := by decide +kernel
theorem dX9_canSwap_17 : decode cX9_canSwap 17 = .ok (.bipush 7, 2) := by decide +kernel
theorem dX9_canSwap_19 : decode cX9_canSwap 19 = .ok (.iload_n 2, 1) := by decide +kernel
theorem dX9_canSwap_20 : decode cX9_canSwap 20 = .ok (.imul, 1) := by decide +kernel
theorem dX9_canSwap_21 : decode cX9_canSwap 21 = .ok (.iload_n 3, 1) := by decide +kernel
theorem dX9_canSwap_22 : decode cX9_canSwap 22 = .ok (.iadd, 1) := by decide +kernel
theorem dX9_canSwap_23 : decode cX9_canSwap 23 = .ok (.iaload, 1) := by decide +kernel
theorem dX9_canSwap_24 : decode cX9_canSwap 24 = .ok (.istore 5, 2) := by decide +kernel
theorem dX9_canSwap_26 : decode cX9_canSwap 26 = .ok (.iload_n 1, 1) := by decide +kernel
theorem dX9_canSwap_27 : decode cX9_canSwap 27 = .ok (.iload_n 2, 1) := by decide +kernel
theorem dX9_canSwap_28 : decode cX9_canSwap 28 = .ok (.if_icmp .eq 45, 3) := by decide +kernel
theorem dX9_canSwap_31 : decode cX9_canSwap 31 = .ok (.aload_n 0, 1) := by decide +kernel
theorem dX9_canSwap_32 : decode cX9_canSwap 32 = .ok (.iload_n 1, 1) := by decide +kernel
theorem dX9_canSwap_33 : decode cX9_canSwap 33 = .ok (.aload_n 0, 1) := by decide +kernel
theorem dX9_canSwap_34 : decode cX9_canSwap 34 = .ok (.iload_n 1, 1) := by decide +kernel
theorem dX9_canSwap_35 : decode cX9_canSwap 35 = .ok (.invokevirtual 105, 3) := by decide +kernel
theorem dX9_canSwap_38 : decode cX9_canSwap 38 = .ok (.iload_n 3, 1) := by decide +kernel
theorem dX9_canSwap_39 : decode cX9_canSwap 39 = .ok (.iload 5, 2) := by decide +kernel
theorem dX9_canSwap_41 : decode cX9_canSwap 41 = .ok (.invokestatic 116, 3) := by decide +kernel
theorem dX9_canSwap_44 : decode cX9_canSwap 44 = .ok (.invokevirtual 92, 3) := by decide +kernel
theorem dX9_canSwap_47 : decode cX9_canSwap 47 = .ok (.ifCond .eq 26, 3) := by decide +kernel
theorem dX9_canSwap_50 : decode cX9_canSwap 50 = .ok (.aload_n 0, 1) := by decide +kernel
theorem dX9_canSwap_51 : decode cX9_canSwap 51 = .ok (.iload_n 2, 1) := by decide +kernel
theorem dX9_canSwap_52 : decode cX9_canSwap 52 = .ok (.aload_n 0, 1) := by decide +kernel
theorem dX9_canSwap_53 : decode cX9_canSwap 53 = .ok (.iload_n 2, 1) := by decide +kernel
theorem dX9_canSwap_54 : decode cX9_canSwap 54 = .ok (.invokevirtual 105, 3) := by decide +kernel
theorem dX9_canSwap_57 : decode cX9_canSwap 57 = .ok (.iload_n 3, 1) := by decide +kernel
theorem dX9_canSwap_58 : decode cX9_canSwap 58 = .ok (.iload 4, 2) := by decide +kernel
theorem dX9_canSwap_60 : decode cX9_canSwap 60 = .ok (.invokestatic 116, 3) := by decide +kernel
theorem dX9_canSwap_63 : decode cX9_canSwap 63 = .ok (.invokevirtual 92, 3) := by decide +kernel
theorem dX9_canSwap_66 : decode cX9_canSwap 66 = .ok (.ifCond .eq 7, 3) := by decide +kernel
theorem dX9_canSwap_69 : decode cX9_canSwap 69 = .ok (.iconst 1, 1) := by decide +kernel
theorem dX9_canSwap_70 : decode cX9_canSwap 70 = .ok (.goto 4, 3) := by decide +kernel
theorem dX9_canSwap_73 : decode cX9_canSwap 73 = .ok (.iconst 0, 1) := by decide +kernel
theorem dX9_canSwap_74 : decode cX9_canSwap 74 = .ok (.ireturn, 1) := by decide +kernel
set_option maxRecDepth 20000 in
theorem ggX9_swap_X9_isPerson : GoodIn wsX9_swap wsX9_isPerson := goodIn_r _ [7, 8, 9, 10, 6, 11, 52, 53, 54, 55, 56, 57, 58, 59, 60, 61, 62, 63, 64, 65, 66] (by decide +kernel) (by decide +kernel)
set_option maxRecDepth 20000 in
theorem gX9_swap_X9_isPerson : GoodIn wsX9_swap (wsV RX9 54 RX9 yX9_isPerson wsX9_isPerson) := goodIn_app (goodIn_of _ (by decide +kernel)) ggX9_swap_X9_isPerson
set_option maxRecDepth 20000 in
theorem ggX9_swap_X9_isDay : GoodIn wsX9_swap wsX9_isDay := goodIn_r _ [14, 9, 10, 6, 11] (by decide +kernel) (by decide +kernel)
set_option maxRecDepth 20000 in
theorem gX9_swap_X9_isDay : GoodIn wsX9_swap (va_wsS RX9 69 yX9_isDay wsX9_isDay) := goodIn_app (goodIn_of _ (by decide +kernel)) ggX9_swap_X9_isDay
set_option maxRecDepth 20000 in
theorem ggX9_swap_X9_fails : GoodIn wsX9_swap wsX9_fails := goodIn_r _ [18, 1, 52, 53, 54, 55, 56, 57, 58, 59, 60, 61, 62, 63, 64, 65, 66] (by decide +kernel) (by decide +kernel)
set_option maxRecDepth 20000 in
theorem gX9_swap_X9_fails : GoodIn wsX9_swap (wsV RX9 66 RX9 yX9_fails wsX9_fails) := goodIn_app (goodIn_of _ (by decide +kernel)) ggX9_swap_X9_fails
set_option maxRecDepth 20000 in
theorem ggX9_swap_X9_canSwap : GoodIn wsX9_swap wsX9_canSwap := goodIn_r _ [22, 2, 23, 24, 25, 6, 26, 27, 28, 29, 30, 31, 32, 33, 34, 35, 36, 37, 38, 39, 40, 41, 42, 43, 44, 45, 46, 52, 53, 54, 55, 56, 57, 58, 59, 60, 61, 62, 63, 64, 65, 66] (by decide +kernel) (by decide +kernel)
set_option maxRecDepth 20000 in
theorem gX9_swap_X9_canSwap : GoodIn wsX9_swap (wsV RX9 119 RX9 yX9_canSwap wsX9_canSwap) := goodIn_app (goodIn_of _ (by decide +kernel)) ggX9_swap_X9_canSwap
set_option maxRecDepth 20000 in
theorem ggX9_swap_X9_weekOf : GoodIn wsX9_swap wsX9_weekOf := goodIn_r _ [26, 2, 52, 53, 54, 55, 56, 57, 58, 59, 60, 61, 62, 63, 64, 65, 66] (by decide +kernel) (by decide +kernel)
set_option maxRecDepth 20000 in
theorem gX9_swap_X9_weekOf : GoodIn wsX9_swap (wsV RX9 105 RX9 yX9_weekOf wsX9_weekOf) := goodIn_app (goodIn_of _ (by decide +kernel)) ggX9_swap_X9_weekOf
set_option maxRecDepth 20000 in
theorem ggX9_swap_X9_brokenBy : GoodIn wsX9_swap wsX9_brokenBy := goodIn_r _ [50, 51, 30, 31, 6, 32, 52, 53, 54, 55, 56, 57, 58, 59, 60, 61, 62, 63, 64, 65, 66] (by decide +kernel) (by decide +kernel)
set_option maxRecDepth 20000 in
theorem gX9_swap_X9_brokenBy : GoodIn wsX9_swap (wsV RX9 86 RX9 yX9_brokenBy wsX9_brokenBy) := goodIn_app (goodIn_of _ (by decide +kernel)) ggX9_swap_X9_brokenBy
theorem dX9_swap_0 : decode cX9_swap 0 = .ok (.aload_n 0, 1) := by decide +kernel
theorem dX9_swap_1 : decode cX9_swap 1 = .ok (.iconst 0, 1) := by decide +kernel
theorem dX9_swap_2 : decode cX9_swap 2 = .ok (.putfield 44, 3) := by decide +kernel
theorem dX9_swap_5 : decode cX9_swap 5 = .ok (.aload_n 0, 1) := by decide +kernel
theorem dX9_swap_6 : decode cX9_swap 6 = .ok (.iload_n 1, 1) := by decide +kernel
theorem dX9_swap_7 : decode cX9_swap 7 = .ok (.invokevirtual 54, 3) := by decide +kernel
theorem dX9_swap_10 : decode cX9_swap 10 = .ok (.ifCond .eq 18, 3) := by decide +kernel
theorem dX9_swap_13 : decode cX9_swap 13 = .ok (.aload_n 0, 1) := by decide +kernel
theorem dX9_swap_14 : decode cX9_swap 14 = .ok (.iload_n 2, 1) := by decide +kernel
theorem dX9_swap_15 : decode cX9_swap 15 = .ok (.invokevirtual 54, 3) := by decide +kernel
theorem dX9_swap_18 : decode cX9_swap 18 = .ok (.ifCond .eq 10, 3) := by decide +kernel
theorem dX9_swap_21 : decode cX9_swap 21 = .ok (.iload_n 3, 1) := by decide +kernel
theorem dX9_swap_22 : decode cX9_swap 22 = .ok (.invokestatic 69, 3) := by decide +kernel
theorem dX9_swap_25 : decode cX9_swap 25 = .ok (.ifCond .ne 9, 3) := by decide +kernel
theorem dX9_swap_28 : decode cX9_swap 28 = .ok (.aload_n 0, 1) := by decide +kernel
theorem dX9_swap_29 : decode cX9_swap 29 = .ok (.iconst 1, 1) := by decide +kernel
theorem dX9_swap_30 : decode cX9_swap 30 = .ok (.invokevirtual 66, 3) := by decide +kernel
theorem dX9_swap_33 : decode cX9_swap 33 = .ok (.ireturn, 1) := by decide +kernel
theorem dX9_swap_34 : decode cX9_swap 34 = .ok (.aload_n 0, 1) := by decide +kernel
theorem dX9_swap_35 : decode cX9_swap 35 = .ok (.iload_n 1, 1) := by decide +kernel
theorem dX9_swap_36 : decode cX9_swap 36 = .ok (.iload_n 2, 1) := by decide +kernel
theorem dX9_swap_37 : decode cX9_swap 37 = .ok (.iload_n 3, 1) := by decide +kernel
theorem dX9_swap_38 : decode cX9_swap 38 = .ok (.invokevirtual 119, 3) := by decide +kernel
theorem dX9_swap_41 : decode cX9_swap 41 = .ok (.ifCond .ne 9, 3) := by decide +kernel
theorem dX9_swap_44 : decode cX9_swap 44 = .ok (.aload_n 0, 1) := by decide +kernel
theorem dX9_swap_45 : decode cX9_swap 45 = .ok (.iconst 2, 1) := by decide +kernel
theorem dX9_swap_46 : decode cX9_swap 46 = .ok (.invokevirtual 66, 3) := by decide +kernel
theorem dX9_swap_49 : decode cX9_swap 49 = .ok (.ireturn, 1) := by decide +kernel
theorem dX9_swap_50 : decode cX9_swap 50 = .ok (.aload_n 0, 1) := by decide +kernel
theorem dX9_swap_51 : decode cX9_swap 51 = .ok (.getfield 26, 3) := by decide +kernel
theorem dX9_swap_54 : decode cX9_swap 54 = .ok (.bipush 7, 2) := by decide +kernel
theorem dX9_swap_56 : decode cX9_swap 56 = .ok (.iload_n 1, 1) := by decide +kernel
theorem dX9_swap_57 : decode cX9_swap 57 = .ok (.imul, 1) := by decide +kernel
theorem dX9_swap_58 : decode cX9_swap 58 = .ok (.iload_n 3, 1) := by decide +kernel
theorem dX9_swap_59 : decode cX9_swap 59 = .ok (.iadd, 1) := by decide +kernel
theorem dX9_swap_60 : decode cX9_swap 60 = .ok (.iaload, 1) := by decide +kernel
theorem dX9_swap_61 : decode cX9_swap 61 = .ok (.istore 4, 2) := by decide +kernel
theorem dX9_swap_63 : decode cX9_swap 63 = .ok (.aload_n 0, 1) := by decide +kernel
theorem dX9_swap_64 : decode cX9_swap 64 = .ok (.getfield 26, 3) := by decide +kernel
theorem dX9_swap_67 : decode cX9_swap 67 = .ok (.bipush 7, 2) := by decide +kernel
theorem dX9_swap_69 : decode cX9_swap 69 = .ok (.iload_n 1, 1) := by decide +kernel
theorem dX9_swap_70 : decode cX9_swap 70 = .ok (.imul, 1) := by decide +kernel
theorem dX9_swap_71 : decode cX9_swap 71 = .ok (.iload_n 3, 1) := by decide +kernel
theorem dX9_swap_72 : decode cX9_swap 72 = .ok (.iadd, 1) := by decide +kernel
theorem dX9_swap_73 : decode cX9_swap 73 = .ok (.aload_n 0, 1) := by decide +kernel
theorem dX9_swap_74 : decode cX9_swap 74 = .ok (.getfield 26, 3) := by decide +kernel
theorem dX9_swap_77 : decode cX9_swap 77 = .ok (.bipush 7, 2) := by decide +kernel
theorem dX9_swap_79 : decode cX9_swap 79 = .ok (.iload_n 2, 1) := by decide +kernel
theorem dX9_swap_80 : decode cX9_swap 80 = .ok (.imul, 1) := by decide +kernel
theorem dX9_swap_81 : decode cX9_swap 81 = .ok (.iload_n 3, 1) := by decide +kernel
theorem dX9_swap_82 : decode cX9_swap 82 = .ok (.iadd, 1) := by decide +kernel
theorem dX9_swap_83 : decode cX9_swap 83 = .ok (.iaload, 1) := by decide +kernel
theorem dX9_swap_84 : decode cX9_swap 84 = .ok (.iastore, 1) := by decide +kernel
theorem dX9_swap_85 : decode cX9_swap 85 = .ok (.aload_n 0, 1) := by decide +kernel
theorem dX9_swap_86 : decode cX9_swap 86 = .ok (.getfield 26, 3) := by decide +kernel
theorem dX9_swap_89 : decode cX9_swap 89 = .ok (.bipush 7, 2) := by decide +kernel
theorem dX9_swap_91 : decode cX9_swap 91 = .ok (.iload_n 2, 1) := by decide +kernel
theorem dX9_swap_92 : decode cX9_swap 92 = .ok (.imul, 1) := by decide +kernel
theorem dX9_swap_93 : decode cX9_swap 93 = .ok (.iload_n 3, 1) := by decide +kernel
theorem dX9_swap_94 : decode cX9_swap 94 = .ok (.iadd, 1) := by decide +kernel
theorem dX9_swap_95 : decode cX9_swap 95 = .ok (.iload 4, 2) := by decide +kernel
theorem dX9_swap_97 : decode cX9_swap 97 = .ok (.iastore, 1) := by decide +kernel
theorem dX9_swap_98 : decode cX9_swap 98 = .ok (.aload_n 0, 1) := by decide +kernel
theorem dX9_swap_99 : decode cX9_swap 99 = .ok (.iload_n 1, 1) := by decide +kernel
theorem dX9_swap_100 : decode cX9_swap 100 = .ok (.aload_n 0, 1) := by decide +kernel
theorem dX9_swap_101 : decode cX9_swap 101 = .ok (.iload_n 1, 1) := by decide +kernel
theorem dX9_swap_102 : decode cX9_swap 102 = .ok (.invokevirtual 105, 3) := by decide +kernel
theorem dX9_swap_105 : decode cX9_swap 105 = .ok (.invokevirtual 86, 3) := by decide +kernel
theorem dX9_swap_108 : decode cX9_swap 108 = .ok (.aload_n 0, 1) := by decide +kernel
theorem dX9_swap_109 : decode cX9_swap 109 = .ok (.iload_n 2, 1) := by decide +kernel
theorem dX9_swap_110 : decode cX9_swap 110 = .ok (.aload_n 0, 1) := by decide +kernel
theorem dX9_swap_111 : decode cX9_swap 111 = .ok (.iload_n 2, 1) := by decide +kernel
theorem dX9_swap_112 : decode cX9_swap 112 = .ok (.invokevirtual 105, 3) := by decide +kernel
theorem dX9_swap_115 : decode cX9_swap 115 = .ok (.invokevirtual 86, 3) := by decide +kernel
theorem dX9_swap_118 : decode cX9_swap 118 = .ok (.iadd, 1) := by decide +kernel
theorem dX9_swap_119 : decode cX9_swap 119 = .ok (.ireturn, 1) := by decide +kernel
set_option maxRecDepth 20000 in
theorem ggX9_closeWeek_X9_weekOf : GoodIn wsX9_closeWeek wsX9_weekOf := goodIn_r _ [13, 14, 25, 26, 27, 28, 29, 30, 31, 32, 33, 34, 35, 36, 37, 38, 39] (by decide +kernel) (by decide +kernel)
set_option maxRecDepth 20000 in
theorem gX9_closeWeek_X9_weekOf : GoodIn wsX9_closeWeek (wsV RX9 105 RX9 yX9_weekOf wsX9_weekOf) := goodIn_app (goodIn_of _ (by decide +kernel)) ggX9_closeWeek_X9_weekOf
set_option maxRecDepth 20000 in
theorem ggX9_closeWeek_X9_entryOf : GoodIn wsX9_closeWeek wsX9_entryOf := goodIn_r _ [17] (by decide +kernel) (by decide +kernel)
set_option maxRecDepth 20000 in
theorem gX9_closeWeek_X9_entryOf : GoodIn wsX9_closeWeek (va_wsS RX9 58 yX9_entryOf wsX9_entryOf) := goodIn_app (goodIn_of _ (by decide +kernel)) ggX9_closeWeek_X9_entryOf
set_option maxRecDepth 20000 in
theorem ggX9_closeWeek_X9_weekendOf : GoodIn wsX9_closeWeek wsX9_weekendOf := goodIn_r _ [20, 15, 16, 12, 17] (by decide +kernel) (by decide +kernel)
set_option maxRecDepth 20000 in
theorem gX9_closeWeek_X9_weekendOf : GoodIn wsX9_closeWeek (va_wsS RX9 82 yX9_weekendOf wsX9_weekendOf) := goodIn_app (goodIn_of _ (by decide +kernel)) ggX9_closeWeek_X9_weekendOf
set_option maxRecDepth 20000 in
theorem ggX9_closeWeek_X9_enter : GoodIn wsX9_closeWeek wsX9_enter := goodIn_r _ [24, 14, 15, 16, 12, 17, 25, 26, 27, 28, 29, 30, 31, 32, 33, 34, 35, 36, 37, 38, 39] (by decide +kernel) (by decide +kernel)
set_option maxRecDepth 20000 in
theorem gX9_closeWeek_X9_enter : GoodIn wsX9_closeWeek (wsV RX9 108 RX9 yX9_enter wsX9_enter) := goodIn_app (goodIn_of _ (by decide +kernel)) ggX9_closeWeek_X9_enter
theorem dX9_closeWeek_0 : decode cX9_closeWeek 0 = .ok (.aload_n 0, 1) := by decide +kernel
theorem dX9_closeWeek_1 : decode cX9_closeWeek 1 = .ok (.iconst 0, 1) := by decide +kernel
theorem dX9_closeWeek_2 : decode cX9_closeWeek 2 = .ok (.putfield 44, 3) := by decide +kernel
theorem dX9_closeWeek_5 : decode cX9_closeWeek 5 = .ok (.iconst 0, 1) := by decide +kernel
theorem dX9_closeWeek_6 : decode cX9_closeWeek 6 = .ok (.istore_n 1, 1) := by decide +kernel
theorem dX9_closeWeek_7 : decode cX9_closeWeek 7 = .ok (.iload_n 1, 1) := by decide +kernel
theorem dX9_closeWeek_8 : decode cX9_closeWeek 8 = .ok (.aload_n 0, 1) := by decide +kernel
theorem dX9_closeWeek_9 : decode cX9_closeWeek 9 = .ok (.getfield 47, 3) := by decide +kernel
theorem dX9_closeWeek_12 : decode cX9_closeWeek 12 = .ok (.if_icmp .ge 105, 3) := by decide +kernel
theorem dX9_closeWeek_15 : decode cX9_closeWeek 15 = .ok (.aload_n 0, 1) := by decide +kernel
theorem dX9_closeWeek_16 : decode cX9_closeWeek 16 = .ok (.iload_n 1, 1) := by decide +kernel
theorem dX9_closeWeek_17 : decode cX9_closeWeek 17 = .ok (.invokevirtual 105, 3) := by decide +kernel
theorem dX9_closeWeek_20 : decode cX9_closeWeek 20 = .ok (.istore_n 2, 1) := by decide +kernel
theorem dX9_closeWeek_21 : decode cX9_closeWeek 21 = .ok (.iconst 0, 1) := by decide +kernel
theorem dX9_closeWeek_22 : decode cX9_closeWeek 22 = .ok (.istore_n 3, 1) := by decide +kernel
theorem dX9_closeWeek_23 : decode cX9_closeWeek 23 = .ok (.iload_n 3, 1) := by decide +kernel
theorem dX9_closeWeek_24 : decode cX9_closeWeek 24 = .ok (.bipush 7, 2) := by decide +kernel
theorem dX9_closeWeek_26 : decode cX9_closeWeek 26 = .ok (.if_icmp .ge 47, 3) := by decide +kernel
theorem dX9_closeWeek_29 : decode cX9_closeWeek 29 = .ok (.aload_n 0, 1) := by decide +kernel
theorem dX9_closeWeek_30 : decode cX9_closeWeek 30 = .ok (.getfield 38, 3) := by decide +kernel
theorem dX9_closeWeek_33 : decode cX9_closeWeek 33 = .ok (.iload_n 1, 1) := by decide +kernel
theorem dX9_closeWeek_34 : decode cX9_closeWeek 34 = .ok (.iload_n 2, 1) := by decide +kernel
theorem dX9_closeWeek_35 : decode cX9_closeWeek 35 = .ok (.iload_n 3, 1) := by decide +kernel
theorem dX9_closeWeek_36 : decode cX9_closeWeek 36 = .ok (.invokestatic 58, 3) := by decide +kernel
theorem dX9_closeWeek_39 : decode cX9_closeWeek 39 = .ok (.ifCond .le 14, 3) := by decide +kernel
theorem dX9_closeWeek_42 : decode cX9_closeWeek 42 = .ok (.aload_n 0, 1) := by decide +kernel
theorem dX9_closeWeek_43 : decode cX9_closeWeek 43 = .ok (.getfield 38, 3) := by decide +kernel
theorem dX9_closeWeek_46 : decode cX9_closeWeek 46 = .ok (.iload_n 1, 1) := by decide +kernel
theorem dX9_closeWeek_47 : decode cX9_closeWeek 47 = .ok (.iaload, 1) := by decide +kernel
theorem dX9_closeWeek_48 : decode cX9_closeWeek 48 = .ok (.iconst 1, 1) := by decide +kernel
theorem dX9_closeWeek_49 : decode cX9_closeWeek 49 = .ok (.iadd, 1) := by decide +kernel
theorem dX9_closeWeek_50 : decode cX9_closeWeek 50 = .ok (.goto 4, 3) := by decide +kernel
theorem dX9_closeWeek_53 : decode cX9_closeWeek 53 = .ok (.iconst 0, 1) := by decide +kernel
theorem dX9_closeWeek_54 : decode cX9_closeWeek 54 = .ok (.iastore, 1) := by decide +kernel
theorem dX9_closeWeek_55 : decode cX9_closeWeek 55 = .ok (.aload_n 0, 1) := by decide +kernel
theorem dX9_closeWeek_56 : decode cX9_closeWeek 56 = .ok (.getfield 29, 3) := by decide +kernel
theorem dX9_closeWeek_59 : decode cX9_closeWeek 59 = .ok (.bipush 7, 2) := by decide +kernel
theorem dX9_closeWeek_61 : decode cX9_closeWeek 61 = .ok (.iload_n 1, 1) := by decide +kernel
theorem dX9_closeWeek_62 : decode cX9_closeWeek 62 = .ok (.imul, 1) := by decide +kernel
theorem dX9_closeWeek_63 : decode cX9_closeWeek 63 = .ok (.iload_n 3, 1) := by decide +kernel
theorem dX9_closeWeek_64 : decode cX9_closeWeek 64 = .ok (.iadd, 1) := by decide +kernel
theorem dX9_closeWeek_65 : decode cX9_closeWeek 65 = .ok (.iconst (-1), 1) := by decide +kernel
theorem dX9_closeWeek_66 : decode cX9_closeWeek 66 = .ok (.iastore, 1) := by decide +kernel
theorem dX9_closeWeek_67 : decode cX9_closeWeek 67 = .ok (.iinc 3 1, 3) := by decide +kernel
theorem dX9_closeWeek_70 : decode cX9_closeWeek 70 = .ok (.goto (-47), 3) := by decide +kernel
theorem dX9_closeWeek_73 : decode cX9_closeWeek 73 = .ok (.aload_n 0, 1) := by decide +kernel
theorem dX9_closeWeek_74 : decode cX9_closeWeek 74 = .ok (.getfield 35, 3) := by decide +kernel
theorem dX9_closeWeek_77 : decode cX9_closeWeek 77 = .ok (.iload_n 1, 1) := by decide +kernel
theorem dX9_closeWeek_78 : decode cX9_closeWeek 78 = .ok (.iload_n 2, 1) := by decide +kernel
theorem dX9_closeWeek_79 : decode cX9_closeWeek 79 = .ok (.bipush 6, 2) := by decide +kernel
theorem dX9_closeWeek_81 : decode cX9_closeWeek 81 = .ok (.invokestatic 58, 3) := by decide +kernel
theorem dX9_closeWeek_84 : decode cX9_closeWeek 84 = .ok (.iastore, 1) := by decide +kernel
theorem dX9_closeWeek_85 : decode cX9_closeWeek 85 = .ok (.aload_n 0, 1) := by decide +kernel
theorem dX9_closeWeek_86 : decode cX9_closeWeek 86 = .ok (.getfield 41, 3) := by decide +kernel
theorem dX9_closeWeek_89 : decode cX9_closeWeek 89 = .ok (.iload_n 1, 1) := by decide +kernel
theorem dX9_closeWeek_90 : decode cX9_closeWeek 90 = .ok (.dup2, 1) := by decide +kernel
theorem dX9_closeWeek_91 : decode cX9_closeWeek 91 = .ok (.iaload, 1) := by decide +kernel
theorem dX9_closeWeek_92 : decode cX9_closeWeek 92 = .ok (.iload_n 2, 1) := by decide +kernel
theorem dX9_closeWeek_93 : decode cX9_closeWeek 93 = .ok (.invokestatic 82, 3) := by decide +kernel
theorem dX9_closeWeek_96 : decode cX9_closeWeek 96 = .ok (.iadd, 1) := by decide +kernel
theorem dX9_closeWeek_97 : decode cX9_closeWeek 97 = .ok (.iastore, 1) := by decide +kernel
theorem dX9_closeWeek_98 : decode cX9_closeWeek 98 = .ok (.aload_n 0, 1) := by decide +kernel
theorem dX9_closeWeek_99 : decode cX9_closeWeek 99 = .ok (.getfield 32, 3) := by decide +kernel
theorem dX9_closeWeek_102 : decode cX9_closeWeek 102 = .ok (.iload_n 1, 1) := by decide +kernel
theorem dX9_closeWeek_103 : decode cX9_closeWeek 103 = .ok (.iconst 0, 1) := by decide +kernel
theorem dX9_closeWeek_104 : decode cX9_closeWeek 104 = .ok (.iastore, 1) := by decide +kernel
theorem dX9_closeWeek_105 : decode cX9_closeWeek 105 = .ok (.aload_n 0, 1) := by decide +kernel
theorem dX9_closeWeek_106 : decode cX9_closeWeek 106 = .ok (.iload_n 1, 1) := by decide +kernel
theorem dX9_closeWeek_107 : decode cX9_closeWeek 107 = .ok (.iconst 0, 1) := by decide +kernel
theorem dX9_closeWeek_108 : decode cX9_closeWeek 108 = .ok (.invokevirtual 108, 3) := by decide +kernel
theorem dX9_closeWeek_111 : decode cX9_closeWeek 111 = .ok (.iinc 1 1, 3) := by decide +kernel
theorem dX9_closeWeek_114 : decode cX9_closeWeek 114 = .ok (.goto (-107), 3) := by decide +kernel
theorem dX9_closeWeek_117 : decode cX9_closeWeek 117 = .ok (.aload_n 0, 1) := by decide +kernel
theorem dX9_closeWeek_118 : decode cX9_closeWeek 118 = .ok (.dup, 1) := by decide +kernel
theorem dX9_closeWeek_119 : decode cX9_closeWeek 119 = .ok (.getfield 122, 3) := by decide +kernel
theorem dX9_closeWeek_122 : decode cX9_closeWeek 122 = .ok (.iconst 1, 1) := by decide +kernel
theorem dX9_closeWeek_123 : decode cX9_closeWeek 123 = .ok (.iadd, 1) := by decide +kernel
theorem dX9_closeWeek_124 : decode cX9_closeWeek 124 = .ok (.putfield 122, 3) := by decide +kernel
theorem dX9_closeWeek_127 : decode cX9_closeWeek 127 = .ok (.aload_n 0, 1) := by decide +kernel
theorem dX9_closeWeek_128 : decode cX9_closeWeek 128 = .ok (.getfield 122, 3) := by decide +kernel
theorem dX9_closeWeek_131 : decode cX9_closeWeek 131 = .ok (.ireturn, 1) := by decide +kernel
theorem dX9_people_0 : decode cX9_people 0 = .ok (.aload_n 0, 1) := by decide +kernel
theorem dX9_people_1 : decode cX9_people 1 = .ok (.iconst 0, 1) := by decide +kernel
theorem dX9_people_2 : decode cX9_people 2 = .ok (.putfield 44, 3) := by decide +kernel
theorem dX9_people_5 : decode cX9_people 5 = .ok (.aload_n 0, 1) := by decide +kernel
theorem dX9_people_6 : decode cX9_people 6 = .ok (.getfield 47, 3) := by decide +kernel
theorem dX9_people_9 : decode cX9_people 9 = .ok (.ireturn, 1) := by decide +kernel
set_option maxRecDepth 20000 in
theorem ggX9_entry_X9_isPerson : GoodIn wsX9_entry wsX9_isPerson := goodIn_r _ [7, 8, 9, 10, 6, 11, 19, 20, 21, 22, 23, 24, 25, 26, 27, 28, 29, 30, 31, 32, 33] (by decide +kernel) (by decide +kernel)
set_option maxRecDepth 20000 in
theorem gX9_entry_X9_isPerson : GoodIn wsX9_entry (wsV RX9 54 RX9 yX9_isPerson wsX9_isPerson) := goodIn_app (goodIn_of _ (by decide +kernel)) ggX9_entry_X9_isPerson
set_option maxRecDepth 20000 in
theorem ggX9_entry_X9_isDay : GoodIn wsX9_entry wsX9_isDay := goodIn_r _ [14, 9, 10, 6, 11] (by decide +kernel) (by decide +kernel)
set_option maxRecDepth 20000 in
theorem gX9_entry_X9_isDay : GoodIn wsX9_entry (va_wsS RX9 69 yX9_isDay wsX9_isDay) := goodIn_app (goodIn_of _ (by decide +kernel)) ggX9_entry_X9_isDay
set_option maxRecDepth 20000 in
theorem ggX9_entry_X9_fails : GoodIn wsX9_entry wsX9_fails := goodIn_r _ [18, 1, 19, 20, 21, 22, 23, 24, 25, 26, 27, 28, 29, 30, 31, 32, 33] (by decide +kernel) (by decide +kernel)
set_option maxRecDepth 20000 in
theorem gX9_entry_X9_fails : GoodIn wsX9_entry (wsV RX9 66 RX9 yX9_fails wsX9_fails) := goodIn_app (goodIn_of _ (by decide +kernel)) ggX9_entry_X9_fails
theorem dX9_entry_0 : decode cX9_entry 0 = .ok (.aload_n 0, 1) := by decide +kernel
theorem dX9_entry_1 : decode cX9_entry 1 = .ok (.iconst 0, 1) := by decide +kernel
theorem dX9_entry_2 : decode cX9_entry 2 = .ok (.putfield 44, 3) := by decide +kernel
theorem dX9_entry_5 : decode cX9_entry 5 = .ok (.aload_n 0, 1) := by decide +kernel
theorem dX9_entry_6 : decode cX9_entry 6 = .ok (.iload_n 1, 1) := by decide +kernel
theorem dX9_entry_7 : decode cX9_entry 7 = .ok (.invokevirtual 54, 3) := by decide +kernel
theorem dX9_entry_10 : decode cX9_entry 10 = .ok (.ifCond .eq 24, 3) := by decide +kernel
theorem dX9_entry_13 : decode cX9_entry 13 = .ok (.iload_n 2, 1) := by decide +kernel
theorem dX9_entry_14 : decode cX9_entry 14 = .ok (.invokestatic 69, 3) := by decide +kernel
theorem dX9_entry_17 : decode cX9_entry 17 = .ok (.ifCond .eq 17, 3) := by decide +kernel
theorem dX9_entry_20 : decode cX9_entry 20 = .ok (.aload_n 0, 1) := by decide +kernel
theorem dX9_entry_21 : decode cX9_entry 21 = .ok (.getfield 26, 3) := by decide +kernel
theorem dX9_entry_24 : decode cX9_entry 24 = .ok (.bipush 7, 2) := by decide +kernel
theorem dX9_entry_26 : decode cX9_entry 26 = .ok (.iload_n 1, 1) := by decide +kernel
theorem dX9_entry_27 : decode cX9_entry 27 = .ok (.imul, 1) := by decide +kernel
theorem dX9_entry_28 : decode cX9_entry 28 = .ok (.iload_n 2, 1) := by decide +kernel
theorem dX9_entry_29 : decode cX9_entry 29 = .ok (.iadd, 1) := by decide +kernel
theorem dX9_entry_30 : decode cX9_entry 30 = .ok (.iaload, 1) := by decide +kernel
theorem dX9_entry_31 : decode cX9_entry 31 = .ok (.goto 8, 3) := by decide +kernel
theorem dX9_entry_34 : decode cX9_entry 34 = .ok (.aload_n 0, 1) := by decide +kernel
theorem dX9_entry_35 : decode cX9_entry 35 = .ok (.iconst 1, 1) := by decide +kernel
theorem dX9_entry_36 : decode cX9_entry 36 = .ok (.invokevirtual 66, 3) := by decide +kernel
theorem dX9_entry_39 : decode cX9_entry 39 = .ok (.ireturn, 1) := by decide +kernel
set_option maxRecDepth 20000 in
theorem ggX9_gaps_X9_allGaps : GoodIn wsX9_gaps wsX9_allGaps := goodIn_r _ [6, 7, 8, 9, 5, 10, 11, 12, 13, 14, 15, 16, 17, 18, 19, 20, 21, 22, 23, 24, 25, 26, 27, 28, 29, 30, 31, 32] (by decide +kernel) (by decide +kernel)
set_option maxRecDepth 20000 in
theorem gX9_gaps_X9_allGaps : GoodIn wsX9_gaps (wsV RX9 112 RX9 yX9_allGaps wsX9_allGaps) := goodIn_app (goodIn_of _ (by decide +kernel)) ggX9_gaps_X9_allGaps
theorem dX9_gaps_0 : decode cX9_gaps 0 = .ok (.aload_n 0, 1) := by decide +kernel
theorem dX9_gaps_1 : decode cX9_gaps 1 = .ok (.iconst 0, 1) := by decide +kernel
theorem dX9_gaps_2 : decode cX9_gaps 2 = .ok (.putfield 44, 3) := by decide +kernel
theorem dX9_gaps_5 : decode cX9_gaps 5 = .ok (.aload_n 0, 1) := by decide +kernel
theorem dX9_gaps_6 : decode cX9_gaps 6 = .ok (.invokevirtual 112, 3) := by decide +kernel
theorem dX9_gaps_9 : decode cX9_gaps 9 = .ok (.ireturn, 1) := by decide +kernel
set_option maxRecDepth 20000 in
theorem ggX9_gap_X9_isDay : GoodIn wsX9_gap wsX9_isDay := goodIn_r _ [5, 6, 7, 4, 8] (by decide +kernel) (by decide +kernel)
set_option maxRecDepth 20000 in
theorem gX9_gap_X9_isDay : GoodIn wsX9_gap (va_wsS RX9 69 yX9_isDay wsX9_isDay) := goodIn_app (goodIn_of _ (by decide +kernel)) ggX9_gap_X9_isDay
set_option maxRecDepth 20000 in
theorem ggX9_gap_X9_isKind : GoodIn wsX9_gap wsX9_isKind := goodIn_r _ [11, 6, 7, 4, 8] (by decide +kernel) (by decide +kernel)
set_option maxRecDepth 20000 in
theorem gX9_gap_X9_isKind : GoodIn wsX9_gap (va_wsS RX9 72 yX9_isKind wsX9_isKind) := goodIn_app (goodIn_of _ (by decide +kernel)) ggX9_gap_X9_isKind
set_option maxRecDepth 20000 in
theorem ggX9_gap_X9_gapOf : GoodIn wsX9_gap wsX9_gapOf := goodIn_r _ [15, 16, 17, 18, 19, 4, 20, 21, 22, 27, 28, 29, 30, 31, 32, 33, 34, 35, 36, 37, 38, 39, 40, 41] (by decide +kernel) (by decide +kernel)
set_option maxRecDepth 20000 in
theorem gX9_gap_X9_gapOf : GoodIn wsX9_gap (wsV RX9 79 RX9 yX9_gapOf wsX9_gapOf) := goodIn_app (goodIn_of _ (by decide +kernel)) ggX9_gap_X9_gapOf
set_option maxRecDepth 20000 in
theorem ggX9_gap_X9_fails : GoodIn wsX9_gap wsX9_fails := goodIn_r _ [26, 1, 27, 28, 29, 30, 31, 32, 33, 34, 35, 36, 37, 38, 39, 40, 41] (by decide +kernel) (by decide +kernel)
set_option maxRecDepth 20000 in
theorem gX9_gap_X9_fails : GoodIn wsX9_gap (wsV RX9 66 RX9 yX9_fails wsX9_fails) := goodIn_app (goodIn_of _ (by decide +kernel)) ggX9_gap_X9_fails
theorem dX9_gap_0 : decode cX9_gap 0 = .ok (.aload_n 0, 1) := by decide +kernel
theorem dX9_gap_1 : decode cX9_gap 1 = .ok (.iconst 0, 1) := by decide +kernel
theorem dX9_gap_2 : decode cX9_gap 2 = .ok (.putfield 44, 3) := by decide +kernel
theorem dX9_gap_5 : decode cX9_gap 5 = .ok (.iload_n 1, 1) := by decide +kernel
theorem dX9_gap_6 : decode cX9_gap 6 = .ok (.invokestatic 69, 3) := by decide +kernel
theorem dX9_gap_9 : decode cX9_gap 9 = .ok (.ifCond .eq 20, 3) := by decide +kernel
theorem dX9_gap_12 : decode cX9_gap 12 = .ok (.iload_n 2, 1) := by decide +kernel
theorem dX9_gap_13 : decode cX9_gap 13 = .ok (.invokestatic 72, 3) := by decide +kernel
theorem dX9_gap_16 : decode cX9_gap 16 = .ok (.ifCond .eq 13, 3) := by decide +kernel
theorem dX9_gap_19 : decode cX9_gap 19 = .ok (.aload_n 0, 1) := by decide +kernel
theorem dX9_gap_20 : decode cX9_gap 20 = .ok (.iload_n 1, 1) := by decide +kernel
theorem dX9_gap_21 : decode cX9_gap 21 = .ok (.iload_n 2, 1) := by decide +kernel
theorem dX9_gap_22 : decode cX9_gap 22 = .ok (.iconst (-1), 1) := by decide +kernel
theorem dX9_gap_23 : decode cX9_gap 23 = .ok (.invokevirtual 79, 3) := by decide +kernel
theorem dX9_gap_26 : decode cX9_gap 26 = .ok (.goto 8, 3) := by decide +kernel
theorem dX9_gap_29 : decode cX9_gap 29 = .ok (.aload_n 0, 1) := by decide +kernel
theorem dX9_gap_30 : decode cX9_gap 30 = .ok (.iconst 1, 1) := by decide +kernel
theorem dX9_gap_31 : decode cX9_gap 31 = .ok (.invokevirtual 66, 3) := by decide +kernel
theorem dX9_gap_34 : decode cX9_gap 34 = .ok (.ireturn, 1) := by decide +kernel
set_option maxRecDepth 20000 in
theorem ggX9_shifts_X9_isAsked : GoodIn wsX9_shifts wsX9_isAsked := goodIn_r _ [5, 6, 7, 8, 9, 4, 10, 11, 12, 13, 14, 26, 27, 28, 29, 30, 31, 32, 33, 34, 35, 36, 37, 38, 39, 40] (by decide +kernel) (by decide +kernel)
set_option maxRecDepth 20000 in
theorem gX9_shifts_X9_isAsked : GoodIn wsX9_shifts (wsV RX9 125 RX9 yX9_isAsked wsX9_isAsked) := goodIn_app (goodIn_of _ (by decide +kernel)) ggX9_shifts_X9_isAsked
set_option maxRecDepth 20000 in
theorem ggX9_shifts_X9_weekOf : GoodIn wsX9_shifts wsX9_weekOf := goodIn_r _ [18, 19, 26, 27, 28, 29, 30, 31, 32, 33, 34, 35, 36, 37, 38, 39, 40] (by decide +kernel) (by decide +kernel)
set_option maxRecDepth 20000 in
theorem gX9_shifts_X9_weekOf : GoodIn wsX9_shifts (wsV RX9 105 RX9 yX9_weekOf wsX9_weekOf) := goodIn_app (goodIn_of _ (by decide +kernel)) ggX9_shifts_X9_weekOf
set_option maxRecDepth 20000 in
theorem ggX9_shifts_X9_countShifts : GoodIn wsX9_shifts wsX9_countShifts := goodIn_r _ [22, 23, 24, 4, 25] (by decide +kernel) (by decide +kernel)
set_option maxRecDepth 20000 in
theorem gX9_shifts_X9_countShifts : GoodIn wsX9_shifts (va_wsS RX9 62 yX9_countShifts wsX9_countShifts) := goodIn_app (goodIn_of _ (by decide +kernel)) ggX9_shifts_X9_countShifts
theorem dX9_shifts_0 : decode cX9_shifts 0 = .ok (.aload_n 0, 1) := by decide +kernel
theorem dX9_shifts_1 : decode cX9_shifts 1 = .ok (.iload_n 1, 1) := by decide +kernel
theorem dX9_shifts_2 : decode cX9_shifts 2 = .ok (.invokevirtual 125, 3) := by decide +kernel
theorem dX9_shifts_5 : decode cX9_shifts 5 = .ok (.ifCond .eq 14, 3) := by decide +kernel
theorem dX9_shifts_8 : decode cX9_shifts 8 = .ok (.aload_n 0, 1) := by decide +kernel
theorem dX9_shifts_9 : decode cX9_shifts 9 = .ok (.iload_n 1, 1) := by decide +kernel
theorem dX9_shifts_10 : decode cX9_shifts 10 = .ok (.invokevirtual 105, 3) := by decide +kernel
theorem dX9_shifts_13 : decode cX9_shifts 13 = .ok (.invokestatic 62, 3) := by decide +kernel
theorem dX9_shifts_16 : decode cX9_shifts 16 = .ok (.goto 4, 3) := by decide +kernel
theorem dX9_shifts_19 : decode cX9_shifts 19 = .ok (.iconst 0, 1) := by decide +kernel
theorem dX9_shifts_20 : decode cX9_shifts 20 = .ok (.ireturn, 1) := by decide +kernel
set_option maxRecDepth 20000 in
theorem ggX9_weekends_X9_isAsked : GoodIn wsX9_weekends wsX9_isAsked := goodIn_r _ [6, 7, 8, 9, 10, 5, 11, 12, 13, 14, 15, 16, 17, 18, 19, 20, 21, 22, 23, 24, 25, 26, 27, 28, 29, 30] (by decide +kernel) (by decide +kernel)
set_option maxRecDepth 20000 in
theorem gX9_weekends_X9_isAsked : GoodIn wsX9_weekends (wsV RX9 125 RX9 yX9_isAsked wsX9_isAsked) := goodIn_app (goodIn_of _ (by decide +kernel)) ggX9_weekends_X9_isAsked
theorem dX9_weekends_0 : decode cX9_weekends 0 = .ok (.aload_n 0, 1) := by decide +kernel
theorem dX9_weekends_1 : decode cX9_weekends 1 = .ok (.iload_n 1, 1) := by decide +kernel
theorem dX9_weekends_2 : decode cX9_weekends 2 = .ok (.invokevirtual 125, 3) := by decide +kernel
theorem dX9_weekends_5 : decode cX9_weekends 5 = .ok (.ifCond .eq 12, 3) := by decide +kernel
theorem dX9_weekends_8 : decode cX9_weekends 8 = .ok (.aload_n 0, 1) := by decide +kernel
theorem dX9_weekends_9 : decode cX9_weekends 9 = .ok (.getfield 41, 3) := by decide +kernel
theorem dX9_weekends_12 : decode cX9_weekends 12 = .ok (.iload_n 1, 1) := by decide +kernel
theorem dX9_weekends_13 : decode cX9_weekends 13 = .ok (.iaload, 1) := by decide +kernel
theorem dX9_weekends_14 : decode cX9_weekends 14 = .ok (.goto 4, 3) := by decide +kernel
theorem dX9_weekends_17 : decode cX9_weekends 17 = .ok (.iconst 0, 1) := by decide +kernel
theorem dX9_weekends_18 : decode cX9_weekends 18 = .ok (.ireturn, 1) := by decide +kernel
set_option maxRecDepth 20000 in
theorem ggX9_broken_X9_isAsked : GoodIn wsX9_broken wsX9_isAsked := goodIn_r _ [5, 6, 7, 8, 9, 4, 10, 11, 12, 13, 14, 28, 29, 30, 31, 32, 33, 34, 35, 36, 37, 38, 39, 40, 41, 42] (by decide +kernel) (by decide +kernel)
set_option maxRecDepth 20000 in
theorem gX9_broken_X9_isAsked : GoodIn wsX9_broken (wsV RX9 125 RX9 yX9_isAsked wsX9_isAsked) := goodIn_app (goodIn_of _ (by decide +kernel)) ggX9_broken_X9_isAsked
set_option maxRecDepth 20000 in
theorem ggX9_broken_X9_weekOf : GoodIn wsX9_broken wsX9_weekOf := goodIn_r _ [18, 19, 28, 29, 30, 31, 32, 33, 34, 35, 36, 37, 38, 39, 40, 41, 42] (by decide +kernel) (by decide +kernel)
set_option maxRecDepth 20000 in
theorem gX9_broken_X9_weekOf : GoodIn wsX9_broken (wsV RX9 105 RX9 yX9_weekOf wsX9_weekOf) := goodIn_app (goodIn_of _ (by decide +kernel)) ggX9_broken_X9_weekOf
set_option maxRecDepth 20000 in
theorem ggX9_broken_X9_brokenBy : GoodIn wsX9_broken wsX9_brokenBy := goodIn_r _ [23, 24, 25, 26, 4, 27, 28, 29, 30, 31, 32, 33, 34, 35, 36, 37, 38, 39, 40, 41, 42] (by decide +kernel) (by decide +kernel)
set_option maxRecDepth 20000 in
theorem gX9_broken_X9_brokenBy : GoodIn wsX9_broken (wsV RX9 86 RX9 yX9_brokenBy wsX9_brokenBy) := goodIn_app (goodIn_of _ (by decide +kernel)) ggX9_broken_X9_brokenBy
theorem dX9_broken_0 : decode cX9_broken 0 = .ok (.aload_n 0, 1) := by decide +kernel
theorem dX9_broken_1 : decode cX9_broken 1 = .ok (.iload_n 1, 1) := by decide +kernel
theorem dX9_broken_2 : decode cX9_broken 2 = .ok (.invokevirtual 125, 3) := by decide +kernel
theorem dX9_broken_5 : decode cX9_broken 5 = .ok (.ifCond .eq 16, 3) := by decide +kernel
theorem dX9_broken_8 : decode cX9_broken 8 = .ok (.aload_n 0, 1) := by decide +kernel
theorem dX9_broken_9 : decode cX9_broken 9 = .ok (.iload_n 1, 1) := by decide +kernel
theorem dX9_broken_10 : decode cX9_broken 10 = .ok (.aload_n 0, 1) := by decide +kernel
theorem dX9_broken_11 : decode cX9_broken 11 = .ok (.iload_n 1, 1) := by decide +kernel
theorem dX9_broken_12 : decode cX9_broken 12 = .ok (.invokevirtual 105, 3) := by decide +kernel
theorem dX9_broken_15 : decode cX9_broken 15 = .ok (.invokevirtual 86, 3) := by decide +kernel
theorem dX9_broken_18 : decode cX9_broken 18 = .ok (.goto 4, 3) := by decide +kernel
theorem dX9_broken_21 : decode cX9_broken 21 = .ok (.iconst 0, 1) := by decide +kernel
theorem dX9_broken_22 : decode cX9_broken 22 = .ok (.ireturn, 1) := by decide +kernel
set_option maxRecDepth 20000 in
theorem ggX9_runBefore_X9_isAsked : GoodIn wsX9_runBefore wsX9_isAsked := goodIn_r _ [6, 7, 8, 9, 10, 5, 11, 12, 13, 14, 15, 16, 17, 18, 19, 20, 21, 22, 23, 24, 25, 26, 27, 28, 29, 30] (by decide +kernel) (by decide +kernel)
set_option maxRecDepth 20000 in
theorem gX9_runBefore_X9_isAsked : GoodIn wsX9_runBefore (wsV RX9 125 RX9 yX9_isAsked wsX9_isAsked) := goodIn_app (goodIn_of _ (by decide +kernel)) ggX9_runBefore_X9_isAsked
theorem dX9_runBefore_0 : decode cX9_runBefore 0 = .ok (.aload_n 0, 1) := by decide +kernel
theorem dX9_runBefore_1 : decode cX9_runBefore 1 = .ok (.iload_n 1, 1) := by decide +kernel
theorem dX9_runBefore_2 : decode cX9_runBefore 2 = .ok (.invokevirtual 125, 3) := by decide +kernel
theorem dX9_runBefore_5 : decode cX9_runBefore 5 = .ok (.ifCond .eq 12, 3) := by decide +kernel
theorem dX9_runBefore_8 : decode cX9_runBefore 8 = .ok (.aload_n 0, 1) := by decide +kernel
theorem dX9_runBefore_9 : decode cX9_runBefore 9 = .ok (.getfield 38, 3) := by decide +kernel
theorem dX9_runBefore_12 : decode cX9_runBefore 12 = .ok (.iload_n 1, 1) := by decide +kernel
theorem dX9_runBefore_13 : decode cX9_runBefore 13 = .ok (.iaload, 1) := by decide +kernel
theorem dX9_runBefore_14 : decode cX9_runBefore 14 = .ok (.goto 4, 3) := by decide +kernel
theorem dX9_runBefore_17 : decode cX9_runBefore 17 = .ok (.iconst 0, 1) := by decide +kernel
theorem dX9_runBefore_18 : decode cX9_runBefore 18 = .ok (.ireturn, 1) := by decide +kernel
set_option maxRecDepth 20000 in
theorem ggX9_isFeasible_X9_isAsked : GoodIn wsX9_isFeasible wsX9_isAsked := goodIn_r _ [5, 6, 7, 8, 9, 4, 10, 11, 12, 13, 14, 37, 38, 39, 40, 41, 42, 43, 44, 45, 46, 47, 48, 49, 50, 51] (by decide +kernel) (by decide +kernel)
set_option maxRecDepth 20000 in
theorem gX9_isFeasible_X9_isAsked : GoodIn wsX9_isFeasible (wsV RX9 125 RX9 yX9_isAsked wsX9_isAsked) := goodIn_app (goodIn_of _ (by decide +kernel)) ggX9_isFeasible_X9_isAsked
set_option maxRecDepth 20000 in
theorem ggX9_isFeasible_X9_weekOf : GoodIn wsX9_isFeasible wsX9_weekOf := goodIn_r _ [18, 19, 37, 38, 39, 40, 41, 42, 43, 44, 45, 46, 47, 48, 49, 50, 51] (by decide +kernel) (by decide +kernel)
set_option maxRecDepth 20000 in
theorem gX9_isFeasible_X9_weekOf : GoodIn wsX9_isFeasible (wsV RX9 105 RX9 yX9_weekOf wsX9_weekOf) := goodIn_app (goodIn_of _ (by decide +kernel)) ggX9_isFeasible_X9_weekOf
set_option maxRecDepth 20000 in
theorem ggX9_isFeasible_X9_isPossible : GoodIn wsX9_isFeasible wsX9_isPossible := goodIn_r _ [23, 24, 25, 26, 27, 28, 29, 30, 31, 32, 4, 33, 34, 35, 36, 37, 38, 39, 40, 41, 42, 43, 44, 45, 46, 47, 48, 49, 50, 51] (by decide +kernel) (by decide +kernel)
set_option maxRecDepth 20000 in
theorem gX9_isFeasible_X9_isPossible : GoodIn wsX9_isFeasible (wsV RX9 92 RX9 yX9_isPossible wsX9_isPossible) := goodIn_app (goodIn_of _ (by decide +kernel)) ggX9_isFeasible_X9_isPossible
theorem dX9_isFeasible_0 : decode cX9_isFeasible 0 = .ok (.aload_n 0, 1) := by decide +kernel
theorem dX9_isFeasible_1 : decode cX9_isFeasible 1 = .ok (.iload_n 1, 1) := by decide +kernel
theorem dX9_isFeasible_2 : decode cX9_isFeasible 2 = .ok (.invokevirtual 125, 3) := by decide +kernel
theorem dX9_isFeasible_5 : decode cX9_isFeasible 5 = .ok (.ifCond .eq 20, 3) := by decide +kernel
theorem dX9_isFeasible_8 : decode cX9_isFeasible 8 = .ok (.aload_n 0, 1) := by decide +kernel
theorem dX9_isFeasible_9 : decode cX9_isFeasible 9 = .ok (.iload_n 1, 1) := by decide +kernel
theorem dX9_isFeasible_10 : decode cX9_isFeasible 10 = .ok (.aload_n 0, 1) := by decide +kernel
theorem dX9_isFeasible_11 : decode cX9_isFeasible 11 = .ok (.iload_n 1, 1) := by decide +kernel
theorem dX9_isFeasible_12 : decode cX9_isFeasible 12 = .ok (.invokevirtual 105, 3) := by decide +kernel
theorem dX9_isFeasible_15 : decode cX9_isFeasible 15 = .ok (.invokevirtual 92, 3) := by decide +kernel
theorem dX9_isFeasible_18 : decode cX9_isFeasible 18 = .ok (.ifCond .eq 7, 3) := by decide +kernel
theorem dX9_isFeasible_21 : decode cX9_isFeasible 21 = .ok (.iconst 1, 1) := by decide +kernel
theorem dX9_isFeasible_22 : decode cX9_isFeasible 22 = .ok (.goto 4, 3) := by decide +kernel
theorem dX9_isFeasible_25 : decode cX9_isFeasible 25 = .ok (.iconst 0, 1) := by decide +kernel
theorem dX9_isFeasible_26 : decode cX9_isFeasible 26 = .ok (.ireturn, 1) := by decide +kernel
set_option maxRecDepth 20000 in
theorem ggX9_countWeeks_X9_isPossible : GoodIn wsX9_countWeeks wsX9_isPossible := goodIn_r _ [5, 6, 7, 8, 9, 10, 11, 12, 13, 14, 4, 15, 16, 17, 18, 19, 20, 21, 22, 23, 24, 25, 26, 27, 28, 29, 30, 31, 32, 33] (by decide +kernel) (by decide +kernel)
set_option maxRecDepth 20000 in
theorem gX9_countWeeks_X9_isPossible : GoodIn wsX9_countWeeks (wsV RX9 92 RX9 yX9_isPossible wsX9_isPossible) := goodIn_app (goodIn_of _ (by decide +kernel)) ggX9_countWeeks_X9_isPossible
theorem dX9_countWeeks_0 : decode cX9_countWeeks 0 = .ok (.iconst 0, 1) := by decide +kernel
theorem dX9_countWeeks_1 : decode cX9_countWeeks 1 = .ok (.istore_n 2, 1) := by decide +kernel
theorem dX9_countWeeks_2 : decode cX9_countWeeks 2 = .ok (.iconst 0, 1) := by decide +kernel
theorem dX9_countWeeks_3 : decode cX9_countWeeks 3 = .ok (.istore_n 3, 1) := by decide +kernel
theorem dX9_countWeeks_4 : decode cX9_countWeeks 4 = .ok (.iload_n 3, 1) := by decide +kernel
theorem dX9_countWeeks_5 : decode cX9_countWeeks 5 = .ok (.sipush 16384, 3) := by decide +kernel
theorem dX9_countWeeks_8 : decode cX9_countWeeks 8 = .ok (.if_icmp .ge 26, 3) := by decide +kernel
theorem dX9_countWeeks_11 : decode cX9_countWeeks 11 = .ok (.iload_n 2, 1) := by decide +kernel
theorem dX9_countWeeks_12 : decode cX9_countWeeks 12 = .ok (.aload_n 0, 1) := by decide +kernel
theorem dX9_countWeeks_13 : decode cX9_countWeeks 13 = .ok (.iload_n 1, 1) := by decide +kernel
theorem dX9_countWeeks_14 : decode cX9_countWeeks 14 = .ok (.iload_n 3, 1) := by decide +kernel
theorem dX9_countWeeks_15 : decode cX9_countWeeks 15 = .ok (.invokevirtual 92, 3) := by decide +kernel
theorem dX9_countWeeks_18 : decode cX9_countWeeks 18 = .ok (.ifCond .eq 7, 3) := by decide +kernel
theorem dX9_countWeeks_21 : decode cX9_countWeeks 21 = .ok (.iconst 1, 1) := by decide +kernel
theorem dX9_countWeeks_22 : decode cX9_countWeeks 22 = .ok (.goto 4, 3) := by decide +kernel
theorem dX9_countWeeks_25 : decode cX9_countWeeks 25 = .ok (.iconst 0, 1) := by decide +kernel
theorem dX9_countWeeks_26 : decode cX9_countWeeks 26 = .ok (.iadd, 1) := by decide +kernel
theorem dX9_countWeeks_27 : decode cX9_countWeeks 27 = .ok (.istore_n 2, 1) := by decide +kernel
theorem dX9_countWeeks_28 : decode cX9_countWeeks 28 = .ok (.iinc 3 1, 3) := by decide +kernel
theorem dX9_countWeeks_31 : decode cX9_countWeeks 31 = .ok (.goto (-27), 3) := by decide +kernel
theorem dX9_countWeeks_34 : decode cX9_countWeeks 34 = .ok (.iload_n 2, 1) := by decide +kernel
theorem dX9_countWeeks_35 : decode cX9_countWeeks 35 = .ok (.ireturn, 1) := by decide +kernel
set_option maxRecDepth 20000 in
theorem ggX9_weeks_X9_isAsked : GoodIn wsX9_weeks wsX9_isAsked := goodIn_r _ [5, 6, 7, 8, 9, 4, 10, 11, 12, 13, 14, 36, 37, 38, 39, 40, 41, 42, 43, 44, 45, 46, 47, 48, 49, 50] (by decide +kernel) (by decide +kernel)
set_option maxRecDepth 20000 in
theorem gX9_weeks_X9_isAsked : GoodIn wsX9_weeks (wsV RX9 125 RX9 yX9_isAsked wsX9_isAsked) := goodIn_app (goodIn_of _ (by decide +kernel)) ggX9_weeks_X9_isAsked
set_option maxRecDepth 20000 in
theorem ggX9_weeks_X9_countWeeks : GoodIn wsX9_weeks wsX9_countWeeks := goodIn_r _ [18, 19, 20, 21, 4, 22, 23, 24, 25, 26, 27, 28, 29, 30, 31, 32, 33, 34, 35, 36, 37, 38, 39, 40, 41, 42, 43, 44, 45, 46, 47, 48, 49, 50] (by decide +kernel) (by decide +kernel)
set_option maxRecDepth 20000 in
theorem gX9_weeks_X9_countWeeks : GoodIn wsX9_weeks (wsV RX9 128 RX9 yX9_countWeeks wsX9_countWeeks) := goodIn_app (goodIn_of _ (by decide +kernel)) ggX9_weeks_X9_countWeeks
theorem dX9_weeks_0 : decode cX9_weeks 0 = .ok (.aload_n 0, 1) := by decide +kernel
theorem dX9_weeks_1 : decode cX9_weeks 1 = .ok (.iload_n 1, 1) := by decide +kernel
theorem dX9_weeks_2 : decode cX9_weeks 2 = .ok (.invokevirtual 125, 3) := by decide +kernel
theorem dX9_weeks_5 : decode cX9_weeks 5 = .ok (.ifCond .eq 11, 3) := by decide +kernel
theorem dX9_weeks_8 : decode cX9_weeks 8 = .ok (.aload_n 0, 1) := by decide +kernel
theorem dX9_weeks_9 : decode cX9_weeks 9 = .ok (.iload_n 1, 1) := by decide +kernel
theorem dX9_weeks_10 : decode cX9_weeks 10 = .ok (.invokevirtual 128, 3) := by decide +kernel
theorem dX9_weeks_13 : decode cX9_weeks 13 = .ok (.goto 4, 3) := by decide +kernel
theorem dX9_weeks_16 : decode cX9_weeks 16 = .ok (.iconst 0, 1) := by decide +kernel
theorem dX9_weeks_17 : decode cX9_weeks 17 = .ok (.ireturn, 1) := by decide +kernel
set_option maxRecDepth 20000 in
theorem ggX9_weeksByDays_X9_isAsked : GoodIn wsX9_weeksByDays wsX9_isAsked := goodIn_r _ [5, 6, 7, 8, 9, 4, 10, 11, 12, 13, 14, 36, 37, 38, 39, 40, 41, 42, 43, 44, 45, 46, 47, 48, 49, 50] (by decide +kernel) (by decide +kernel)
set_option maxRecDepth 20000 in
theorem gX9_weeksByDays_X9_isAsked : GoodIn wsX9_weeksByDays (wsV RX9 125 RX9 yX9_isAsked wsX9_isAsked) := goodIn_app (goodIn_of _ (by decide +kernel)) ggX9_weeksByDays_X9_isAsked
set_option maxRecDepth 20000 in
theorem ggX9_weeksByDays_X9_countWeeks : GoodIn wsX9_weeksByDays wsX9_countWeeks := goodIn_r _ [18, 19, 20, 21, 4, 22, 23, 24, 25, 26, 27, 28, 29, 30, 31, 32, 33, 34, 35, 36, 37, 38, 39, 40, 41, 42, 43, 44, 45, 46, 47, 48, 49, 50] (by decide +kernel) (by decide +kernel)
set_option maxRecDepth 20000 in
theorem gX9_weeksByDays_X9_countWeeks : GoodIn wsX9_weeksByDays (wsV RX9 128 RX9 yX9_countWeeks wsX9_countWeeks) := goodIn_app (goodIn_of _ (by decide +kernel)) ggX9_weeksByDays_X9_countWeeks
theorem dX9_weeksByDays_0 : decode cX9_weeksByDays 0 = .ok (.aload_n 0, 1) := by decide +kernel
theorem dX9_weeksByDays_1 : decode cX9_weeksByDays 1 = .ok (.iload_n 1, 1) := by decide +kernel
theorem dX9_weeksByDays_2 : decode cX9_weeksByDays 2 = .ok (.invokevirtual 125, 3) := by decide +kernel
theorem dX9_weeksByDays_5 : decode cX9_weeksByDays 5 = .ok (.ifCond .eq 11, 3) := by decide +kernel
theorem dX9_weeksByDays_8 : decode cX9_weeksByDays 8 = .ok (.aload_n 0, 1) := by decide +kernel
theorem dX9_weeksByDays_9 : decode cX9_weeksByDays 9 = .ok (.iload_n 1, 1) := by decide +kernel
theorem dX9_weeksByDays_10 : decode cX9_weeksByDays 10 = .ok (.invokevirtual 128, 3) := by decide +kernel
theorem dX9_weeksByDays_13 : decode cX9_weeksByDays 13 = .ok (.goto 4, 3) := by decide +kernel
theorem dX9_weeksByDays_16 : decode cX9_weeksByDays 16 = .ok (.iconst 0, 1) := by decide +kernel
theorem dX9_weeksByDays_17 : decode cX9_weeksByDays 17 = .ok (.ireturn, 1) := by decide +kernel
set_option maxRecDepth 20000 in
theorem ggX9_couldTake_X9_isDay : GoodIn wsX9_couldTake wsX9_isDay := goodIn_r _ [7, 8, 9, 6, 10] (by decide +kernel) (by decide +kernel)
set_option maxRecDepth 20000 in
theorem gX9_couldTake_X9_isDay : GoodIn wsX9_couldTake (va_wsS RX9 69 yX9_isDay wsX9_isDay) := goodIn_app (goodIn_of _ (by decide +kernel)) ggX9_couldTake_X9_isDay
set_option maxRecDepth 20000 in
theorem ggX9_couldTake_X9_isKind : GoodIn wsX9_couldTake wsX9_isKind := goodIn_r _ [13, 8, 9, 6, 10] (by decide +kernel) (by decide +kernel)
set_option maxRecDepth 20000 in
theorem gX9_couldTake_X9_isKind : GoodIn wsX9_couldTake (va_wsS RX9 72 yX9_isKind wsX9_isKind) := goodIn_app (goodIn_of _ (by decide +kernel)) ggX9_couldTake_X9_isKind
set_option maxRecDepth 20000 in
theorem ggX9_couldTake_X9_fails : GoodIn wsX9_couldTake wsX9_fails := goodIn_r _ [17, 1, 42, 43, 44, 45, 46, 47, 48, 49, 50, 51, 52, 53, 54, 55, 56] (by decide +kernel) (by decide +kernel)
set_option maxRecDepth 20000 in
theorem gX9_couldTake_X9_fails : GoodIn wsX9_couldTake (wsV RX9 66 RX9 yX9_fails wsX9_fails) := goodIn_app (goodIn_of _ (by decide +kernel)) ggX9_couldTake_X9_fails
set_option maxRecDepth 20000 in
theorem ggX9_couldTake_X9_weekOf : GoodIn wsX9_couldTake wsX9_weekOf := goodIn_r _ [21, 3, 42, 43, 44, 45, 46, 47, 48, 49, 50, 51, 52, 53, 54, 55, 56] (by decide +kernel) (by decide +kernel)
set_option maxRecDepth 20000 in
theorem gX9_couldTake_X9_weekOf : GoodIn wsX9_couldTake (wsV RX9 105 RX9 yX9_weekOf wsX9_weekOf) := goodIn_app (goodIn_of _ (by decide +kernel)) ggX9_couldTake_X9_weekOf
set_option maxRecDepth 20000 in
theorem ggX9_couldTake_X9_with : GoodIn wsX9_couldTake wsX9_with := goodIn_r _ [24, 25, 26, 6, 27] (by decide +kernel) (by decide +kernel)
set_option maxRecDepth 20000 in
theorem gX9_couldTake_X9_with : GoodIn wsX9_couldTake (va_wsS RX9 116 yX9_with wsX9_with) := goodIn_app (goodIn_of _ (by decide +kernel)) ggX9_couldTake_X9_with
set_option maxRecDepth 20000 in
theorem ggX9_couldTake_X9_isPossible : GoodIn wsX9_couldTake wsX9_isPossible := goodIn_r _ [31, 32, 33, 34, 35, 36, 37, 38, 39, 40, 6, 41, 25, 26, 27, 42, 43, 44, 45, 46, 47, 48, 49, 50, 51, 52, 53, 54, 55, 56] (by decide +kernel) (by decide +kernel)
set_option maxRecDepth 20000 in
theorem gX9_couldTake_X9_isPossible : GoodIn wsX9_couldTake (wsV RX9 92 RX9 yX9_isPossible wsX9_isPossible) := goodIn_app (goodIn_of _ (by decide +kernel)) ggX9_couldTake_X9_isPossible
theorem dX9_couldTake_0 : decode cX9_couldTake 0 = .ok (.aload_n 0, 1) := by decide +kernel
theorem dX9_couldTake_1 : decode cX9_couldTake 1 = .ok (.iconst 0, 1) := by decide +kernel
theorem dX9_couldTake_2 : decode cX9_couldTake 2 = .ok (.putfield 44, 3) := by decide +kernel
theorem dX9_couldTake_5 : decode cX9_couldTake 5 = .ok (.iload_n 1, 1) := by decide +kernel
theorem dX9_couldTake_6 : decode cX9_couldTake 6 = .ok (.invokestatic 69, 3) := by decide +kernel
theorem dX9_couldTake_9 : decode cX9_couldTake 9 = .ok (.ifCond .eq 10, 3) := by decide +kernel
theorem dX9_couldTake_12 : decode cX9_couldTake 12 = .ok (.iload_n 2, 1) := by decide +kernel
theorem dX9_couldTake_13 : decode cX9_couldTake 13 = .ok (.invokestatic 72, 3) := by decide +kernel
theorem dX9_couldTake_16 : decode cX9_couldTake 16 = .ok (.ifCond .ne 9, 3) := by decide +kernel
theorem dX9_couldTake_19 : decode cX9_couldTake 19 = .ok (.aload_n 0, 1) := by decide +kernel
theorem dX9_couldTake_20 : decode cX9_couldTake 20 = .ok (.iconst 1, 1) := by decide +kernel
theorem dX9_couldTake_21 : decode cX9_couldTake 21 = .ok (.invokevirtual 66, 3) := by decide +kernel
theorem dX9_couldTake_24 : decode cX9_couldTake 24 = .ok (.ireturn, 1) := by decide +kernel
theorem dX9_couldTake_25 : decode cX9_couldTake 25 = .ok (.iconst 0, 1) := by decide +kernel
theorem dX9_couldTake_26 : decode cX9_couldTake 26 = .ok (.istore_n 3, 1) := by decide +kernel
theorem dX9_couldTake_27 : decode cX9_couldTake 27 = .ok (.iconst 0, 1) := by decide +kernel
theorem dX9_couldTake_28 : decode cX9_couldTake 28 = .ok (.istore 4, 2) := by decide +kernel
theorem dX9_couldTake_30 : decode cX9_couldTake 30 = .ok (.iload 4, 2) := by decide +kernel
theorem dX9_couldTake_32 : decode cX9_couldTake 32 = .ok (.aload_n 0, 1) := by decide +kernel
theorem dX9_couldTake_33 : decode cX9_couldTake 33 = .ok (.getfield 47, 3) := by decide +kernel
theorem dX9_couldTake_36 : decode cX9_couldTake 36 = .ok (.if_icmp .ge 67, 3) := by decide +kernel
theorem dX9_couldTake_39 : decode cX9_couldTake 39 = .ok (.aload_n 0, 1) := by decide +kernel
theorem dX9_couldTake_40 : decode cX9_couldTake 40 = .ok (.getfield 26, 3) := by decide +kernel
theorem dX9_couldTake_43 : decode cX9_couldTake 43 = .ok (.bipush 7, 2) := by decide +kernel
theorem dX9_couldTake_45 : decode cX9_couldTake 45 = .ok (.iload 4, 2) := by decide +kernel
theorem dX9_couldTake_47 : decode cX9_couldTake 47 = .ok (.imul, 1) := by decide +kernel
theorem dX9_couldTake_48 : decode cX9_couldTake 48 = .ok (.iload_n 1, 1) := by decide +kernel
theorem dX9_couldTake_49 : decode cX9_couldTake 49 = .ok (.iadd, 1) := by decide +kernel
theorem dX9_couldTake_50 : decode cX9_couldTake 50 = .ok (.iaload, 1) := by decide +kernel
theorem dX9_couldTake_51 : decode cX9_couldTake 51 = .ok (.ifCond .ne 27, 3) := by decide +kernel
theorem dX9_couldTake_54 : decode cX9_couldTake 54 = .ok (.aload_n 0, 1) := by decide +kernel
theorem dX9_couldTake_55 : decode cX9_couldTake 55 = .ok (.iload 4, 2) := by decide +kernel
theorem dX9_couldTake_57 : decode cX9_couldTake 57 = .ok (.aload_n 0, 1) := by decide +kernel
theorem dX9_couldTake_58 : decode cX9_couldTake 58 = .ok (.iload 4, 2) := by decide +kernel
theorem dX9_couldTake_60 : decode cX9_couldTake 60 = .ok (.invokevirtual 105, 3) := by decide +kernel
theorem dX9_couldTake_63 : decode cX9_couldTake 63 = .ok (.iload_n 1, 1) := by decide +kernel
theorem dX9_couldTake_64 : decode cX9_couldTake 64 = .ok (.iload_n 2, 1) := by decide +kernel
theorem dX9_couldTake_65 : decode cX9_couldTake 65 = .ok (.invokestatic 116, 3) := by decide +kernel
theorem dX9_couldTake_68 : decode cX9_couldTake 68 = .ok (.invokevirtual 92, 3) := by decide +kernel
theorem dX9_couldTake_71 : decode cX9_couldTake 71 = .ok (.ifCond .eq 7, 3) := by decide +kernel
theorem dX9_couldTake_74 : decode cX9_couldTake 74 = .ok (.iconst 1, 1) := by decide +kernel
theorem dX9_couldTake_75 : decode cX9_couldTake 75 = .ok (.goto 4, 3) := by decide +kernel
theorem dX9_couldTake_78 : decode cX9_couldTake 78 = .ok (.iconst 0, 1) := by decide +kernel
theorem dX9_couldTake_79 : decode cX9_couldTake 79 = .ok (.istore 5, 2) := by decide +kernel
theorem dX9_couldTake_81 : decode cX9_couldTake 81 = .ok (.iload_n 3, 1) := by decide +kernel
theorem dX9_couldTake_82 : decode cX9_couldTake 82 = .ok (.iload 5, 2) := by decide +kernel
theorem dX9_couldTake_84 : decode cX9_couldTake 84 = .ok (.ifCond .eq 10, 3) := by decide +kernel
theorem dX9_couldTake_87 : decode cX9_couldTake 87 = .ok (.iconst 1, 1) := by decide +kernel
theorem dX9_couldTake_88 : decode cX9_couldTake 88 = .ok (.iload 4, 2) := by decide +kernel
theorem dX9_couldTake_90 : decode cX9_couldTake 90 = .ok (.ishl, 1) := by decide +kernel
theorem dX9_couldTake_91 : decode cX9_couldTake 91 = .ok (.goto 4, 3) := by decide +kernel
theorem dX9_couldTake_94 : decode cX9_couldTake 94 = .ok (.iconst 0, 1) := by decide +kernel
theorem dX9_couldTake_95 : decode cX9_couldTake 95 = .ok (.ior, 1) := by decide +kernel
theorem dX9_couldTake_96 : decode cX9_couldTake 96 = .ok (.istore_n 3, 1) := by decide +kernel
theorem dX9_couldTake_97 : decode cX9_couldTake 97 = .ok (.iinc 4 1, 3) := by decide +kernel
theorem dX9_couldTake_100 : decode cX9_couldTake 100 = .ok (.goto (-70), 3) := by decide +kernel
theorem dX9_couldTake_103 : decode cX9_couldTake 103 = .ok (.iload_n 3, 1) := by decide +kernel
theorem dX9_couldTake_104 : decode cX9_couldTake 104 = .ok (.ireturn, 1) := by decide +kernel
set_option maxRecDepth 20000 in
theorem ggX9_swapFor_X9_isPerson : GoodIn wsX9_swapFor wsX9_isPerson := goodIn_r _ [8, 2, 9, 10, 7, 11, 47, 48, 49, 50, 51, 52, 53, 54, 55, 56, 57, 58, 59, 60, 61] (by decide +kernel) (by decide +kernel)
set_option maxRecDepth 20000 in
theorem gX9_swapFor_X9_isPerson : GoodIn wsX9_swapFor (wsV RX9 54 RX9 yX9_isPerson wsX9_isPerson) := goodIn_app (goodIn_of _ (by decide +kernel)) ggX9_swapFor_X9_isPerson
set_option maxRecDepth 20000 in
theorem ggX9_swapFor_X9_isDay : GoodIn wsX9_swapFor wsX9_isDay := goodIn_r _ [14, 9, 10, 7, 11] (by decide +kernel) (by decide +kernel)
set_option maxRecDepth 20000 in
theorem gX9_swapFor_X9_isDay : GoodIn wsX9_swapFor (va_wsS RX9 69 yX9_isDay wsX9_isDay) := goodIn_app (goodIn_of _ (by decide +kernel)) ggX9_swapFor_X9_isDay
set_option maxRecDepth 20000 in
theorem ggX9_swapFor_X9_fails : GoodIn wsX9_swapFor wsX9_fails := goodIn_r _ [18, 1, 47, 48, 49, 50, 51, 52, 53, 54, 55, 56, 57, 58, 59, 60, 61] (by decide +kernel) (by decide +kernel)
set_option maxRecDepth 20000 in
theorem gX9_swapFor_X9_fails : GoodIn wsX9_swapFor (wsV RX9 66 RX9 yX9_fails wsX9_fails) := goodIn_app (goodIn_of _ (by decide +kernel)) ggX9_swapFor_X9_fails
set_option maxRecDepth 20000 in
theorem ggX9_swapFor_X9_canSwap : GoodIn wsX9_swapFor wsX9_canSwap := goodIn_r _ [22, 3, 23, 24, 25, 7, 26, 27, 28, 29, 30, 31, 32, 33, 34, 35, 36, 37, 38, 39, 40, 41, 42, 43, 44, 45, 46, 47, 48, 49, 50, 51, 52, 53, 54, 55, 56, 57, 58, 59, 60, 61] (by decide +kernel) (by decide +kernel)
set_option maxRecDepth 20000 in
theorem gX9_swapFor_X9_canSwap : GoodIn wsX9_swapFor (wsV RX9 119 RX9 yX9_canSwap wsX9_canSwap) := goodIn_app (goodIn_of _ (by decide +kernel)) ggX9_swapFor_X9_canSwap
set_option maxRecDepth 20000 in
theorem ggX9_swapFor_X9_weekOf : GoodIn wsX9_swapFor wsX9_weekOf := goodIn_r _ [26, 3, 47, 48, 49, 50, 51, 52, 53, 54, 55, 56, 57, 58, 59, 60, 61] (by decide +kernel) (by decide +kernel)
set_option maxRecDepth 20000 in
theorem gX9_swapFor_X9_weekOf : GoodIn wsX9_swapFor (wsV RX9 105 RX9 yX9_weekOf wsX9_weekOf) := goodIn_app (goodIn_of _ (by decide +kernel)) ggX9_swapFor_X9_weekOf
set_option maxRecDepth 20000 in
theorem ggX9_swapFor_X9_countShifts : GoodIn wsX9_swapFor wsX9_countShifts := goodIn_r _ [46, 30, 31, 7, 32] (by decide +kernel) (by decide +kernel)
set_option maxRecDepth 20000 in
theorem gX9_swapFor_X9_countShifts : GoodIn wsX9_swapFor (va_wsS RX9 62 yX9_countShifts wsX9_countShifts) := goodIn_app (goodIn_of _ (by decide +kernel)) ggX9_swapFor_X9_countShifts
theorem dX9_swapFor_0 : decode cX9_swapFor 0 = .ok (.aload_n 0, 1) := by decide +kernel
theorem dX9_swapFor_1 : decode cX9_swapFor 1 = .ok (.iconst 0, 1) := by decide +kernel
theorem dX9_swapFor_2 : decode cX9_swapFor 2 = .ok (.putfield 44, 3) := by decide +kernel
theorem dX9_swapFor_5 : decode cX9_swapFor 5 = .ok (.aload_n 0, 1) := by decide +kernel
theorem dX9_swapFor_6 : decode cX9_swapFor 6 = .ok (.iload_n 1, 1) := by decide +kernel
theorem dX9_swapFor_7 : decode cX9_swapFor 7 = .ok (.invokevirtual 54, 3) := by decide +kernel
theorem dX9_swapFor_10 : decode cX9_swapFor 10 = .ok (.ifCond .eq 10, 3) := by decide +kernel
theorem dX9_swapFor_13 : decode cX9_swapFor 13 = .ok (.iload_n 2, 1) := by decide +kernel
theorem dX9_swapFor_14 : decode cX9_swapFor 14 = .ok (.invokestatic 69, 3) := by decide +kernel
theorem dX9_swapFor_17 : decode cX9_swapFor 17 = .ok (.ifCond .ne 9, 3) := by decide +kernel
theorem dX9_swapFor_20 : decode cX9_swapFor 20 = .ok (.aload_n 0, 1) := by decide +kernel
theorem dX9_swapFor_21 : decode cX9_swapFor 21 = .ok (.iconst 1, 1) := by decide +kernel
theorem dX9_swapFor_22 : decode cX9_swapFor 22 = .ok (.invokevirtual 66, 3) := by decide +kernel
theorem dX9_swapFor_25 : decode cX9_swapFor 25 = .ok (.ireturn, 1) := by decide +kernel
theorem dX9_swapFor_26 : decode cX9_swapFor 26 = .ok (.iconst (-1), 1) := by decide +kernel
theorem dX9_swapFor_27 : decode cX9_swapFor 27 = .ok (.istore_n 3, 1) := by decide +kernel
theorem dX9_swapFor_28 : decode cX9_swapFor 28 = .ok (.bipush 8, 2) := by decide +kernel
theorem dX9_swapFor_30 : decode cX9_swapFor 30 = .ok (.istore 4, 2) := by decide +kernel
theorem dX9_swapFor_32 : decode cX9_swapFor 32 = .ok (.iconst 0, 1) := by decide +kernel
theorem dX9_swapFor_33 : decode cX9_swapFor 33 = .ok (.istore 5, 2) := by decide +kernel
theorem dX9_swapFor_35 : decode cX9_swapFor 35 = .ok (.iload 5, 2) := by decide +kernel
theorem dX9_swapFor_37 : decode cX9_swapFor 37 = .ok (.aload_n 0, 1) := by decide +kernel
theorem dX9_swapFor_38 : decode cX9_swapFor 38 = .ok (.getfield 47, 3) := by decide +kernel
theorem dX9_swapFor_41 : decode cX9_swapFor 41 = .ok (.if_icmp .ge 104, 3) := by decide +kernel
theorem dX9_swapFor_44 : decode cX9_swapFor 44 = .ok (.aload_n 0, 1) := by decide +kernel
theorem dX9_swapFor_45 : decode cX9_swapFor 45 = .ok (.getfield 26, 3) := by decide +kernel
theorem dX9_swapFor_48 : decode cX9_swapFor 48 = .ok (.bipush 7, 2) := by decide +kernel
theorem dX9_swapFor_50 : decode cX9_swapFor 50 = .ok (.iload_n 1, 1) := by decide +kernel
theorem dX9_swapFor_51 : decode cX9_swapFor 51 = .ok (.imul, 1) := by decide +kernel
theorem dX9_swapFor_52 : decode cX9_swapFor 52 = .ok (.iload_n 2, 1) := by decide +kernel
theorem dX9_swapFor_53 : decode cX9_swapFor 53 = .ok (.iadd, 1) := by decide +kernel
theorem dX9_swapFor_54 : decode cX9_swapFor 54 = .ok (.iaload, 1) := by decide +kernel
theorem dX9_swapFor_55 : decode cX9_swapFor 55 = .ok (.aload_n 0, 1) := by decide +kernel
theorem dX9_swapFor_56 : decode cX9_swapFor 56 = .ok (.getfield 26, 3) := by decide +kernel
theorem dX9_swapFor_59 : decode cX9_swapFor 59 = .ok (.bipush 7, 2) := by decide +kernel
theorem dX9_swapFor_61 : decode cX9_swapFor 61 = .ok (.iload 5, 2) := by decide +kernel
theorem dX9_swapFor_63 : decode cX9_swapFor 63 = .ok (.imul, 1) := by decide +kernel
theorem dX9_swapFor_64 : decode cX9_swapFor 64 = .ok (.iload_n 2, 1) := by decide +kernel
theorem dX9_swapFor_65 : decode cX9_swapFor 65 = .ok (.iadd, 1) := by decide +kernel
theorem dX9_swapFor_66 : decode cX9_swapFor 66 = .ok (.iaload, 1) := by decide +kernel
theorem dX9_swapFor_67 : decode cX9_swapFor 67 = .ok (.if_icmp .eq 18, 3) := by decide +kernel
theorem dX9_swapFor_70 : decode cX9_swapFor 70 = .ok (.aload_n 0, 1) := by decide +kernel
theorem dX9_swapFor_71 : decode cX9_swapFor 71 = .ok (.iload_n 1, 1) := by decide +kernel
theorem dX9_swapFor_72 : decode cX9_swapFor 72 = .ok (.iload 5, 2) := by decide +kernel
theorem dX9_swapFor_74 : decode cX9_swapFor 74 = .ok (.iload_n 2, 1) := by decide +kernel
theorem dX9_swapFor_75 : decode cX9_swapFor 75 = .ok (.invokevirtual 119, 3) := by decide +kernel
theorem dX9_swapFor_78 : decode cX9_swapFor 78 = .ok (.ifCond .eq 7, 3) := by decide +kernel
theorem dX9_swapFor_81 : decode cX9_swapFor 81 = .ok (.iconst 1, 1) := by decide +kernel
theorem dX9_swapFor_82 : decode cX9_swapFor 82 = .ok (.goto 4, 3) := by decide +kernel
theorem dX9_swapFor_85 : decode cX9_swapFor 85 = .ok (.iconst 0, 1) := by decide +kernel
theorem dX9_swapFor_86 : decode cX9_swapFor 86 = .ok (.istore 6, 2) := by decide +kernel
theorem dX9_swapFor_88 : decode cX9_swapFor 88 = .ok (.aload_n 0, 1) := by decide +kernel
theorem dX9_swapFor_89 : decode cX9_swapFor 89 = .ok (.iload 5, 2) := by decide +kernel
theorem dX9_swapFor_91 : decode cX9_swapFor 91 = .ok (.invokevirtual 105, 3) := by decide +kernel
theorem dX9_swapFor_94 : decode cX9_swapFor 94 = .ok (.invokestatic 62, 3) := by decide +kernel
theorem dX9_swapFor_97 : decode cX9_swapFor 97 = .ok (.istore 7, 2) := by decide +kernel
theorem dX9_swapFor_99 : decode cX9_swapFor 99 = .ok (.iload 6, 2) := by decide +kernel
theorem dX9_swapFor_101 : decode cX9_swapFor 101 = .ok (.ifCond .eq 15, 3) := by decide +kernel
theorem dX9_swapFor_104 : decode cX9_swapFor 104 = .ok (.iload 7, 2) := by decide +kernel
theorem dX9_swapFor_106 : decode cX9_swapFor 106 = .ok (.iload 4, 2) := by decide +kernel
theorem dX9_swapFor_108 : decode cX9_swapFor 108 = .ok (.if_icmp .ge 8, 3) := by decide +kernel
theorem dX9_swapFor_111 : decode cX9_swapFor 111 = .ok (.iload 5, 2) := by decide +kernel
theorem dX9_swapFor_113 : decode cX9_swapFor 113 = .ok (.goto 4, 3) := by decide +kernel
theorem dX9_swapFor_116 : decode cX9_swapFor 116 = .ok (.iload_n 3, 1) := by decide +kernel
theorem dX9_swapFor_117 : decode cX9_swapFor 117 = .ok (.istore_n 3, 1) := by decide +kernel
theorem dX9_swapFor_118 : decode cX9_swapFor 118 = .ok (.iload 6, 2) := by decide +kernel
theorem dX9_swapFor_120 : decode cX9_swapFor 120 = .ok (.ifCond .eq 15, 3) := by decide +kernel
theorem dX9_swapFor_123 : decode cX9_swapFor 123 = .ok (.iload 7, 2) := by decide +kernel
theorem dX9_swapFor_125 : decode cX9_swapFor 125 = .ok (.iload 4, 2) := by decide +kernel
theorem dX9_swapFor_127 : decode cX9_swapFor 127 = .ok (.if_icmp .ge 8, 3) := by decide +kernel
theorem dX9_swapFor_130 : decode cX9_swapFor 130 = .ok (.iload 7, 2) := by decide +kernel
theorem dX9_swapFor_132 : decode cX9_swapFor 132 = .ok (.goto 5, 3) := by decide +kernel
theorem dX9_swapFor_135 : decode cX9_swapFor 135 = .ok (.iload 4, 2) := by decide +kernel
theorem dX9_swapFor_137 : decode cX9_swapFor 137 = .ok (.istore 4, 2) := by decide +kernel
theorem dX9_swapFor_139 : decode cX9_swapFor 139 = .ok (.iinc 5 1, 3) := by decide +kernel
theorem dX9_swapFor_142 : decode cX9_swapFor 142 = .ok (.goto (-107), 3) := by decide +kernel
theorem dX9_swapFor_145 : decode cX9_swapFor 145 = .ok (.iload_n 3, 1) := by decide +kernel
theorem dX9_swapFor_146 : decode cX9_swapFor 146 = .ok (.ireturn, 1) := by decide +kernel
theorem dX9_lacking_0 : decode cX9_lacking 0 = .ok (.iconst 0, 1) := by decide +kernel
theorem dX9_lacking_1 : decode cX9_lacking 1 = .ok (.istore_n 2, 1) := by decide +kernel
theorem dX9_lacking_2 : decode cX9_lacking 2 = .ok (.iconst 0, 1) := by decide +kernel
theorem dX9_lacking_3 : decode cX9_lacking 3 = .ok (.istore_n 3, 1) := by decide +kernel
theorem dX9_lacking_4 : decode cX9_lacking 4 = .ok (.iload_n 3, 1) := by decide +kernel
theorem dX9_lacking_5 : decode cX9_lacking 5 = .ok (.bipush 16, 2) := by decide +kernel
theorem dX9_lacking_7 : decode cX9_lacking 7 = .ok (.if_icmp .ge 103, 3) := by decide +kernel
theorem dX9_lacking_10 : decode cX9_lacking 10 = .ok (.iconst 0, 1) := by decide +kernel
theorem dX9_lacking_11 : decode cX9_lacking 11 = .ok (.istore 4, 2) := by decide +kernel
theorem dX9_lacking_13 : decode cX9_lacking 13 = .ok (.iconst 1, 1) := by decide +kernel
theorem dX9_lacking_14 : decode cX9_lacking 14 = .ok (.istore 5, 2) := by decide +kernel
theorem dX9_lacking_16 : decode cX9_lacking 16 = .ok (.iload 5, 2) := by decide +kernel
theorem dX9_lacking_18 : decode cX9_lacking 18 = .ok (.iconst 3, 1) := by decide +kernel
theorem dX9_lacking_19 : decode cX9_lacking 19 = .ok (.if_icmp .gt 32, 3) := by decide +kernel
theorem dX9_lacking_22 : decode cX9_lacking 22 = .ok (.iload 4, 2) := by decide +kernel
theorem dX9_lacking_24 : decode cX9_lacking 24 = .ok (.iload_n 3, 1) := by decide +kernel
theorem dX9_lacking_25 : decode cX9_lacking 25 = .ok (.iload 5, 2) := by decide +kernel
theorem dX9_lacking_27 : decode cX9_lacking 27 = .ok (.ishr, 1) := by decide +kernel
theorem dX9_lacking_28 : decode cX9_lacking 28 = .ok (.iconst 1, 1) := by decide +kernel
theorem dX9_lacking_29 : decode cX9_lacking 29 = .ok (.iand, 1) := by decide +kernel
theorem dX9_lacking_30 : decode cX9_lacking 30 = .ok (.aload_n 0, 1) := by decide +kernel
theorem dX9_lacking_31 : decode cX9_lacking 31 = .ok (.getfield 20, 3) := by decide +kernel
theorem dX9_lacking_34 : decode cX9_lacking 34 = .ok (.iconst 4, 1) := by decide +kernel
theorem dX9_lacking_35 : decode cX9_lacking 35 = .ok (.iload_n 1, 1) := by decide +kernel
theorem dX9_lacking_36 : decode cX9_lacking 36 = .ok (.imul, 1) := by decide +kernel
theorem dX9_lacking_37 : decode cX9_lacking 37 = .ok (.iload 5, 2) := by decide +kernel
theorem dX9_lacking_39 : decode cX9_lacking 39 = .ok (.iadd, 1) := by decide +kernel
theorem dX9_lacking_40 : decode cX9_lacking 40 = .ok (.iaload, 1) := by decide +kernel
theorem dX9_lacking_41 : decode cX9_lacking 41 = .ok (.imul, 1) := by decide +kernel
theorem dX9_lacking_42 : decode cX9_lacking 42 = .ok (.iadd, 1) := by decide +kernel
theorem dX9_lacking_43 : decode cX9_lacking 43 = .ok (.istore 4, 2) := by decide +kernel
theorem dX9_lacking_45 : decode cX9_lacking 45 = .ok (.iinc 5 1, 3) := by decide +kernel
theorem dX9_lacking_48 : decode cX9_lacking 48 = .ok (.goto (-32), 3) := by decide +kernel
theorem dX9_lacking_51 : decode cX9_lacking 51 = .ok (.iconst 0, 1) := by decide +kernel
theorem dX9_lacking_52 : decode cX9_lacking 52 = .ok (.istore 5, 2) := by decide +kernel
theorem dX9_lacking_54 : decode cX9_lacking 54 = .ok (.iload 5, 2) := by decide +kernel
theorem dX9_lacking_56 : decode cX9_lacking 56 = .ok (.aload_n 0, 1) := by decide +kernel
theorem dX9_lacking_57 : decode cX9_lacking 57 = .ok (.getfield 47, 3) := by decide +kernel
theorem dX9_lacking_60 : decode cX9_lacking 60 = .ok (.if_icmp .ge 31, 3) := by decide +kernel
theorem dX9_lacking_63 : decode cX9_lacking 63 = .ok (.iload 4, 2) := by decide +kernel
theorem dX9_lacking_65 : decode cX9_lacking 65 = .ok (.aload_n 0, 1) := by decide +kernel
theorem dX9_lacking_66 : decode cX9_lacking 66 = .ok (.getfield 13, 3) := by decide +kernel
theorem dX9_lacking_69 : decode cX9_lacking 69 = .ok (.iload 5, 2) := by decide +kernel
theorem dX9_lacking_71 : decode cX9_lacking 71 = .ok (.iaload, 1) := by decide +kernel
theorem dX9_lacking_72 : decode cX9_lacking 72 = .ok (.iload_n 3, 1) := by decide +kernel
theorem dX9_lacking_73 : decode cX9_lacking 73 = .ok (.iand, 1) := by decide +kernel
theorem dX9_lacking_74 : decode cX9_lacking 74 = .ok (.ifCond .eq 7, 3) := by decide +kernel
theorem dX9_lacking_77 : decode cX9_lacking 77 = .ok (.iconst 1, 1) := by decide +kernel
theorem dX9_lacking_78 : decode cX9_lacking 78 = .ok (.goto 4, 3) := by decide +kernel
theorem dX9_lacking_81 : decode cX9_lacking 81 = .ok (.iconst 0, 1) := by decide +kernel
theorem dX9_lacking_82 : decode cX9_lacking 82 = .ok (.isub, 1) := by decide +kernel
theorem dX9_lacking_83 : decode cX9_lacking 83 = .ok (.istore 4, 2) := by decide +kernel
theorem dX9_lacking_85 : decode cX9_lacking 85 = .ok (.iinc 5 1, 3) := by decide +kernel
theorem dX9_lacking_88 : decode cX9_lacking 88 = .ok (.goto (-34), 3) := by decide +kernel
theorem dX9_lacking_91 : decode cX9_lacking 91 = .ok (.iload 4, 2) := by decide +kernel
theorem dX9_lacking_93 : decode cX9_lacking 93 = .ok (.iload_n 2, 1) := by decide +kernel
theorem dX9_lacking_94 : decode cX9_lacking 94 = .ok (.if_icmp .le 8, 3) := by decide +kernel
theorem dX9_lacking_97 : decode cX9_lacking 97 = .ok (.iload 4, 2) := by decide +kernel
theorem dX9_lacking_99 : decode cX9_lacking 99 = .ok (.goto 4, 3) := by decide +kernel
theorem dX9_lacking_102 : decode cX9_lacking 102 = .ok (.iload_n 2, 1) := by decide +kernel
theorem dX9_lacking_103 : decode cX9_lacking 103 = .ok (.istore_n 2, 1) := by decide +kernel
theorem dX9_lacking_104 : decode cX9_lacking 104 = .ok (.iinc 3 2, 3) := by decide +kernel
theorem dX9_lacking_107 : decode cX9_lacking 107 = .ok (.goto (-103), 3) := by decide +kernel
theorem dX9_lacking_110 : decode cX9_lacking 110 = .ok (.iload_n 2, 1) := by decide +kernel
theorem dX9_lacking_111 : decode cX9_lacking 111 = .ok (.ireturn, 1) := by decide +kernel
set_option maxRecDepth 20000 in
theorem ggX9_bound_X9_lacking : GoodIn wsX9_bound wsX9_lacking := goodIn_r _ [6, 7, 8, 9, 10, 11, 12, 13, 14, 15, 16, 17, 18, 19, 20, 21, 22, 23, 24] (by decide +kernel) (by decide +kernel)
set_option maxRecDepth 20000 in
theorem gX9_bound_X9_lacking : GoodIn wsX9_bound (wsV RX9 131 RX9 yX9_lacking wsX9_lacking) := goodIn_app (goodIn_of _ (by decide +kernel)) ggX9_bound_X9_lacking
theorem dX9_bound_0 : decode cX9_bound 0 = .ok (.aload_n 0, 1) := by decide +kernel
theorem dX9_bound_1 : decode cX9_bound 1 = .ok (.iconst 0, 1) := by decide +kernel
theorem dX9_bound_2 : decode cX9_bound 2 = .ok (.putfield 44, 3) := by decide +kernel
theorem dX9_bound_5 : decode cX9_bound 5 = .ok (.iconst 0, 1) := by decide +kernel
theorem dX9_bound_6 : decode cX9_bound 6 = .ok (.istore_n 1, 1) := by decide +kernel
theorem dX9_bound_7 : decode cX9_bound 7 = .ok (.iconst 0, 1) := by decide +kernel
theorem dX9_bound_8 : decode cX9_bound 8 = .ok (.istore_n 2, 1) := by decide +kernel
theorem dX9_bound_9 : decode cX9_bound 9 = .ok (.iload_n 2, 1) := by decide +kernel
theorem dX9_bound_10 : decode cX9_bound 10 = .ok (.bipush 7, 2) := by decide +kernel
theorem dX9_bound_12 : decode cX9_bound 12 = .ok (.if_icmp .ge 17, 3) := by decide +kernel
theorem dX9_bound_15 : decode cX9_bound 15 = .ok (.iload_n 1, 1) := by decide +kernel
theorem dX9_bound_16 : decode cX9_bound 16 = .ok (.aload_n 0, 1) := by decide +kernel
theorem dX9_bound_17 : decode cX9_bound 17 = .ok (.iload_n 2, 1) := by decide +kernel
theorem dX9_bound_18 : decode cX9_bound 18 = .ok (.invokevirtual 131, 3) := by decide +kernel
theorem dX9_bound_21 : decode cX9_bound 21 = .ok (.iadd, 1) := by decide +kernel
theorem dX9_bound_22 : decode cX9_bound 22 = .ok (.istore_n 1, 1) := by decide +kernel
theorem dX9_bound_23 : decode cX9_bound 23 = .ok (.iinc 2 1, 3) := by decide +kernel
theorem dX9_bound_26 : decode cX9_bound 26 = .ok (.goto (-17), 3) := by decide +kernel
theorem dX9_bound_29 : decode cX9_bound 29 = .ok (.iload_n 1, 1) := by decide +kernel
theorem dX9_bound_30 : decode cX9_bound 30 = .ok (.ireturn, 1) := by decide +kernel
theorem dJ9_max_7cf53_0 : decode cJ9_max_7cf53 0 = .ok (.iload_n 0, 1) := by decide +kernel
theorem dJ9_max_7cf53_1 : decode cJ9_max_7cf53 1 = .ok (.iload_n 1, 1) := by decide +kernel
theorem dJ9_max_7cf53_2 : decode cJ9_max_7cf53 2 = .ok (.if_icmp .lt 7, 3) := by decide +kernel
theorem dJ9_max_7cf53_5 : decode cJ9_max_7cf53 5 = .ok (.iload_n 0, 1) := by decide +kernel
theorem dJ9_max_7cf53_6 : decode cJ9_max_7cf53 6 = .ok (.goto 4, 3) := by decide +kernel
theorem dJ9_max_7cf53_9 : decode cJ9_max_7cf53 9 = .ok (.iload_n 1, 1) := by decide +kernel
theorem dJ9_max_7cf53_10 : decode cJ9_max_7cf53 10 = .ok (.ireturn, 1) := by decide +kernel
theorem dJ9_min_7cf53_0 : decode cJ9_min_7cf53 0 = .ok (.iload_n 0, 1) := by decide +kernel
theorem dJ9_min_7cf53_1 : decode cJ9_min_7cf53 1 = .ok (.iload_n 1, 1) := by decide +kernel
theorem dJ9_min_7cf53_2 : decode cJ9_min_7cf53 2 = .ok (.if_icmp .gt 7, 3) := by decide +kernel
theorem dJ9_min_7cf53_5 : decode cJ9_min_7cf53 5 = .ok (.iload_n 0, 1) := by decide +kernel
theorem dJ9_min_7cf53_6 : decode cJ9_min_7cf53 6 = .ok (.goto 4, 3) := by decide +kernel
theorem dJ9_min_7cf53_9 : decode cJ9_min_7cf53 9 = .ok (.iload_n 1, 1) := by decide +kernel
theorem dJ9_min_7cf53_10 : decode cJ9_min_7cf53 10 = .ok (.ireturn, 1) := by decide +kernel
theorem dJ9_min_f86c9_0 : decode cJ9_min_f86c9 0 = .ok (.lload_n 0, 1) := by decide +kernel
theorem dJ9_min_f86c9_1 : decode cJ9_min_f86c9 1 = .ok (.lload_n 2, 1) := by decide +kernel
theorem dJ9_min_f86c9_2 : decode cJ9_min_f86c9 2 = .ok (.lcmp, 1) := by decide +kernel
theorem dJ9_min_f86c9_3 : decode cJ9_min_f86c9 3 = .ok (.ifCond .gt 7, 3) := by decide +kernel
theorem dJ9_min_f86c9_6 : decode cJ9_min_f86c9 6 = .ok (.lload_n 0, 1) := by decide +kernel
theorem dJ9_min_f86c9_7 : decode cJ9_min_f86c9 7 = .ok (.goto 4, 3) := by decide +kernel
theorem dJ9_min_f86c9_10 : decode cJ9_min_f86c9 10 = .ok (.lload_n 2, 1) := by decide +kernel
theorem dJ9_min_f86c9_11 : decode cJ9_min_f86c9 11 = .ok (.lreturn, 1) := by decide +kernel
theorem dJ7_fill_d0a16_0 : decode cJ7_fill_d0a16 0 = .ok (.iconst 0, 1) := by decide +kernel
theorem dJ7_fill_d0a16_1 : decode cJ7_fill_d0a16 1 = .ok (.istore_n 3, 1) := by decide +kernel
theorem dJ7_fill_d0a16_2 : decode cJ7_fill_d0a16 2 = .ok (.aload_n 0, 1) := by decide +kernel
theorem dJ7_fill_d0a16_3 : decode cJ7_fill_d0a16 3 = .ok (.arraylength, 1) := by decide +kernel
theorem dJ7_fill_d0a16_4 : decode cJ7_fill_d0a16 4 = .ok (.istore 4, 2) := by decide +kernel
theorem dJ7_fill_d0a16_6 : decode cJ7_fill_d0a16 6 = .ok (.iload_n 3, 1) := by decide +kernel
theorem dJ7_fill_d0a16_7 : decode cJ7_fill_d0a16 7 = .ok (.iload 4, 2) := by decide +kernel
theorem dJ7_fill_d0a16_9 : decode cJ7_fill_d0a16 9 = .ok (.if_icmp .ge 13, 3) := by decide +kernel
theorem dJ7_fill_d0a16_12 : decode cJ7_fill_d0a16 12 = .ok (.aload_n 0, 1) := by decide +kernel
theorem dJ7_fill_d0a16_13 : decode cJ7_fill_d0a16 13 = .ok (.iload_n 3, 1) := by decide +kernel
theorem dJ7_fill_d0a16_14 : decode cJ7_fill_d0a16 14 = .ok (.lload_n 1, 1) := by decide +kernel
theorem dJ7_fill_d0a16_15 : decode cJ7_fill_d0a16 15 = .ok (.lastore, 1) := by decide +kernel
theorem dJ7_fill_d0a16_16 : decode cJ7_fill_d0a16 16 = .ok (.iinc 3 1, 3) := by decide +kernel
theorem dJ7_fill_d0a16_19 : decode cJ7_fill_d0a16 19 = .ok (.goto (-13), 3) := by decide +kernel
theorem dJ7_fill_d0a16_22 : decode cJ7_fill_d0a16 22 = .ok (.return_, 1) := by decide +kernel
end
section
set_option maxRecDepth 20000 in
theorem ggL_addPerson_X8_addPerson : GoodIn wsL_addPerson wsX8_addPerson := goodIn_ca (goodIn_ca (goodIn_r _ [7, 8, 9, 10, 11, 12, 13, 14, 15, 16, 17, 18, 19, 20, 21, 22, 23, 24, 25, 26, 27, 28, 29, 30, 31, 32, 33, 34, 35, 36, 37, 38, 39, 40] (by decide +kernel) (by decide +kernel)) (goodIn_sub (fun _ h => List.mem_cons_of_mem _ (List.mem_append_left _ (List.mem_append_right _ h))) (by decide +kernel))) (goodIn_sub (fun _ h => List.mem_cons_of_mem _ (List.mem_append_right _ h)) (by decide +kernel))
set_option maxRecDepth 20000 in
theorem gL_addPerson_X8_addPerson : GoodIn wsL_addPerson (wsV RL 7 RX8 yX8_addPerson wsX8_addPerson) := goodIn_app (goodIn_of _ (by decide +kernel)) ggL_addPerson_X8_addPerson
theorem dL_addPerson_0 : decode cL_addPerson 0 = .ok (.aload_n 3, 1) := by decide +kernel
theorem dL_addPerson_1 : decode cL_addPerson 1 = .ok (.iconst 0, 1) := by decide +kernel
theorem dL_addPerson_2 : decode cL_addPerson 2 = .ok (.aload_n 0, 1) := by decide +kernel
theorem dL_addPerson_3 : decode cL_addPerson 3 = .ok (.iload_n 1, 1) := by decide +kernel
theorem dL_addPerson_4 : decode cL_addPerson 4 = .ok (.iload_n 2, 1) := by decide +kernel
theorem dL_addPerson_5 : decode cL_addPerson 5 = .ok (.invokevirtual 7, 3) := by decide +kernel
theorem dL_addPerson_8 : decode cL_addPerson 8 = .ok (.i2l, 1) := by decide +kernel
theorem dL_addPerson_9 : decode cL_addPerson 9 = .ok (.lastore, 1) := by decide +kernel
theorem dL_addPerson_10 : decode cL_addPerson 10 = .ok (.goto 11, 3) := by decide +kernel
theorem dL_addPerson_13 : decode cL_addPerson 13 = .ok (.astore 4, 2) := by decide +kernel
theorem dL_addPerson_15 : decode cL_addPerson 15 = .ok (.iconst 1, 1) := by decide +kernel
theorem dL_addPerson_16 : decode cL_addPerson 16 = .ok (.ireturn, 1) := by decide +kernel
theorem dL_addPerson_17 : decode cL_addPerson 17 = .ok (.astore 4, 2) := by decide +kernel
theorem dL_addPerson_19 : decode cL_addPerson 19 = .ok (.iconst 2, 1) := by decide +kernel
theorem dL_addPerson_20 : decode cL_addPerson 20 = .ok (.ireturn, 1) := by decide +kernel
theorem dL_addPerson_21 : decode cL_addPerson 21 = .ok (.iconst 0, 1) := by decide +kernel
theorem dL_addPerson_22 : decode cL_addPerson 22 = .ok (.ireturn, 1) := by decide +kernel
set_option maxRecDepth 20000 in
theorem ggL_setNeed_X8_setNeed : GoodIn wsL_setNeed wsX8_setNeed := goodIn_ca (goodIn_ca (goodIn_r _ [7, 8, 9, 10, 11, 12, 13, 14, 6, 15, 16, 17, 18, 19, 20, 21, 22, 23, 24, 25, 26, 27, 28, 29, 30, 31, 32, 33, 34, 35, 36, 37, 38] (by decide +kernel) (by decide +kernel)) (goodIn_sub (fun _ h => List.mem_cons_of_mem _ (List.mem_append_left _ (List.mem_append_right _ h))) (by decide +kernel))) (goodIn_sub (fun _ h => List.mem_cons_of_mem _ (List.mem_append_right _ h)) (by decide +kernel))
set_option maxRecDepth 20000 in
theorem gL_setNeed_X8_setNeed : GoodIn wsL_setNeed (wsV RL 17 RX8 yX8_setNeed wsX8_setNeed) := goodIn_app (goodIn_of _ (by decide +kernel)) ggL_setNeed_X8_setNeed
theorem dL_setNeed_0 : decode cL_setNeed 0 = .ok (.aload 4, 2) := by decide +kernel
theorem dL_setNeed_2 : decode cL_setNeed 2 = .ok (.iconst 0, 1) := by decide +kernel
theorem dL_setNeed_3 : decode cL_setNeed 3 = .ok (.aload_n 0, 1) := by decide +kernel
theorem dL_setNeed_4 : decode cL_setNeed 4 = .ok (.iload_n 1, 1) := by decide +kernel
theorem dL_setNeed_5 : decode cL_setNeed 5 = .ok (.iload_n 2, 1) := by decide +kernel
theorem dL_setNeed_6 : decode cL_setNeed 6 = .ok (.iload_n 3, 1) := by decide +kernel
theorem dL_setNeed_7 : decode cL_setNeed 7 = .ok (.invokevirtual 17, 3) := by decide +kernel
theorem dL_setNeed_10 : decode cL_setNeed 10 = .ok (.i2l, 1) := by decide +kernel
theorem dL_setNeed_11 : decode cL_setNeed 11 = .ok (.lastore, 1) := by decide +kernel
theorem dL_setNeed_12 : decode cL_setNeed 12 = .ok (.goto 11, 3) := by decide +kernel
theorem dL_setNeed_15 : decode cL_setNeed 15 = .ok (.astore 5, 2) := by decide +kernel
theorem dL_setNeed_17 : decode cL_setNeed 17 = .ok (.iconst 1, 1) := by decide +kernel
theorem dL_setNeed_18 : decode cL_setNeed 18 = .ok (.ireturn, 1) := by decide +kernel
theorem dL_setNeed_19 : decode cL_setNeed 19 = .ok (.astore 5, 2) := by decide +kernel
theorem dL_setNeed_21 : decode cL_setNeed 21 = .ok (.iconst 2, 1) := by decide +kernel
theorem dL_setNeed_22 : decode cL_setNeed 22 = .ok (.ireturn, 1) := by decide +kernel
theorem dL_setNeed_23 : decode cL_setNeed 23 = .ok (.iconst 0, 1) := by decide +kernel
theorem dL_setNeed_24 : decode cL_setNeed 24 = .ok (.ireturn, 1) := by decide +kernel
set_option maxRecDepth 20000 in
theorem ggL_forbid_X8_forbid : GoodIn wsL_forbid wsX8_forbid := goodIn_ca (goodIn_r _ [6, 7, 8, 9, 10, 11, 5, 12, 13, 14, 15, 16, 17, 18, 19, 20, 21, 22, 23, 24, 25, 26, 27, 28, 29, 30, 31, 32] (by decide +kernel) (by decide +kernel)) (goodIn_sub (fun _ h => List.mem_cons_of_mem _ (List.mem_append_right _ h)) (by decide +kernel))
set_option maxRecDepth 20000 in
theorem gL_forbid_X8_forbid : GoodIn wsL_forbid (wsV RL 23 RX8 yX8_forbid wsX8_forbid) := goodIn_app (goodIn_of _ (by decide +kernel)) ggL_forbid_X8_forbid
theorem dL_forbid_0 : decode cL_forbid 0 = .ok (.aload 4, 2) := by decide +kernel
theorem dL_forbid_2 : decode cL_forbid 2 = .ok (.iconst 0, 1) := by decide +kernel
theorem dL_forbid_3 : decode cL_forbid 3 = .ok (.aload_n 0, 1) := by decide +kernel
theorem dL_forbid_4 : decode cL_forbid 4 = .ok (.iload_n 1, 1) := by decide +kernel
theorem dL_forbid_5 : decode cL_forbid 5 = .ok (.iload_n 2, 1) := by decide +kernel
theorem dL_forbid_6 : decode cL_forbid 6 = .ok (.iload_n 3, 1) := by decide +kernel
theorem dL_forbid_7 : decode cL_forbid 7 = .ok (.invokevirtual 23, 3) := by decide +kernel
theorem dL_forbid_10 : decode cL_forbid 10 = .ok (.ifCond .eq 7, 3) := by decide +kernel
theorem dL_forbid_13 : decode cL_forbid 13 = .ok (.lconst 1, 1) := by decide +kernel
theorem dL_forbid_14 : decode cL_forbid 14 = .ok (.goto 4, 3) := by decide +kernel
theorem dL_forbid_17 : decode cL_forbid 17 = .ok (.lconst 0, 1) := by decide +kernel
theorem dL_forbid_18 : decode cL_forbid 18 = .ok (.lastore, 1) := by decide +kernel
theorem dL_forbid_19 : decode cL_forbid 19 = .ok (.goto 7, 3) := by decide +kernel
theorem dL_forbid_22 : decode cL_forbid 22 = .ok (.astore 5, 2) := by decide +kernel
theorem dL_forbid_24 : decode cL_forbid 24 = .ok (.iconst 1, 1) := by decide +kernel
theorem dL_forbid_25 : decode cL_forbid 25 = .ok (.ireturn, 1) := by decide +kernel
theorem dL_forbid_26 : decode cL_forbid 26 = .ok (.iconst 0, 1) := by decide +kernel
theorem dL_forbid_27 : decode cL_forbid 27 = .ok (.ireturn, 1) := by decide +kernel
set_option maxRecDepth 20000 in
theorem ggL_setRun_X8_setRun : GoodIn wsL_setRun wsX8_setRun := goodIn_ca (goodIn_r _ [6, 7, 8, 9, 10, 11, 12, 13, 14, 15, 16, 17, 18, 19, 20] (by decide +kernel) (by decide +kernel)) (goodIn_sub (fun _ h => List.mem_cons_of_mem _ (List.mem_append_right _ h)) (by decide +kernel))
set_option maxRecDepth 20000 in
theorem gL_setRun_X8_setRun : GoodIn wsL_setRun (wsV RL 27 RX8 yX8_setRun wsX8_setRun) := goodIn_app (goodIn_of _ (by decide +kernel)) ggL_setRun_X8_setRun
theorem dL_setRun_0 : decode cL_setRun 0 = .ok (.aload_n 2, 1) := by decide +kernel
theorem dL_setRun_1 : decode cL_setRun 1 = .ok (.iconst 0, 1) := by decide +kernel
theorem dL_setRun_2 : decode cL_setRun 2 = .ok (.aload_n 0, 1) := by decide +kernel
theorem dL_setRun_3 : decode cL_setRun 3 = .ok (.iload_n 1, 1) := by decide +kernel
theorem dL_setRun_4 : decode cL_setRun 4 = .ok (.invokevirtual 27, 3) := by decide +kernel
theorem dL_setRun_7 : decode cL_setRun 7 = .ok (.i2l, 1) := by decide +kernel
theorem dL_setRun_8 : decode cL_setRun 8 = .ok (.lastore, 1) := by decide +kernel
theorem dL_setRun_9 : decode cL_setRun 9 = .ok (.goto 6, 3) := by decide +kernel
theorem dL_setRun_12 : decode cL_setRun 12 = .ok (.astore_n 3, 1) := by decide +kernel
theorem dL_setRun_13 : decode cL_setRun 13 = .ok (.iconst 1, 1) := by decide +kernel
theorem dL_setRun_14 : decode cL_setRun 14 = .ok (.ireturn, 1) := by decide +kernel
theorem dL_setRun_15 : decode cL_setRun 15 = .ok (.iconst 0, 1) := by decide +kernel
theorem dL_setRun_16 : decode cL_setRun 16 = .ok (.ireturn, 1) := by decide +kernel
set_option maxRecDepth 20000 in
theorem ggL_wish_X8_wish : GoodIn wsL_wish wsX8_wish := goodIn_ca (goodIn_r _ [6, 7, 8, 9, 10, 11, 5, 12, 13, 14, 15, 16, 17, 18, 19, 20, 21, 22, 23, 24, 25, 26, 27, 28, 29, 30, 31, 32, 33, 34, 35, 36, 37, 38, 39] (by decide +kernel) (by decide +kernel)) (goodIn_sub (fun _ h => List.mem_cons_of_mem _ (List.mem_append_right _ h)) (by decide +kernel))
set_option maxRecDepth 20000 in
theorem gL_wish_X8_wish : GoodIn wsL_wish (wsV RL 31 RX8 yX8_wish wsX8_wish) := goodIn_app (goodIn_of _ (by decide +kernel)) ggL_wish_X8_wish
theorem dL_wish_0 : decode cL_wish 0 = .ok (.aload 4, 2) := by decide +kernel
theorem dL_wish_2 : decode cL_wish 2 = .ok (.iconst 0, 1) := by decide +kernel
theorem dL_wish_3 : decode cL_wish 3 = .ok (.aload_n 0, 1) := by decide +kernel
theorem dL_wish_4 : decode cL_wish 4 = .ok (.iload_n 1, 1) := by decide +kernel
theorem dL_wish_5 : decode cL_wish 5 = .ok (.iload_n 2, 1) := by decide +kernel
theorem dL_wish_6 : decode cL_wish 6 = .ok (.iload_n 3, 1) := by decide +kernel
theorem dL_wish_7 : decode cL_wish 7 = .ok (.invokevirtual 31, 3) := by decide +kernel
theorem dL_wish_10 : decode cL_wish 10 = .ok (.ifCond .eq 7, 3) := by decide +kernel
theorem dL_wish_13 : decode cL_wish 13 = .ok (.lconst 1, 1) := by decide +kernel
theorem dL_wish_14 : decode cL_wish 14 = .ok (.goto 4, 3) := by decide +kernel
theorem dL_wish_17 : decode cL_wish 17 = .ok (.lconst 0, 1) := by decide +kernel
theorem dL_wish_18 : decode cL_wish 18 = .ok (.lastore, 1) := by decide +kernel
theorem dL_wish_19 : decode cL_wish 19 = .ok (.goto 7, 3) := by decide +kernel
theorem dL_wish_22 : decode cL_wish 22 = .ok (.astore 5, 2) := by decide +kernel
theorem dL_wish_24 : decode cL_wish 24 = .ok (.iconst 1, 1) := by decide +kernel
theorem dL_wish_25 : decode cL_wish 25 = .ok (.ireturn, 1) := by decide +kernel
theorem dL_wish_26 : decode cL_wish 26 = .ok (.iconst 0, 1) := by decide +kernel
theorem dL_wish_27 : decode cL_wish 27 = .ok (.ireturn, 1) := by decide +kernel
set_option maxRecDepth 20000 in
theorem ggL_fix_X8_fix : GoodIn wsL_fix wsX8_fix := goodIn_ca (goodIn_ca (goodIn_r _ [7, 8, 9, 10, 11, 12, 13, 14, 6, 15, 16, 17, 18, 19, 20, 21, 22, 23, 24, 25, 26, 27, 28, 29, 30, 31, 32, 33, 34, 35, 36, 37, 38, 39, 40, 41, 42, 43, 44, 45, 46, 47, 48, 49] (by decide +kernel) (by decide +kernel)) (goodIn_sub (fun _ h => List.mem_cons_of_mem _ (List.mem_append_left _ (List.mem_append_right _ h))) (by decide +kernel))) (goodIn_sub (fun _ h => List.mem_cons_of_mem _ (List.mem_append_right _ h)) (by decide +kernel))
set_option maxRecDepth 20000 in
theorem gL_fix_X8_fix : GoodIn wsL_fix (wsV RL 34 RX8 yX8_fix wsX8_fix) := goodIn_app (goodIn_of _ (by decide +kernel)) ggL_fix_X8_fix
theorem dL_fix_0 : decode cL_fix 0 = .ok (.aload 4, 2) := by decide +kernel
theorem dL_fix_2 : decode cL_fix 2 = .ok (.iconst 0, 1) := by decide +kernel
theorem dL_fix_3 : decode cL_fix 3 = .ok (.aload_n 0, 1) := by decide +kernel
theorem dL_fix_4 : decode cL_fix 4 = .ok (.iload_n 1, 1) := by decide +kernel
theorem dL_fix_5 : decode cL_fix 5 = .ok (.iload_n 2, 1) := by decide +kernel
theorem dL_fix_6 : decode cL_fix 6 = .ok (.iload_n 3, 1) := by decide +kernel
theorem dL_fix_7 : decode cL_fix 7 = .ok (.invokevirtual 34, 3) := by decide +kernel
theorem dL_fix_10 : decode cL_fix 10 = .ok (.i2l, 1) := by decide +kernel
theorem dL_fix_11 : decode cL_fix 11 = .ok (.lastore, 1) := by decide +kernel
theorem dL_fix_12 : decode cL_fix 12 = .ok (.goto 11, 3) := by decide +kernel
theorem dL_fix_15 : decode cL_fix 15 = .ok (.astore 5, 2) := by decide +kernel
theorem dL_fix_17 : decode cL_fix 17 = .ok (.iconst 1, 1) := by decide +kernel
theorem dL_fix_18 : decode cL_fix 18 = .ok (.ireturn, 1) := by decide +kernel
theorem dL_fix_19 : decode cL_fix 19 = .ok (.astore 5, 2) := by decide +kernel
theorem dL_fix_21 : decode cL_fix 21 = .ok (.iconst 2, 1) := by decide +kernel
theorem dL_fix_22 : decode cL_fix 22 = .ok (.ireturn, 1) := by decide +kernel
theorem dL_fix_23 : decode cL_fix 23 = .ok (.iconst 0, 1) := by decide +kernel
theorem dL_fix_24 : decode cL_fix 24 = .ok (.ireturn, 1) := by decide +kernel
set_option maxRecDepth 20000 in
theorem ggL_set_X8_set : GoodIn wsL_set wsX8_set := goodIn_ca (goodIn_ca (goodIn_ca (goodIn_r _ [8, 9, 10, 11, 12, 13, 14, 15, 16, 17, 18, 7, 19, 20, 21, 22, 23, 24, 25, 26, 27, 28, 29, 30, 31, 32, 33, 34, 35, 36, 37, 38, 39, 40, 41, 42, 43, 44, 45, 46, 47, 48, 49, 50, 51, 52, 53, 54, 55, 56, 57, 58, 59, 60, 61, 62, 63, 64, 65, 66, 67, 68, 69, 70, 71, 72, 73, 74, 75, 76, 77, 78, 79, 80, 81, 82, 83, 84, 85, 86, 87, 88] (by decide +kernel) (by decide +kernel)) (goodIn_sub (fun _ h => List.mem_cons_of_mem _ (List.mem_append_left _ (List.mem_append_left _ (List.mem_append_right _ h)))) (by decide +kernel))) (goodIn_sub (fun _ h => List.mem_cons_of_mem _ (List.mem_append_left _ (List.mem_append_right _ h))) (by decide +kernel))) (goodIn_sub (fun _ h => List.mem_cons_of_mem _ (List.mem_append_right _ h)) (by decide +kernel))
set_option maxRecDepth 20000 in
theorem gL_set_X8_set : GoodIn wsL_set (wsV RL 37 RX8 yX8_set wsX8_set) := goodIn_app (goodIn_of _ (by decide +kernel)) ggL_set_X8_set
theorem dL_set_0 : decode cL_set 0 = .ok (.aload 4, 2) := by decide +kernel
theorem dL_set_2 : decode cL_set 2 = .ok (.iconst 0, 1) := by decide +kernel
theorem dL_set_3 : decode cL_set 3 = .ok (.aload_n 0, 1) := by decide +kernel
theorem dL_set_4 : decode cL_set 4 = .ok (.iload_n 1, 1) := by decide +kernel
theorem dL_set_5 : decode cL_set 5 = .ok (.iload_n 2, 1) := by decide +kernel
theorem dL_set_6 : decode cL_set 6 = .ok (.iload_n 3, 1) := by decide +kernel
theorem dL_set_7 : decode cL_set 7 = .ok (.invokevirtual 37, 3) := by decide +kernel
theorem dL_set_10 : decode cL_set 10 = .ok (.i2l, 1) := by decide +kernel
theorem dL_set_11 : decode cL_set 11 = .ok (.lastore, 1) := by decide +kernel
theorem dL_set_12 : decode cL_set 12 = .ok (.goto 15, 3) := by decide +kernel
theorem dL_set_15 : decode cL_set 15 = .ok (.astore 5, 2) := by decide +kernel
theorem dL_set_17 : decode cL_set 17 = .ok (.iconst 1, 1) := by decide +kernel
theorem dL_set_18 : decode cL_set 18 = .ok (.ireturn, 1) := by decide +kernel
theorem dL_set_19 : decode cL_set 19 = .ok (.astore 5, 2) := by decide +kernel
theorem dL_set_21 : decode cL_set 21 = .ok (.iconst 2, 1) := by decide +kernel
theorem dL_set_22 : decode cL_set 22 = .ok (.ireturn, 1) := by decide +kernel
theorem dL_set_23 : decode cL_set 23 = .ok (.astore 5, 2) := by decide +kernel
theorem dL_set_25 : decode cL_set 25 = .ok (.iconst 3, 1) := by decide +kernel
theorem dL_set_26 : decode cL_set 26 = .ok (.ireturn, 1) := by decide +kernel
theorem dL_set_27 : decode cL_set 27 = .ok (.iconst 0, 1) := by decide +kernel
theorem dL_set_28 : decode cL_set 28 = .ok (.ireturn, 1) := by decide +kernel
set_option maxRecDepth 20000 in
theorem ggL_swap_X8_swap : GoodIn wsL_swap wsX8_swap := goodIn_ca (goodIn_ca (goodIn_r _ [7, 8, 9, 10, 11, 12, 13, 14, 6, 15, 16, 17, 18, 19, 20, 21, 22, 23, 24, 25, 26, 27, 28, 29, 30, 31, 32, 33, 34, 35, 36, 37, 38, 39, 40, 41, 42, 43, 44, 45, 46, 47, 48, 49, 50, 51, 52, 53, 54, 55, 56, 57, 58, 59, 60, 61, 62, 63, 64, 65, 66, 67, 68, 69, 70, 71, 72, 73, 74, 75, 76, 77, 78, 79, 80, 81, 82, 83, 84, 85, 86, 87, 88, 89, 90, 91, 92, 93, 94, 95, 96] (by decide +kernel) (by decide +kernel)) (goodIn_sub (fun _ h => List.mem_cons_of_mem _ (List.mem_append_left _ (List.mem_append_right _ h))) (by decide +kernel))) (goodIn_sub (fun _ h => List.mem_cons_of_mem _ (List.mem_append_right _ h)) (by decide +kernel))
set_option maxRecDepth 20000 in
theorem gL_swap_X8_swap : GoodIn wsL_swap (wsV RL 40 RX8 yX8_swap wsX8_swap) := goodIn_app (goodIn_of _ (by decide +kernel)) ggL_swap_X8_swap
theorem dL_swap_0 : decode cL_swap 0 = .ok (.aload 4, 2) := by decide +kernel
theorem dL_swap_2 : decode cL_swap 2 = .ok (.iconst 0, 1) := by decide +kernel
theorem dL_swap_3 : decode cL_swap 3 = .ok (.aload_n 0, 1) := by decide +kernel
theorem dL_swap_4 : decode cL_swap 4 = .ok (.iload_n 1, 1) := by decide +kernel
theorem dL_swap_5 : decode cL_swap 5 = .ok (.iload_n 2, 1) := by decide +kernel
theorem dL_swap_6 : decode cL_swap 6 = .ok (.iload_n 3, 1) := by decide +kernel
theorem dL_swap_7 : decode cL_swap 7 = .ok (.invokevirtual 40, 3) := by decide +kernel
theorem dL_swap_10 : decode cL_swap 10 = .ok (.i2l, 1) := by decide +kernel
theorem dL_swap_11 : decode cL_swap 11 = .ok (.lastore, 1) := by decide +kernel
theorem dL_swap_12 : decode cL_swap 12 = .ok (.goto 11, 3) := by decide +kernel
theorem dL_swap_15 : decode cL_swap 15 = .ok (.astore 5, 2) := by decide +kernel
theorem dL_swap_17 : decode cL_swap 17 = .ok (.iconst 1, 1) := by decide +kernel
theorem dL_swap_18 : decode cL_swap 18 = .ok (.ireturn, 1) := by decide +kernel
theorem dL_swap_19 : decode cL_swap 19 = .ok (.astore 5, 2) := by decide +kernel
theorem dL_swap_21 : decode cL_swap 21 = .ok (.iconst 2, 1) := by decide +kernel
theorem dL_swap_22 : decode cL_swap 22 = .ok (.ireturn, 1) := by decide +kernel
theorem dL_swap_23 : decode cL_swap 23 = .ok (.iconst 0, 1) := by decide +kernel
theorem dL_swap_24 : decode cL_swap 24 = .ok (.ireturn, 1) := by decide +kernel
set_option maxRecDepth 20000 in
theorem ggL_entry_X8_entry : GoodIn wsL_entry wsX8_entry := goodIn_ca (goodIn_r _ [6, 7, 8, 9, 10, 11, 5, 12, 13, 14, 15, 16, 17, 18, 19, 20, 21, 22, 23, 24, 25, 26, 27, 28, 29, 30, 31, 32, 33, 34, 35, 36, 37, 38, 39, 40] (by decide +kernel) (by decide +kernel)) (goodIn_sub (fun _ h => List.mem_cons_of_mem _ (List.mem_append_right _ h)) (by decide +kernel))
set_option maxRecDepth 20000 in
theorem gL_entry_X8_entry : GoodIn wsL_entry (wsV RL 43 RX8 yX8_entry wsX8_entry) := goodIn_app (goodIn_of _ (by decide +kernel)) ggL_entry_X8_entry
theorem dL_entry_0 : decode cL_entry 0 = .ok (.aload_n 3, 1) := by decide +kernel
theorem dL_entry_1 : decode cL_entry 1 = .ok (.iconst 0, 1) := by decide +kernel
theorem dL_entry_2 : decode cL_entry 2 = .ok (.aload_n 0, 1) := by decide +kernel
theorem dL_entry_3 : decode cL_entry 3 = .ok (.iload_n 1, 1) := by decide +kernel
theorem dL_entry_4 : decode cL_entry 4 = .ok (.iload_n 2, 1) := by decide +kernel
theorem dL_entry_5 : decode cL_entry 5 = .ok (.invokevirtual 43, 3) := by decide +kernel
theorem dL_entry_8 : decode cL_entry 8 = .ok (.i2l, 1) := by decide +kernel
theorem dL_entry_9 : decode cL_entry 9 = .ok (.lastore, 1) := by decide +kernel
theorem dL_entry_10 : decode cL_entry 10 = .ok (.goto 7, 3) := by decide +kernel
theorem dL_entry_13 : decode cL_entry 13 = .ok (.astore 4, 2) := by decide +kernel
theorem dL_entry_15 : decode cL_entry 15 = .ok (.iconst 1, 1) := by decide +kernel
theorem dL_entry_16 : decode cL_entry 16 = .ok (.ireturn, 1) := by decide +kernel
theorem dL_entry_17 : decode cL_entry 17 = .ok (.iconst 0, 1) := by decide +kernel
theorem dL_entry_18 : decode cL_entry 18 = .ok (.ireturn, 1) := by decide +kernel
set_option maxRecDepth 20000 in
theorem ggL_gap_X8_gap : GoodIn wsL_gap wsX8_gap := goodIn_ca (goodIn_r _ [6, 7, 8, 9, 10, 5, 11, 12, 13, 14, 15, 16, 17, 18, 19, 20, 21, 22, 23, 24, 25, 26, 27, 28, 29, 30, 31, 32, 33, 34, 35, 36, 37, 38, 39, 40, 41, 42, 43, 44, 45, 46, 47, 48, 49, 50, 51, 52, 53, 54, 55] (by decide +kernel) (by decide +kernel)) (goodIn_sub (fun _ h => List.mem_cons_of_mem _ (List.mem_append_right _ h)) (by decide +kernel))
set_option maxRecDepth 20000 in
theorem gL_gap_X8_gap : GoodIn wsL_gap (wsV RL 46 RX8 yX8_gap wsX8_gap) := goodIn_app (goodIn_of _ (by decide +kernel)) ggL_gap_X8_gap
theorem dL_gap_0 : decode cL_gap 0 = .ok (.aload_n 3, 1) := by decide +kernel
theorem dL_gap_1 : decode cL_gap 1 = .ok (.iconst 0, 1) := by decide +kernel
theorem dL_gap_2 : decode cL_gap 2 = .ok (.aload_n 0, 1) := by decide +kernel
theorem dL_gap_3 : decode cL_gap 3 = .ok (.iload_n 1, 1) := by decide +kernel
theorem dL_gap_4 : decode cL_gap 4 = .ok (.iload_n 2, 1) := by decide +kernel
theorem dL_gap_5 : decode cL_gap 5 = .ok (.invokevirtual 46, 3) := by decide +kernel
theorem dL_gap_8 : decode cL_gap 8 = .ok (.i2l, 1) := by decide +kernel
theorem dL_gap_9 : decode cL_gap 9 = .ok (.lastore, 1) := by decide +kernel
theorem dL_gap_10 : decode cL_gap 10 = .ok (.goto 7, 3) := by decide +kernel
theorem dL_gap_13 : decode cL_gap 13 = .ok (.astore 4, 2) := by decide +kernel
theorem dL_gap_15 : decode cL_gap 15 = .ok (.iconst 1, 1) := by decide +kernel
theorem dL_gap_16 : decode cL_gap 16 = .ok (.ireturn, 1) := by decide +kernel
theorem dL_gap_17 : decode cL_gap 17 = .ok (.iconst 0, 1) := by decide +kernel
theorem dL_gap_18 : decode cL_gap 18 = .ok (.ireturn, 1) := by decide +kernel
set_option maxRecDepth 20000 in
theorem ggL_shifts_X8_shifts : GoodIn wsL_shifts wsX8_shifts := goodIn_ca (goodIn_r _ [6, 7, 8, 9, 10, 11, 5, 12, 13, 14, 15, 16, 17, 18, 19, 20, 21, 22, 23, 24, 25, 26, 27, 28, 29, 30, 31, 32, 33, 34, 35, 36, 37, 38, 39, 40] (by decide +kernel) (by decide +kernel)) (goodIn_sub (fun _ h => List.mem_cons_of_mem _ (List.mem_append_right _ h)) (by decide +kernel))
set_option maxRecDepth 20000 in
theorem gL_shifts_X8_shifts : GoodIn wsL_shifts (wsV RL 49 RX8 yX8_shifts wsX8_shifts) := goodIn_app (goodIn_of _ (by decide +kernel)) ggL_shifts_X8_shifts
theorem dL_shifts_0 : decode cL_shifts 0 = .ok (.aload_n 2, 1) := by decide +kernel
theorem dL_shifts_1 : decode cL_shifts 1 = .ok (.iconst 0, 1) := by decide +kernel
theorem dL_shifts_2 : decode cL_shifts 2 = .ok (.aload_n 0, 1) := by decide +kernel
theorem dL_shifts_3 : decode cL_shifts 3 = .ok (.iload_n 1, 1) := by decide +kernel
theorem dL_shifts_4 : decode cL_shifts 4 = .ok (.invokevirtual 49, 3) := by decide +kernel
theorem dL_shifts_7 : decode cL_shifts 7 = .ok (.i2l, 1) := by decide +kernel
theorem dL_shifts_8 : decode cL_shifts 8 = .ok (.lastore, 1) := by decide +kernel
theorem dL_shifts_9 : decode cL_shifts 9 = .ok (.goto 6, 3) := by decide +kernel
theorem dL_shifts_12 : decode cL_shifts 12 = .ok (.astore_n 3, 1) := by decide +kernel
theorem dL_shifts_13 : decode cL_shifts 13 = .ok (.iconst 1, 1) := by decide +kernel
theorem dL_shifts_14 : decode cL_shifts 14 = .ok (.ireturn, 1) := by decide +kernel
theorem dL_shifts_15 : decode cL_shifts 15 = .ok (.iconst 0, 1) := by decide +kernel
theorem dL_shifts_16 : decode cL_shifts 16 = .ok (.ireturn, 1) := by decide +kernel
set_option maxRecDepth 20000 in
theorem ggL_weekends_X8_weekends : GoodIn wsL_weekends wsX8_weekends := goodIn_ca (goodIn_r _ [6, 7, 8, 9, 10, 11, 5, 12, 13, 14, 15, 16, 17, 18, 19, 20, 21, 22, 23, 24, 25, 26, 27, 28, 29, 30] (by decide +kernel) (by decide +kernel)) (goodIn_sub (fun _ h => List.mem_cons_of_mem _ (List.mem_append_right _ h)) (by decide +kernel))
set_option maxRecDepth 20000 in
theorem gL_weekends_X8_weekends : GoodIn wsL_weekends (wsV RL 52 RX8 yX8_weekends wsX8_weekends) := goodIn_app (goodIn_of _ (by decide +kernel)) ggL_weekends_X8_weekends
theorem dL_weekends_0 : decode cL_weekends 0 = .ok (.aload_n 2, 1) := by decide +kernel
theorem dL_weekends_1 : decode cL_weekends 1 = .ok (.iconst 0, 1) := by decide +kernel
theorem dL_weekends_2 : decode cL_weekends 2 = .ok (.aload_n 0, 1) := by decide +kernel
theorem dL_weekends_3 : decode cL_weekends 3 = .ok (.iload_n 1, 1) := by decide +kernel
theorem dL_weekends_4 : decode cL_weekends 4 = .ok (.invokevirtual 52, 3) := by decide +kernel
theorem dL_weekends_7 : decode cL_weekends 7 = .ok (.i2l, 1) := by decide +kernel
theorem dL_weekends_8 : decode cL_weekends 8 = .ok (.lastore, 1) := by decide +kernel
theorem dL_weekends_9 : decode cL_weekends 9 = .ok (.goto 6, 3) := by decide +kernel
theorem dL_weekends_12 : decode cL_weekends 12 = .ok (.astore_n 3, 1) := by decide +kernel
theorem dL_weekends_13 : decode cL_weekends 13 = .ok (.iconst 1, 1) := by decide +kernel
theorem dL_weekends_14 : decode cL_weekends 14 = .ok (.ireturn, 1) := by decide +kernel
theorem dL_weekends_15 : decode cL_weekends 15 = .ok (.iconst 0, 1) := by decide +kernel
theorem dL_weekends_16 : decode cL_weekends 16 = .ok (.ireturn, 1) := by decide +kernel
set_option maxRecDepth 20000 in
theorem ggL_broken_X8_broken : GoodIn wsL_broken wsX8_broken := goodIn_ca (goodIn_r _ [6, 7, 8, 9, 10, 11, 5, 12, 13, 14, 15, 16, 17, 18, 19, 20, 21, 22, 23, 24, 25, 26, 27, 28, 29, 30, 31, 32, 33, 34, 35, 36, 37, 38, 39, 40, 41, 42, 43, 44, 45, 46, 47, 48] (by decide +kernel) (by decide +kernel)) (goodIn_sub (fun _ h => List.mem_cons_of_mem _ (List.mem_append_right _ h)) (by decide +kernel))
set_option maxRecDepth 20000 in
theorem gL_broken_X8_broken : GoodIn wsL_broken (wsV RL 55 RX8 yX8_broken wsX8_broken) := goodIn_app (goodIn_of _ (by decide +kernel)) ggL_broken_X8_broken
theorem dL_broken_0 : decode cL_broken 0 = .ok (.aload_n 2, 1) := by decide +kernel
theorem dL_broken_1 : decode cL_broken 1 = .ok (.iconst 0, 1) := by decide +kernel
theorem dL_broken_2 : decode cL_broken 2 = .ok (.aload_n 0, 1) := by decide +kernel
theorem dL_broken_3 : decode cL_broken 3 = .ok (.iload_n 1, 1) := by decide +kernel
theorem dL_broken_4 : decode cL_broken 4 = .ok (.invokevirtual 55, 3) := by decide +kernel
theorem dL_broken_7 : decode cL_broken 7 = .ok (.i2l, 1) := by decide +kernel
theorem dL_broken_8 : decode cL_broken 8 = .ok (.lastore, 1) := by decide +kernel
theorem dL_broken_9 : decode cL_broken 9 = .ok (.goto 6, 3) := by decide +kernel
theorem dL_broken_12 : decode cL_broken 12 = .ok (.astore_n 3, 1) := by decide +kernel
theorem dL_broken_13 : decode cL_broken 13 = .ok (.iconst 1, 1) := by decide +kernel
theorem dL_broken_14 : decode cL_broken 14 = .ok (.ireturn, 1) := by decide +kernel
theorem dL_broken_15 : decode cL_broken 15 = .ok (.iconst 0, 1) := by decide +kernel
theorem dL_broken_16 : decode cL_broken 16 = .ok (.ireturn, 1) := by decide +kernel
set_option maxRecDepth 20000 in
theorem ggL_runBefore_X8_runBefore : GoodIn wsL_runBefore wsX8_runBefore := goodIn_ca (goodIn_r _ [6, 7, 8, 9, 10, 11, 5, 12, 13, 14, 15, 16, 17, 18, 19, 20, 21, 22, 23, 24, 25, 26, 27, 28, 29, 30] (by decide +kernel) (by decide +kernel)) (goodIn_sub (fun _ h => List.mem_cons_of_mem _ (List.mem_append_right _ h)) (by decide +kernel))
set_option maxRecDepth 20000 in
theorem gL_runBefore_X8_runBefore : GoodIn wsL_runBefore (wsV RL 58 RX8 yX8_runBefore wsX8_runBefore) := goodIn_app (goodIn_of _ (by decide +kernel)) ggL_runBefore_X8_runBefore
theorem dL_runBefore_0 : decode cL_runBefore 0 = .ok (.aload_n 2, 1) := by decide +kernel
theorem dL_runBefore_1 : decode cL_runBefore 1 = .ok (.iconst 0, 1) := by decide +kernel
theorem dL_runBefore_2 : decode cL_runBefore 2 = .ok (.aload_n 0, 1) := by decide +kernel
theorem dL_runBefore_3 : decode cL_runBefore 3 = .ok (.iload_n 1, 1) := by decide +kernel
theorem dL_runBefore_4 : decode cL_runBefore 4 = .ok (.invokevirtual 58, 3) := by decide +kernel
theorem dL_runBefore_7 : decode cL_runBefore 7 = .ok (.i2l, 1) := by decide +kernel
theorem dL_runBefore_8 : decode cL_runBefore 8 = .ok (.lastore, 1) := by decide +kernel
theorem dL_runBefore_9 : decode cL_runBefore 9 = .ok (.goto 6, 3) := by decide +kernel
theorem dL_runBefore_12 : decode cL_runBefore 12 = .ok (.astore_n 3, 1) := by decide +kernel
theorem dL_runBefore_13 : decode cL_runBefore 13 = .ok (.iconst 1, 1) := by decide +kernel
theorem dL_runBefore_14 : decode cL_runBefore 14 = .ok (.ireturn, 1) := by decide +kernel
theorem dL_runBefore_15 : decode cL_runBefore 15 = .ok (.iconst 0, 1) := by decide +kernel
theorem dL_runBefore_16 : decode cL_runBefore 16 = .ok (.ireturn, 1) := by decide +kernel
set_option maxRecDepth 20000 in
theorem ggL_isFeasible_X8_isFeasible : GoodIn wsL_isFeasible wsX8_isFeasible := goodIn_ca (goodIn_r _ [6, 7, 8, 9, 10, 11, 12, 5, 13, 14, 15, 16, 17, 18, 19, 20, 21, 22, 23, 24, 25, 26, 27, 28, 29, 30, 31, 32, 33, 34, 35, 36, 37, 38, 39, 40, 41, 42, 43, 44, 45, 46, 47, 48, 49, 50, 51, 52, 53, 54, 55, 56, 57, 58, 59, 60, 61, 62, 63, 64, 65, 66, 67, 68, 69, 70, 71, 72] (by decide +kernel) (by decide +kernel)) (goodIn_sub (fun _ h => List.mem_cons_of_mem _ (List.mem_append_right _ h)) (by decide +kernel))
set_option maxRecDepth 20000 in
theorem gL_isFeasible_X8_isFeasible : GoodIn wsL_isFeasible (wsV RL 61 RX8 yX8_isFeasible wsX8_isFeasible) := goodIn_app (goodIn_of _ (by decide +kernel)) ggL_isFeasible_X8_isFeasible
theorem dL_isFeasible_0 : decode cL_isFeasible 0 = .ok (.aload_n 2, 1) := by decide +kernel
theorem dL_isFeasible_1 : decode cL_isFeasible 1 = .ok (.iconst 0, 1) := by decide +kernel
theorem dL_isFeasible_2 : decode cL_isFeasible 2 = .ok (.aload_n 0, 1) := by decide +kernel
theorem dL_isFeasible_3 : decode cL_isFeasible 3 = .ok (.iload_n 1, 1) := by decide +kernel
theorem dL_isFeasible_4 : decode cL_isFeasible 4 = .ok (.invokevirtual 61, 3) := by decide +kernel
theorem dL_isFeasible_7 : decode cL_isFeasible 7 = .ok (.ifCond .eq 7, 3) := by decide +kernel
theorem dL_isFeasible_10 : decode cL_isFeasible 10 = .ok (.lconst 1, 1) := by decide +kernel
theorem dL_isFeasible_11 : decode cL_isFeasible 11 = .ok (.goto 4, 3) := by decide +kernel
theorem dL_isFeasible_14 : decode cL_isFeasible 14 = .ok (.lconst 0, 1) := by decide +kernel
theorem dL_isFeasible_15 : decode cL_isFeasible 15 = .ok (.lastore, 1) := by decide +kernel
theorem dL_isFeasible_16 : decode cL_isFeasible 16 = .ok (.goto 6, 3) := by decide +kernel
theorem dL_isFeasible_19 : decode cL_isFeasible 19 = .ok (.astore_n 3, 1) := by decide +kernel
theorem dL_isFeasible_20 : decode cL_isFeasible 20 = .ok (.iconst 1, 1) := by decide +kernel
theorem dL_isFeasible_21 : decode cL_isFeasible 21 = .ok (.ireturn, 1) := by decide +kernel
theorem dL_isFeasible_22 : decode cL_isFeasible 22 = .ok (.iconst 0, 1) := by decide +kernel
theorem dL_isFeasible_23 : decode cL_isFeasible 23 = .ok (.ireturn, 1) := by decide +kernel
set_option maxRecDepth 20000 in
theorem ggL_weeks_X8_weeks : GoodIn wsL_weeks wsX8_weeks := goodIn_ca (goodIn_r _ [6, 7, 8, 9, 10, 11, 12, 5, 13, 14, 15, 16, 17, 18, 19, 20, 21, 22, 23, 24, 25, 26, 27, 28, 29, 30, 31, 32, 33, 34, 35, 36, 37, 38, 39, 40, 41, 42, 43, 44, 45, 46, 47, 48, 49, 50, 51, 52, 53, 54, 55, 56, 57, 58, 59, 60, 61, 62, 63, 64, 65, 66, 67, 68, 69, 70, 71, 72] (by decide +kernel) (by decide +kernel)) (goodIn_sub (fun _ h => List.mem_cons_of_mem _ (List.mem_append_right _ h)) (by decide +kernel))
set_option maxRecDepth 20000 in
theorem gL_weeks_X8_weeks : GoodIn wsL_weeks (wsV RL 65 RX8 yX8_weeks wsX8_weeks) := goodIn_app (goodIn_of _ (by decide +kernel)) ggL_weeks_X8_weeks
theorem dL_weeks_0 : decode cL_weeks 0 = .ok (.aload_n 2, 1) := by decide +kernel
theorem dL_weeks_1 : decode cL_weeks 1 = .ok (.iconst 0, 1) := by decide +kernel
theorem dL_weeks_2 : decode cL_weeks 2 = .ok (.aload_n 0, 1) := by decide +kernel
theorem dL_weeks_3 : decode cL_weeks 3 = .ok (.iload_n 1, 1) := by decide +kernel
theorem dL_weeks_4 : decode cL_weeks 4 = .ok (.invokevirtual 65, 3) := by decide +kernel
theorem dL_weeks_7 : decode cL_weeks 7 = .ok (.i2l, 1) := by decide +kernel
theorem dL_weeks_8 : decode cL_weeks 8 = .ok (.lastore, 1) := by decide +kernel
theorem dL_weeks_9 : decode cL_weeks 9 = .ok (.goto 6, 3) := by decide +kernel
theorem dL_weeks_12 : decode cL_weeks 12 = .ok (.astore_n 3, 1) := by decide +kernel
theorem dL_weeks_13 : decode cL_weeks 13 = .ok (.iconst 1, 1) := by decide +kernel
theorem dL_weeks_14 : decode cL_weeks 14 = .ok (.ireturn, 1) := by decide +kernel
theorem dL_weeks_15 : decode cL_weeks 15 = .ok (.iconst 0, 1) := by decide +kernel
theorem dL_weeks_16 : decode cL_weeks 16 = .ok (.ireturn, 1) := by decide +kernel
set_option maxRecDepth 20000 in
theorem ggL_weeksByDays_X8_weeksByDays : GoodIn wsL_weeksByDays wsX8_weeksByDays := goodIn_ca (goodIn_r _ [6, 7, 8, 9, 10, 11, 12, 13, 14, 5, 15, 16, 17, 18, 19, 20, 21, 22, 23, 24, 25, 26, 27, 28, 29, 30, 31, 32, 33, 34, 35, 36, 37, 38, 39, 40, 41, 42, 43, 44, 45, 46, 47, 48, 49, 50, 51, 52, 53, 54, 55, 56, 57, 58, 59, 60, 61, 62, 63, 64, 65, 66, 67, 68, 69, 70, 71, 72, 73, 74, 75, 76, 77, 78, 79, 80, 81, 82, 83, 84, 85, 86, 87, 88, 89, 90, 91, 92, 93, 94, 95, 96, 97, 98, 99, 100, 101, 102, 103, 104, 105, 106, 107, 108, 109, 110, 111, 112, 113, 114, 115, 116, 117, 118, 119, 120] (by decide +kernel) (by decide +kernel)) (goodIn_sub (fun _ h => List.mem_cons_of_mem _ (List.mem_append_right _ h)) (by decide +kernel))
set_option maxRecDepth 20000 in
theorem gL_weeksByDays_X8_weeksByDays : GoodIn wsL_weeksByDays (wsV RL 68 RX8 yX8_weeksByDays wsX8_weeksByDays) := goodIn_app (goodIn_of _ (by decide +kernel)) ggL_weeksByDays_X8_weeksByDays
theorem dL_weeksByDays_0 : decode cL_weeksByDays 0 = .ok (.aload_n 2, 1) := by decide +kernel
theorem dL_weeksByDays_1 : decode cL_weeksByDays 1 = .ok (.iconst 0, 1) := by decide +kernel
theorem dL_weeksByDays_2 : decode cL_weeksByDays 2 = .ok (.aload_n 0, 1) := by decide +kernel
theorem dL_weeksByDays_3 : decode cL_weeksByDays 3 = .ok (.iload_n 1, 1) := by decide +kernel
theorem dL_weeksByDays_4 : decode cL_weeksByDays 4 = .ok (.invokevirtual 68, 3) := by decide +kernel
theorem dL_weeksByDays_7 : decode cL_weeksByDays 7 = .ok (.i2l, 1) := by decide +kernel
theorem dL_weeksByDays_8 : decode cL_weeksByDays 8 = .ok (.lastore, 1) := by decide +kernel
theorem dL_weeksByDays_9 : decode cL_weeksByDays 9 = .ok (.goto 6, 3) := by decide +kernel
theorem dL_weeksByDays_12 : decode cL_weeksByDays 12 = .ok (.astore_n 3, 1) := by decide +kernel
theorem dL_weeksByDays_13 : decode cL_weeksByDays 13 = .ok (.iconst 1, 1) := by decide +kernel
theorem dL_weeksByDays_14 : decode cL_weeksByDays 14 = .ok (.ireturn, 1) := by decide +kernel
theorem dL_weeksByDays_15 : decode cL_weeksByDays 15 = .ok (.iconst 0, 1) := by decide +kernel
theorem dL_weeksByDays_16 : decode cL_weeksByDays 16 = .ok (.ireturn, 1) := by decide +kernel
set_option maxRecDepth 20000 in
theorem ggL_couldTake_X8_couldTake : GoodIn wsL_couldTake wsX8_couldTake := goodIn_ca (goodIn_r _ [6, 7, 8, 9, 10, 11, 12, 5, 13, 14, 15, 16, 17, 18, 19, 20, 21, 22, 23, 24, 25, 26, 27, 28, 29, 30, 31, 32, 33, 34, 35, 36, 37, 38, 39, 40, 41, 42, 43, 44, 45, 46, 47, 48, 49, 50, 51, 52, 53, 54, 55, 56, 57, 58, 59, 60, 61, 62, 63, 64, 65, 66, 67, 68, 69, 70, 71, 72, 73, 74, 75, 76, 77, 78, 79, 80, 81, 82, 83] (by decide +kernel) (by decide +kernel)) (goodIn_sub (fun _ h => List.mem_cons_of_mem _ (List.mem_append_right _ h)) (by decide +kernel))
set_option maxRecDepth 20000 in
theorem gL_couldTake_X8_couldTake : GoodIn wsL_couldTake (wsV RL 71 RX8 yX8_couldTake wsX8_couldTake) := goodIn_app (goodIn_of _ (by decide +kernel)) ggL_couldTake_X8_couldTake
theorem dL_couldTake_0 : decode cL_couldTake 0 = .ok (.aload_n 3, 1) := by decide +kernel
theorem dL_couldTake_1 : decode cL_couldTake 1 = .ok (.iconst 0, 1) := by decide +kernel
theorem dL_couldTake_2 : decode cL_couldTake 2 = .ok (.aload_n 0, 1) := by decide +kernel
theorem dL_couldTake_3 : decode cL_couldTake 3 = .ok (.iload_n 1, 1) := by decide +kernel
theorem dL_couldTake_4 : decode cL_couldTake 4 = .ok (.iload_n 2, 1) := by decide +kernel
theorem dL_couldTake_5 : decode cL_couldTake 5 = .ok (.invokevirtual 71, 3) := by decide +kernel
theorem dL_couldTake_8 : decode cL_couldTake 8 = .ok (.i2l, 1) := by decide +kernel
theorem dL_couldTake_9 : decode cL_couldTake 9 = .ok (.lastore, 1) := by decide +kernel
theorem dL_couldTake_10 : decode cL_couldTake 10 = .ok (.goto 7, 3) := by decide +kernel
theorem dL_couldTake_13 : decode cL_couldTake 13 = .ok (.astore 4, 2) := by decide +kernel
theorem dL_couldTake_15 : decode cL_couldTake 15 = .ok (.iconst 1, 1) := by decide +kernel
theorem dL_couldTake_16 : decode cL_couldTake 16 = .ok (.ireturn, 1) := by decide +kernel
theorem dL_couldTake_17 : decode cL_couldTake 17 = .ok (.iconst 0, 1) := by decide +kernel
theorem dL_couldTake_18 : decode cL_couldTake 18 = .ok (.ireturn, 1) := by decide +kernel
set_option maxRecDepth 20000 in
theorem ggL_swapFor_X8_swapFor : GoodIn wsL_swapFor wsX8_swapFor := goodIn_ca (goodIn_r _ [6, 7, 8, 9, 10, 11, 12, 5, 13, 14, 15, 16, 17, 18, 19, 20, 21, 22, 23, 24, 25, 26, 27, 28, 29, 30, 31, 32, 33, 34, 35, 36, 37, 38, 39, 40, 41, 42, 43, 44, 45, 46, 47, 48, 49, 50, 51, 52, 53, 54, 55, 56, 57, 58, 59, 60, 61, 62, 63, 64, 65, 66, 67, 68, 69, 70, 71, 72, 73, 74, 75, 76, 77, 78, 79, 80, 81, 82, 83, 84, 85] (by decide +kernel) (by decide +kernel)) (goodIn_sub (fun _ h => List.mem_cons_of_mem _ (List.mem_append_right _ h)) (by decide +kernel))
set_option maxRecDepth 20000 in
theorem gL_swapFor_X8_swapFor : GoodIn wsL_swapFor (wsV RL 74 RX8 yX8_swapFor wsX8_swapFor) := goodIn_app (goodIn_of _ (by decide +kernel)) ggL_swapFor_X8_swapFor
theorem dL_swapFor_0 : decode cL_swapFor 0 = .ok (.aload_n 3, 1) := by decide +kernel
theorem dL_swapFor_1 : decode cL_swapFor 1 = .ok (.iconst 0, 1) := by decide +kernel
theorem dL_swapFor_2 : decode cL_swapFor 2 = .ok (.aload_n 0, 1) := by decide +kernel
theorem dL_swapFor_3 : decode cL_swapFor 3 = .ok (.iload_n 1, 1) := by decide +kernel
theorem dL_swapFor_4 : decode cL_swapFor 4 = .ok (.iload_n 2, 1) := by decide +kernel
theorem dL_swapFor_5 : decode cL_swapFor 5 = .ok (.invokevirtual 74, 3) := by decide +kernel
theorem dL_swapFor_8 : decode cL_swapFor 8 = .ok (.i2l, 1) := by decide +kernel
theorem dL_swapFor_9 : decode cL_swapFor 9 = .ok (.lastore, 1) := by decide +kernel
theorem dL_swapFor_10 : decode cL_swapFor 10 = .ok (.goto 7, 3) := by decide +kernel
theorem dL_swapFor_13 : decode cL_swapFor 13 = .ok (.astore 4, 2) := by decide +kernel
theorem dL_swapFor_15 : decode cL_swapFor 15 = .ok (.iconst 1, 1) := by decide +kernel
theorem dL_swapFor_16 : decode cL_swapFor 16 = .ok (.ireturn, 1) := by decide +kernel
theorem dL_swapFor_17 : decode cL_swapFor 17 = .ok (.iconst 0, 1) := by decide +kernel
theorem dL_swapFor_18 : decode cL_swapFor 18 = .ok (.ireturn, 1) := by decide +kernel
set_option maxRecDepth 20000 in
theorem ggL_law_X8_init : GoodIn wsL_law wsX8_init := goodIn_r _ [9, 10, 11, 12, 13, 14, 15, 16, 17, 18, 19, 20, 21, 22, 23, 24, 25, 26, 27, 28, 29, 30, 31, 32, 33, 34, 35, 36, 37, 38, 39, 40, 41, 42, 43, 44, 45, 46, 47, 48, 49, 50, 6, 51, 52, 53, 54, 55, 56, 57, 58, 59, 60, 61, 637, 638, 639, 640, 641, 642, 643, 644, 645, 661, 662, 663, 664, 665, 666] (by decide +kernel) (by decide +kernel)
set_option maxRecDepth 20000 in
theorem gL_law_X8_init : GoodIn wsL_law (wsX8_init) := ggL_law_X8_init
set_option maxRecDepth 20000 in
theorem ggL_law_X9_init : GoodIn wsL_law wsX9_init := goodIn_r _ [64, 65, 11, 12, 66, 38, 67, 68, 69, 70, 71, 72, 73, 74, 75, 76, 646, 647, 648, 649, 650, 651, 652, 653, 654, 655, 656, 657, 658, 659, 660] (by decide +kernel) (by decide +kernel)
set_option maxRecDepth 20000 in
theorem gL_law_X9_init : GoodIn wsL_law (wsX9_init) := ggL_law_X9_init
set_option maxRecDepth 20000 in
theorem ggL_law_L_addPerson : GoodIn wsL_law wsL_addPerson := goodIn_ca (goodIn_ca (goodIn_r _ [80, 81, 82, 83, 84, 85, 2, 86, 87, 88, 89, 90, 91, 14, 13, 92, 93, 94, 95, 96, 11, 12, 97, 98, 637, 638, 639, 640, 641, 642, 643, 644, 645, 667, 668, 669, 670, 671, 672, 673, 674] (by decide +kernel) (by decide +kernel)) (goodIn_sub (fun _ h => List.mem_append_left _ (List.mem_append_left _ (List.mem_append_right _ h))) (by decide +kernel))) (goodIn_sub (fun _ h => List.mem_append_left _ (List.mem_append_right _ h)) (by decide +kernel))
set_option maxRecDepth 20000 in
theorem gL_law_L_addPerson : GoodIn wsL_law (va_wsS RL 81 yL_addPerson wsL_addPerson) := goodIn_app (goodIn_of _ (by decide +kernel)) ggL_law_L_addPerson
set_option maxRecDepth 20000 in
theorem ggL_law_X9_addPerson : GoodIn wsL_law wsX9_addPerson := goodIn_r _ [102, 103, 104, 67, 68, 72, 105, 106, 5, 107, 108, 109, 110, 111, 646, 647, 648, 649, 650, 651, 652, 653, 654, 655, 656, 657, 658, 659, 660] (by decide +kernel) (by decide +kernel)
set_option maxRecDepth 20000 in
theorem gL_law_X9_addPerson : GoodIn wsL_law (wsV RL 86 RX9 yX9_addPerson wsX9_addPerson) := goodIn_app (goodIn_of _ (by decide +kernel)) ggL_law_X9_addPerson
set_option maxRecDepth 20000 in
theorem ggL_law_X9_thrown : GoodIn wsL_law wsX9_thrown := goodIn_r _ [115, 103, 646, 647, 648, 649, 650, 651, 652, 653, 654, 655, 656, 657, 658, 659, 660] (by decide +kernel) (by decide +kernel)
set_option maxRecDepth 20000 in
theorem gL_law_X9_thrown : GoodIn wsL_law (wsV RL 87 RX9 yX9_thrown wsX9_thrown) := goodIn_app (goodIn_of _ (by decide +kernel)) ggL_law_X9_thrown
set_option maxRecDepth 20000 in
theorem ggL_law_L_setNeed : GoodIn wsL_law wsL_setNeed := goodIn_ca (goodIn_ca (goodIn_r _ [118, 119, 81, 120, 121, 122, 2, 123, 124, 125, 87, 88, 18, 126, 127, 128, 129, 130, 131, 132, 133, 134, 17, 135, 39, 136, 137, 138, 139, 637, 638, 639, 640, 641, 642, 643, 644, 645, 661] (by decide +kernel) (by decide +kernel)) (goodIn_sub (fun _ h => List.mem_append_right _ h) (by decide +kernel))) (goodIn_sub (fun _ h => List.mem_append_left _ (List.mem_append_left _ (List.mem_append_right _ h))) (by decide +kernel))
set_option maxRecDepth 20000 in
theorem gL_law_L_setNeed : GoodIn wsL_law (va_wsS RL 91 yL_setNeed wsL_setNeed) := goodIn_app (goodIn_of _ (by decide +kernel)) ggL_law_L_setNeed
set_option maxRecDepth 20000 in
theorem ggL_law_X9_setNeed : GoodIn wsL_law wsX9_setNeed := goodIn_r _ [143, 103, 69, 144, 145, 5, 146, 105, 106, 107, 147, 148, 149, 108, 109, 110, 111, 646, 647, 648, 649, 650, 651, 652, 653, 654, 655, 656, 657, 658, 659, 660] (by decide +kernel) (by decide +kernel)
set_option maxRecDepth 20000 in
theorem gL_law_X9_setNeed : GoodIn wsL_law (wsV RL 94 RX9 yX9_setNeed wsX9_setNeed) := goodIn_app (goodIn_of _ (by decide +kernel)) ggL_law_X9_setNeed
set_option maxRecDepth 20000 in
theorem ggL_law_L_forbid : GoodIn wsL_law wsL_forbid := goodIn_ca (goodIn_r _ [152, 119, 153, 154, 155, 2, 156, 124, 125, 22, 129, 130, 131, 157, 158, 159, 21, 160, 43, 45, 46, 47, 637, 638, 639, 640, 641, 642, 643, 644, 645, 662, 663] (by decide +kernel) (by decide +kernel)) (goodIn_sub (fun _ h => List.mem_append_right _ h) (by decide +kernel))
set_option maxRecDepth 20000 in
theorem gL_law_L_forbid : GoodIn wsL_law (va_wsS RL 95 yL_forbid wsL_forbid) := goodIn_app (goodIn_of _ (by decide +kernel)) ggL_law_L_forbid
set_option maxRecDepth 20000 in
theorem ggL_law_X9_forbid : GoodIn wsL_law wsX9_forbid := goodIn_r _ [164, 103, 70, 147, 148, 5, 149, 105, 106, 107, 646, 647, 648, 649, 650, 651, 652, 653, 654, 655, 656, 657, 658, 659, 660] (by decide +kernel) (by decide +kernel)
set_option maxRecDepth 20000 in
theorem gL_law_X9_forbid : GoodIn wsL_law (wsV RL 98 RX9 yX9_forbid wsX9_forbid) := goodIn_app (goodIn_of _ (by decide +kernel)) ggL_law_X9_forbid
set_option maxRecDepth 20000 in
theorem ggL_law_L_setRun : GoodIn wsL_law wsL_setRun := goodIn_ca (goodIn_r _ [167, 81, 168, 169, 170, 2, 171, 87, 88, 22, 637, 638, 639, 640, 641, 642, 643, 644, 645, 662, 663] (by decide +kernel) (by decide +kernel)) (goodIn_sub (fun _ h => List.mem_append_left _ (List.mem_append_left _ (List.mem_append_right _ h))) (by decide +kernel))
set_option maxRecDepth 20000 in
theorem gL_law_L_setRun : GoodIn wsL_law (va_wsS RL 99 yL_setRun wsL_setRun) := goodIn_app (goodIn_of _ (by decide +kernel)) ggL_law_L_setRun
set_option maxRecDepth 20000 in
theorem ggL_law_X9_setRun : GoodIn wsL_law wsX9_setRun := goodIn_r _ [175, 103, 66, 105, 106, 5, 107, 108, 109, 110, 111, 646, 647, 648, 649, 650, 651, 652, 653, 654, 655, 656, 657, 658, 659, 660] (by decide +kernel) (by decide +kernel)
set_option maxRecDepth 20000 in
theorem gL_law_X9_setRun : GoodIn wsL_law (wsV RL 102 RX9 yX9_setRun wsX9_setRun) := goodIn_app (goodIn_of _ (by decide +kernel)) ggL_law_X9_setRun
set_option maxRecDepth 20000 in
theorem ggL_law_L_wish : GoodIn wsL_law wsL_wish := goodIn_ca (goodIn_r _ [178, 119, 179, 180, 181, 2, 182, 124, 125, 183, 184, 185, 186, 14, 126, 127, 128, 187, 188, 189, 93, 190, 191, 637, 638, 639, 640, 641, 642, 643, 644, 645, 667, 668, 669, 670, 671, 672, 673, 674] (by decide +kernel) (by decide +kernel)) (goodIn_sub (fun _ h => List.mem_append_right _ h) (by decide +kernel))
set_option maxRecDepth 20000 in
theorem gL_law_L_wish : GoodIn wsL_law (va_wsS RL 103 yL_wish wsL_wish) := goodIn_app (goodIn_of _ (by decide +kernel)) ggL_law_L_wish
set_option maxRecDepth 20000 in
theorem ggL_law_X9_wish : GoodIn wsL_law wsX9_wish := goodIn_r _ [195, 103, 73, 196, 197, 198, 5, 199, 104, 105, 106, 107, 144, 145, 146, 646, 647, 648, 649, 650, 651, 652, 653, 654, 655, 656, 657, 658, 659, 660] (by decide +kernel) (by decide +kernel)
set_option maxRecDepth 20000 in
theorem gL_law_X9_wish : GoodIn wsL_law (wsV RL 105 RX9 yX9_wish wsX9_wish) := goodIn_app (goodIn_of _ (by decide +kernel)) ggL_law_X9_wish
set_option maxRecDepth 20000 in
theorem ggL_law_L_fix : GoodIn wsL_law wsL_fix := goodIn_ca (goodIn_ca (goodIn_r _ [202, 119, 81, 203, 204, 205, 2, 206, 124, 125, 87, 88, 183, 184, 185, 186, 14, 126, 127, 128, 207, 208, 209, 210, 211, 212, 93, 213, 214, 215, 216, 217, 218, 637, 638, 639, 640, 641, 642, 643, 644, 645, 667, 668, 669, 670, 671, 672, 673, 674] (by decide +kernel) (by decide +kernel)) (goodIn_sub (fun _ h => List.mem_append_right _ h) (by decide +kernel))) (goodIn_sub (fun _ h => List.mem_append_left _ (List.mem_append_left _ (List.mem_append_right _ h))) (by decide +kernel))
set_option maxRecDepth 20000 in
theorem gL_law_L_fix : GoodIn wsL_law (va_wsS RL 106 yL_fix wsL_fix) := goodIn_app (goodIn_of _ (by decide +kernel)) ggL_law_L_fix
set_option maxRecDepth 20000 in
theorem ggL_law_X9_fix : GoodIn wsL_law wsX9_fix := goodIn_r _ [222, 103, 72, 196, 197, 198, 5, 199, 104, 105, 106, 107, 144, 145, 146, 108, 109, 110, 111, 646, 647, 648, 649, 650, 651, 652, 653, 654, 655, 656, 657, 658, 659, 660] (by decide +kernel) (by decide +kernel)
set_option maxRecDepth 20000 in
theorem gL_law_X9_fix : GoodIn wsL_law (wsV RL 108 RX9 yX9_fix wsX9_fix) := goodIn_app (goodIn_of _ (by decide +kernel)) ggL_law_X9_fix
set_option maxRecDepth 20000 in
theorem ggL_law_X8_plan : GoodIn wsL_law wsX8_plan := goodIn_r _ [226, 14, 227, 228, 229, 230, 2, 231, 232, 233, 234, 235, 34, 26, 22, 236, 237, 238, 239, 18, 240, 241, 242, 243, 132, 133, 134, 17, 135, 39, 244, 245, 246, 247, 248, 249, 250, 251, 252, 33, 253, 254, 255, 256, 257, 258, 259, 260, 261, 262, 263, 93, 264, 191, 265, 266, 267, 268, 61, 269, 270, 271, 25, 272, 51, 273, 274, 275, 276, 277, 278, 279, 29, 280, 281, 282, 283, 284, 285, 286, 287, 288, 289, 290, 291, 292, 293, 294, 295, 296, 297, 298, 299, 300, 301, 302, 303, 52, 304, 305, 306, 307, 97, 308, 211, 212, 213, 214, 309, 310, 311, 21, 312, 44, 43, 45, 46, 47, 313, 314, 315, 316, 317, 318, 319, 320, 321, 322, 323, 324, 325, 326, 327, 328, 329, 330, 331, 332, 333, 334, 335, 336, 337, 338, 339, 637, 638, 639, 640, 641, 642, 643, 644, 645, 667, 668, 669, 670, 671, 672, 673, 674, 661, 666, 664, 665, 662, 663] (by decide +kernel) (by decide +kernel)
set_option maxRecDepth 20000 in
theorem gL_law_X8_plan : GoodIn wsL_law (wsV RL 109 RX8 yX8_plan wsX8_plan) := goodIn_app (goodIn_of _ (by decide +kernel)) ggL_law_X8_plan
set_option maxRecDepth 20000 in
theorem ggL_law_X9_plan : GoodIn wsL_law wsX9_plan := goodIn_r _ [343, 103, 71, 344, 104, 345, 346, 347, 5, 348, 349, 350, 351, 352, 353, 354, 355, 356, 69, 357, 358, 359, 360, 361, 362, 363, 364, 68, 74, 75, 72, 67, 70, 66, 365, 366, 367, 368, 369, 370, 371, 372, 373, 374, 76, 375, 376, 377, 378, 379, 380, 381, 382, 73, 383, 384, 385, 386, 387, 388, 389, 390, 391, 392, 393, 394, 646, 647, 648, 649, 650, 651, 652, 653, 654, 655, 656, 657, 658, 659, 660] (by decide +kernel) (by decide +kernel)
set_option maxRecDepth 20000 in
theorem gL_law_X9_plan : GoodIn wsL_law (wsV RL 112 RX9 yX9_plan wsX9_plan) := goodIn_app (goodIn_of _ (by decide +kernel)) ggL_law_X9_plan
set_option maxRecDepth 20000 in
theorem ggL_law_X8_rounds : GoodIn wsL_law wsX8_rounds := goodIn_r _ [398, 227, 637, 638, 639, 640, 641, 642, 643, 644, 645] (by decide +kernel) (by decide +kernel)
set_option maxRecDepth 20000 in
theorem gL_law_X8_rounds : GoodIn wsL_law (wsV RL 113 RX8 yX8_rounds wsX8_rounds) := goodIn_app (goodIn_of _ (by decide +kernel)) ggL_law_X8_rounds
set_option maxRecDepth 20000 in
theorem ggL_law_X9_rounds : GoodIn wsL_law wsX9_rounds := goodIn_r _ [402, 103, 344, 646, 647, 648, 649, 650, 651, 652, 653, 654, 655, 656, 657, 658, 659, 660] (by decide +kernel) (by decide +kernel)
set_option maxRecDepth 20000 in
theorem gL_law_X9_rounds : GoodIn wsL_law (wsV RL 116 RX9 yX9_rounds wsX9_rounds) := goodIn_app (goodIn_of _ (by decide +kernel)) ggL_law_X9_rounds
set_option maxRecDepth 20000 in
theorem ggL_law_L_set : GoodIn wsL_law wsL_set := goodIn_ca (goodIn_ca (goodIn_ca (goodIn_r _ [405, 119, 81, 82, 406, 407, 408, 2, 409, 124, 125, 87, 88, 89, 90, 22, 183, 184, 185, 186, 14, 126, 127, 128, 207, 208, 209, 410, 259, 246, 260, 248, 249, 250, 411, 412, 413, 93, 414, 415, 416, 98, 417, 245, 247, 418, 305, 306, 307, 97, 308, 211, 212, 213, 214, 419, 310, 311, 21, 312, 44, 43, 45, 46, 47, 420, 421, 422, 423, 244, 667, 668, 669, 670, 671, 672, 673, 674, 637, 638, 639, 640, 641, 642, 643, 644, 645, 662, 663] (by decide +kernel) (by decide +kernel)) (goodIn_sub (fun _ h => List.mem_append_right _ h) (by decide +kernel))) (goodIn_sub (fun _ h => List.mem_append_left _ (List.mem_append_left _ (List.mem_append_right _ h))) (by decide +kernel))) (goodIn_sub (fun _ h => List.mem_append_left _ (List.mem_append_right _ h)) (by decide +kernel))
set_option maxRecDepth 20000 in
theorem gL_law_L_set : GoodIn wsL_law (va_wsS RL 117 yL_set wsL_set) := goodIn_app (goodIn_of _ (by decide +kernel)) ggL_law_L_set
set_option maxRecDepth 20000 in
theorem ggL_law_X9_set : GoodIn wsL_law wsX9_set := goodIn_r _ [427, 103, 71, 196, 197, 198, 5, 199, 104, 105, 106, 107, 144, 145, 146, 108, 109, 110, 111, 383, 384, 385, 386, 428, 429, 430, 368, 369, 370, 361, 362, 363, 364, 68, 74, 75, 72, 67, 70, 66, 365, 366, 367, 646, 647, 648, 649, 650, 651, 652, 653, 654, 655, 656, 657, 658, 659, 660] (by decide +kernel) (by decide +kernel)
set_option maxRecDepth 20000 in
theorem gL_law_X9_set : GoodIn wsL_law (wsV RL 119 RX9 yX9_set wsX9_set) := goodIn_app (goodIn_of _ (by decide +kernel)) ggL_law_X9_set
set_option maxRecDepth 20000 in
theorem ggL_law_L_swap : GoodIn wsL_law wsL_swap := goodIn_ca (goodIn_ca (goodIn_r _ [433, 119, 82, 434, 435, 436, 2, 437, 124, 125, 89, 90, 183, 184, 185, 186, 14, 126, 127, 128, 438, 439, 440, 441, 22, 244, 245, 246, 247, 248, 249, 250, 410, 259, 260, 411, 412, 413, 93, 414, 415, 416, 98, 417, 418, 305, 306, 307, 97, 308, 211, 212, 213, 214, 419, 310, 311, 21, 312, 44, 43, 45, 46, 47, 420, 421, 422, 423, 442, 443, 444, 445, 446, 447, 262, 263, 264, 191, 667, 668, 669, 670, 671, 672, 673, 674, 637, 638, 639, 640, 641, 642, 643, 644, 645, 662, 663] (by decide +kernel) (by decide +kernel)) (goodIn_sub (fun _ h => List.mem_append_right _ h) (by decide +kernel))) (goodIn_sub (fun _ h => List.mem_append_left _ (List.mem_append_right _ h)) (by decide +kernel))
set_option maxRecDepth 20000 in
theorem gL_law_L_swap : GoodIn wsL_law (va_wsS RL 120 yL_swap wsL_swap) := goodIn_app (goodIn_of _ (by decide +kernel)) ggL_law_L_swap
set_option maxRecDepth 20000 in
theorem ggL_law_X9_swap : GoodIn wsL_law wsX9_swap := goodIn_r _ [451, 103, 71, 196, 197, 198, 5, 199, 104, 105, 106, 107, 144, 145, 146, 108, 109, 110, 111, 452, 453, 454, 455, 383, 384, 385, 386, 428, 429, 430, 368, 369, 370, 361, 362, 363, 364, 68, 74, 75, 72, 67, 70, 66, 365, 366, 367, 379, 380, 381, 382, 73, 646, 647, 648, 649, 650, 651, 652, 653, 654, 655, 656, 657, 658, 659, 660] (by decide +kernel) (by decide +kernel)
set_option maxRecDepth 20000 in
theorem gL_law_X9_swap : GoodIn wsL_law (wsV RL 122 RX9 yX9_swap wsX9_swap) := goodIn_app (goodIn_of _ (by decide +kernel)) ggL_law_X9_swap
set_option maxRecDepth 20000 in
theorem ggL_law_X8_closeWeek : GoodIn wsL_law wsX8_closeWeek := goodIn_r _ [459, 14, 460, 461, 462, 463, 93, 464, 446, 416, 415, 465, 191, 214, 417, 245, 246, 247, 248, 249, 250, 420, 421, 422, 423, 637, 638, 639, 640, 641, 642, 643, 644, 645, 667, 668, 669, 670, 671, 672, 673, 674] (by decide +kernel) (by decide +kernel)
set_option maxRecDepth 20000 in
theorem gL_law_X8_closeWeek : GoodIn wsL_law (wsV RL 123 RX8 yX8_closeWeek wsX8_closeWeek) := goodIn_app (goodIn_of _ (by decide +kernel)) ggL_law_X8_closeWeek
set_option maxRecDepth 20000 in
theorem ggL_law_X9_closeWeek : GoodIn wsL_law wsX9_closeWeek := goodIn_r _ [469, 103, 104, 75, 72, 74, 76, 73, 470, 383, 384, 385, 5, 386, 71, 368, 369, 370, 376, 377, 378, 387, 388, 389, 390, 646, 647, 648, 649, 650, 651, 652, 653, 654, 655, 656, 657, 658, 659, 660] (by decide +kernel) (by decide +kernel)
set_option maxRecDepth 20000 in
theorem gL_law_X9_closeWeek : GoodIn wsL_law (wsV RL 126 RX9 yX9_closeWeek wsX9_closeWeek) := goodIn_app (goodIn_of _ (by decide +kernel)) ggL_law_X9_closeWeek
set_option maxRecDepth 20000 in
theorem ggL_law_X8_people : GoodIn wsL_law wsX8_people := goodIn_r _ [474, 91, 637, 638, 639, 640, 641, 642, 643, 644, 645] (by decide +kernel) (by decide +kernel)
set_option maxRecDepth 20000 in
theorem gL_law_X8_people : GoodIn wsL_law (wsV RL 127 RX8 yX8_people wsX8_people) := goodIn_app (goodIn_of _ (by decide +kernel)) ggL_law_X8_people
set_option maxRecDepth 20000 in
theorem ggL_law_X9_people : GoodIn wsL_law wsX9_people := goodIn_r _ [478, 103, 104, 646, 647, 648, 649, 650, 651, 652, 653, 654, 655, 656, 657, 658, 659, 660] (by decide +kernel) (by decide +kernel)
set_option maxRecDepth 20000 in
theorem gL_law_X9_people : GoodIn wsL_law (wsV RL 130 RX9 yX9_people wsX9_people) := goodIn_app (goodIn_of _ (by decide +kernel)) ggL_law_X9_people
set_option maxRecDepth 20000 in
theorem ggL_law_L_entry : GoodIn wsL_law wsL_entry := goodIn_ca (goodIn_r _ [481, 119, 482, 483, 484, 2, 485, 124, 125, 183, 184, 185, 186, 14, 126, 127, 128, 244, 245, 246, 247, 248, 249, 250, 667, 668, 669, 670, 671, 672, 673, 674, 637, 638, 639, 640, 641, 642, 643, 644, 645] (by decide +kernel) (by decide +kernel)) (goodIn_sub (fun _ h => List.mem_append_right _ h) (by decide +kernel))
set_option maxRecDepth 20000 in
theorem gL_law_L_entry : GoodIn wsL_law (va_wsS RL 131 yL_entry wsL_entry) := goodIn_app (goodIn_of _ (by decide +kernel)) ggL_law_L_entry
set_option maxRecDepth 20000 in
theorem ggL_law_X9_entry : GoodIn wsL_law wsX9_entry := goodIn_r _ [489, 103, 71, 196, 197, 198, 5, 199, 104, 105, 106, 107, 144, 145, 146, 108, 109, 110, 111, 646, 647, 648, 649, 650, 651, 652, 653, 654, 655, 656, 657, 658, 659, 660] (by decide +kernel) (by decide +kernel)
set_option maxRecDepth 20000 in
theorem gL_law_X9_entry : GoodIn wsL_law (wsV RL 133 RX9 yX9_entry wsX9_entry) := goodIn_app (goodIn_of _ (by decide +kernel)) ggL_law_X9_entry
set_option maxRecDepth 20000 in
theorem ggL_law_X8_gaps : GoodIn wsL_law wsX8_gaps := goodIn_r _ [493, 336, 337, 338, 2, 339, 236, 237, 238, 239, 18, 14, 240, 241, 242, 243, 132, 133, 134, 17, 135, 39, 244, 245, 246, 247, 248, 249, 250, 637, 638, 639, 640, 641, 642, 643, 644, 645, 667, 668, 669, 670, 671, 672, 673, 674, 661] (by decide +kernel) (by decide +kernel)
set_option maxRecDepth 20000 in
theorem gL_law_X8_gaps : GoodIn wsL_law (wsV RL 134 RX8 yX8_gaps wsX8_gaps) := goodIn_app (goodIn_of _ (by decide +kernel)) ggL_law_X8_gaps
set_option maxRecDepth 20000 in
theorem ggL_law_X9_gaps : GoodIn wsL_law wsX9_gaps := goodIn_r _ [497, 103, 391, 392, 393, 5, 394, 353, 354, 355, 356, 69, 357, 358, 359, 360, 104, 71, 646, 647, 648, 649, 650, 651, 652, 653, 654, 655, 656, 657, 658, 659, 660] (by decide +kernel) (by decide +kernel)
set_option maxRecDepth 20000 in
theorem gL_law_X9_gaps : GoodIn wsL_law (wsV RL 137 RX9 yX9_gaps wsX9_gaps) := goodIn_app (goodIn_of _ (by decide +kernel)) ggL_law_X9_gaps
set_option maxRecDepth 20000 in
theorem ggL_law_L_gap : GoodIn wsL_law wsL_gap := goodIn_ca (goodIn_r _ [500, 119, 501, 502, 503, 2, 504, 124, 125, 126, 127, 128, 129, 130, 131, 236, 237, 238, 239, 18, 14, 240, 241, 242, 243, 132, 133, 134, 17, 135, 39, 244, 245, 246, 247, 248, 249, 250, 637, 638, 639, 640, 641, 642, 643, 644, 645, 667, 668, 669, 670, 671, 672, 673, 674, 661] (by decide +kernel) (by decide +kernel)) (goodIn_sub (fun _ h => List.mem_append_right _ h) (by decide +kernel))
set_option maxRecDepth 20000 in
theorem gL_law_L_gap : GoodIn wsL_law (va_wsS RL 138 yL_gap wsL_gap) := goodIn_app (goodIn_of _ (by decide +kernel)) ggL_law_L_gap
set_option maxRecDepth 20000 in
theorem ggL_law_X9_gap : GoodIn wsL_law wsX9_gap := goodIn_r _ [508, 103, 144, 145, 5, 146, 105, 106, 107, 147, 148, 149, 353, 354, 355, 356, 69, 357, 358, 359, 360, 104, 71, 108, 109, 110, 111, 646, 647, 648, 649, 650, 651, 652, 653, 654, 655, 656, 657, 658, 659, 660] (by decide +kernel) (by decide +kernel)
set_option maxRecDepth 20000 in
theorem gL_law_X9_gap : GoodIn wsL_law (wsV RL 140 RX9 yX9_gap wsX9_gap) := goodIn_app (goodIn_of _ (by decide +kernel)) ggL_law_X9_gap
set_option maxRecDepth 20000 in
theorem ggL_law_L_shifts : GoodIn wsL_law wsL_shifts := goodIn_ca (goodIn_r _ [511, 119, 512, 513, 514, 2, 515, 124, 125, 183, 184, 185, 186, 14, 516, 421, 246, 422, 423, 245, 247, 248, 249, 250, 667, 668, 669, 670, 671, 672, 673, 674, 637, 638, 639, 640, 641, 642, 643, 644, 645] (by decide +kernel) (by decide +kernel)) (goodIn_sub (fun _ h => List.mem_append_right _ h) (by decide +kernel))
set_option maxRecDepth 20000 in
theorem gL_law_L_shifts : GoodIn wsL_law (va_wsS RL 141 yL_shifts wsL_shifts) := goodIn_app (goodIn_of _ (by decide +kernel)) ggL_law_L_shifts
set_option maxRecDepth 20000 in
theorem ggL_law_X9_shifts : GoodIn wsL_law wsX9_shifts := goodIn_r _ [520, 521, 522, 523, 5, 524, 103, 196, 197, 198, 199, 104, 105, 106, 107, 383, 384, 385, 386, 71, 365, 366, 367, 368, 369, 370, 646, 647, 648, 649, 650, 651, 652, 653, 654, 655, 656, 657, 658, 659, 660] (by decide +kernel) (by decide +kernel)
set_option maxRecDepth 20000 in
theorem gL_law_X9_shifts : GoodIn wsL_law (wsV RL 143 RX9 yX9_shifts wsX9_shifts) := goodIn_app (goodIn_of _ (by decide +kernel)) ggL_law_X9_shifts
set_option maxRecDepth 20000 in
theorem ggL_law_L_weekends : GoodIn wsL_law wsL_weekends := goodIn_ca (goodIn_r _ [527, 119, 528, 529, 530, 2, 531, 124, 125, 183, 184, 185, 186, 14, 667, 668, 669, 670, 671, 672, 673, 674, 637, 638, 639, 640, 641, 642, 643, 644, 645] (by decide +kernel) (by decide +kernel)) (goodIn_sub (fun _ h => List.mem_append_right _ h) (by decide +kernel))
set_option maxRecDepth 20000 in
theorem gL_law_L_weekends : GoodIn wsL_law (va_wsS RL 144 yL_weekends wsL_weekends) := goodIn_app (goodIn_of _ (by decide +kernel)) ggL_law_L_weekends
set_option maxRecDepth 20000 in
theorem ggL_law_X9_weekends : GoodIn wsL_law wsX9_weekends := goodIn_r _ [535, 76, 521, 522, 523, 5, 524, 103, 196, 197, 198, 199, 104, 105, 106, 107, 646, 647, 648, 649, 650, 651, 652, 653, 654, 655, 656, 657, 658, 659, 660] (by decide +kernel) (by decide +kernel)
set_option maxRecDepth 20000 in
theorem gL_law_X9_weekends : GoodIn wsL_law (wsV RL 146 RX9 yX9_weekends wsX9_weekends) := goodIn_app (goodIn_of _ (by decide +kernel)) ggL_law_X9_weekends
set_option maxRecDepth 20000 in
theorem ggL_law_L_broken : GoodIn wsL_law wsL_broken := goodIn_ca (goodIn_r _ [538, 119, 539, 540, 541, 2, 542, 124, 125, 183, 184, 185, 186, 14, 442, 443, 444, 93, 445, 446, 417, 245, 246, 247, 248, 249, 250, 447, 262, 263, 264, 191, 637, 638, 639, 640, 641, 642, 643, 644, 645, 667, 668, 669, 670, 671, 672, 673, 674] (by decide +kernel) (by decide +kernel)) (goodIn_sub (fun _ h => List.mem_append_right _ h) (by decide +kernel))
set_option maxRecDepth 20000 in
theorem gL_law_L_broken : GoodIn wsL_law (va_wsS RL 147 yL_broken wsL_broken) := goodIn_app (goodIn_of _ (by decide +kernel)) ggL_law_L_broken
set_option maxRecDepth 20000 in
theorem ggL_law_X9_broken : GoodIn wsL_law wsX9_broken := goodIn_r _ [546, 521, 522, 523, 5, 524, 103, 196, 197, 198, 199, 104, 105, 106, 107, 383, 384, 385, 386, 71, 379, 380, 381, 382, 73, 368, 369, 370, 646, 647, 648, 649, 650, 651, 652, 653, 654, 655, 656, 657, 658, 659, 660] (by decide +kernel) (by decide +kernel)
set_option maxRecDepth 20000 in
theorem gL_law_X9_broken : GoodIn wsL_law (wsV RL 149 RX9 yX9_broken wsX9_broken) := goodIn_app (goodIn_of _ (by decide +kernel)) ggL_law_X9_broken
set_option maxRecDepth 20000 in
theorem ggL_law_L_runBefore : GoodIn wsL_law wsL_runBefore := goodIn_ca (goodIn_r _ [549, 119, 550, 551, 552, 2, 553, 124, 125, 183, 184, 185, 186, 14, 667, 668, 669, 670, 671, 672, 673, 674, 637, 638, 639, 640, 641, 642, 643, 644, 645] (by decide +kernel) (by decide +kernel)) (goodIn_sub (fun _ h => List.mem_append_right _ h) (by decide +kernel))
set_option maxRecDepth 20000 in
theorem gL_law_L_runBefore : GoodIn wsL_law (va_wsS RL 150 yL_runBefore wsL_runBefore) := goodIn_app (goodIn_of _ (by decide +kernel)) ggL_law_L_runBefore
set_option maxRecDepth 20000 in
theorem ggL_law_X9_runBefore : GoodIn wsL_law wsX9_runBefore := goodIn_r _ [557, 75, 521, 522, 523, 5, 524, 103, 196, 197, 198, 199, 104, 105, 106, 107, 646, 647, 648, 649, 650, 651, 652, 653, 654, 655, 656, 657, 658, 659, 660] (by decide +kernel) (by decide +kernel)
set_option maxRecDepth 20000 in
theorem gL_law_X9_runBefore : GoodIn wsL_law (wsV RL 152 RX9 yX9_runBefore wsX9_runBefore) := goodIn_app (goodIn_of _ (by decide +kernel)) ggL_law_X9_runBefore
set_option maxRecDepth 20000 in
theorem ggL_law_L_isFeasible : GoodIn wsL_law wsL_isFeasible := goodIn_ca (goodIn_r _ [560, 119, 561, 562, 563, 2, 564, 124, 125, 22, 183, 184, 185, 186, 14, 411, 412, 413, 93, 414, 415, 416, 98, 417, 245, 246, 247, 248, 249, 250, 418, 305, 306, 307, 97, 308, 211, 212, 213, 214, 419, 310, 311, 21, 312, 44, 43, 45, 46, 47, 420, 421, 422, 423, 667, 668, 669, 670, 671, 672, 673, 674, 637, 638, 639, 640, 641, 642, 643, 644, 645, 662, 663] (by decide +kernel) (by decide +kernel)) (goodIn_sub (fun _ h => List.mem_append_right _ h) (by decide +kernel))
set_option maxRecDepth 20000 in
theorem gL_law_L_isFeasible : GoodIn wsL_law (va_wsS RL 153 yL_isFeasible wsL_isFeasible) := goodIn_app (goodIn_of _ (by decide +kernel)) ggL_law_L_isFeasible
set_option maxRecDepth 20000 in
theorem ggL_law_X9_isFeasible : GoodIn wsL_law wsX9_isFeasible := goodIn_r _ [568, 521, 522, 523, 5, 524, 103, 196, 197, 198, 199, 104, 105, 106, 107, 383, 384, 385, 386, 71, 361, 362, 363, 364, 68, 74, 75, 72, 67, 70, 66, 365, 366, 367, 368, 369, 370, 646, 647, 648, 649, 650, 651, 652, 653, 654, 655, 656, 657, 658, 659, 660] (by decide +kernel) (by decide +kernel)
set_option maxRecDepth 20000 in
theorem gL_law_X9_isFeasible : GoodIn wsL_law (wsV RL 155 RX9 yX9_isFeasible wsX9_isFeasible) := goodIn_app (goodIn_of _ (by decide +kernel)) ggL_law_X9_isFeasible
set_option maxRecDepth 20000 in
theorem ggL_law_L_weeks : GoodIn wsL_law wsL_weeks := goodIn_ca (goodIn_r _ [571, 119, 572, 573, 574, 2, 575, 124, 125, 22, 183, 184, 185, 186, 14, 411, 412, 413, 93, 414, 415, 416, 98, 417, 245, 246, 247, 248, 249, 250, 418, 305, 306, 307, 97, 308, 211, 212, 213, 214, 419, 310, 311, 21, 312, 44, 43, 45, 46, 47, 420, 421, 422, 423, 637, 638, 639, 640, 641, 642, 643, 644, 645, 667, 668, 669, 670, 671, 672, 673, 674, 662, 663] (by decide +kernel) (by decide +kernel)) (goodIn_sub (fun _ h => List.mem_append_right _ h) (by decide +kernel))
set_option maxRecDepth 20000 in
theorem gL_law_L_weeks : GoodIn wsL_law (va_wsS RL 156 yL_weeks wsL_weeks) := goodIn_app (goodIn_of _ (by decide +kernel)) ggL_law_L_weeks
set_option maxRecDepth 20000 in
theorem ggL_law_X9_weeks : GoodIn wsL_law wsX9_weeks := goodIn_r _ [579, 521, 522, 523, 5, 524, 103, 196, 197, 198, 199, 104, 105, 106, 107, 580, 581, 582, 583, 361, 362, 363, 364, 68, 74, 75, 72, 67, 70, 66, 365, 366, 367, 368, 369, 370, 646, 647, 648, 649, 650, 651, 652, 653, 654, 655, 656, 657, 658, 659, 660] (by decide +kernel) (by decide +kernel)
set_option maxRecDepth 20000 in
theorem gL_law_X9_weeks : GoodIn wsL_law (wsV RL 158 RX9 yX9_weeks wsX9_weeks) := goodIn_app (goodIn_of _ (by decide +kernel)) ggL_law_X9_weeks
set_option maxRecDepth 20000 in
theorem ggL_law_L_weeksByDays : GoodIn wsL_law wsL_weeksByDays := goodIn_ca (goodIn_r _ [586, 119, 587, 588, 589, 2, 590, 124, 125, 26, 22, 30, 183, 184, 185, 186, 14, 269, 270, 271, 25, 272, 51, 273, 274, 242, 275, 276, 277, 278, 279, 29, 280, 281, 282, 33, 283, 284, 285, 286, 287, 288, 289, 290, 291, 292, 293, 294, 295, 296, 297, 298, 299, 300, 301, 302, 303, 52, 304, 305, 306, 93, 307, 97, 308, 211, 212, 213, 214, 309, 310, 311, 21, 312, 44, 43, 45, 46, 47, 313, 314, 315, 316, 317, 318, 319, 320, 61, 321, 322, 323, 324, 325, 326, 327, 328, 329, 330, 331, 637, 638, 639, 640, 641, 642, 643, 644, 645, 664, 665, 667, 668, 669, 670, 671, 672, 673, 674, 662, 663, 666] (by decide +kernel) (by decide +kernel)) (goodIn_sub (fun _ h => List.mem_append_right _ h) (by decide +kernel))
set_option maxRecDepth 20000 in
theorem gL_law_L_weeksByDays : GoodIn wsL_law (va_wsS RL 159 yL_weeksByDays wsL_weeksByDays) := goodIn_app (goodIn_of _ (by decide +kernel)) ggL_law_L_weeksByDays
set_option maxRecDepth 20000 in
theorem ggL_law_X9_weeksByDays : GoodIn wsL_law wsX9_weeksByDays := goodIn_r _ [594, 521, 522, 523, 5, 524, 103, 196, 197, 198, 199, 104, 105, 106, 107, 580, 581, 582, 583, 361, 362, 363, 364, 68, 74, 75, 72, 67, 70, 66, 365, 366, 367, 368, 369, 370, 646, 647, 648, 649, 650, 651, 652, 653, 654, 655, 656, 657, 658, 659, 660] (by decide +kernel) (by decide +kernel)
set_option maxRecDepth 20000 in
theorem gL_law_X9_weeksByDays : GoodIn wsL_law (wsV RL 161 RX9 yX9_weeksByDays wsX9_weeksByDays) := goodIn_app (goodIn_of _ (by decide +kernel)) ggL_law_X9_weeksByDays
set_option maxRecDepth 20000 in
theorem ggL_law_L_couldTake : GoodIn wsL_law wsL_couldTake := goodIn_ca (goodIn_r _ [597, 119, 598, 599, 600, 2, 601, 124, 125, 91, 22, 126, 127, 128, 129, 130, 131, 183, 184, 185, 186, 14, 244, 245, 246, 247, 248, 249, 250, 410, 259, 260, 411, 412, 413, 93, 414, 415, 416, 98, 417, 418, 305, 306, 307, 97, 308, 211, 212, 213, 214, 419, 310, 311, 21, 312, 44, 43, 45, 46, 47, 420, 421, 422, 423, 637, 638, 639, 640, 641, 642, 643, 644, 645, 667, 668, 669, 670, 671, 672, 673, 674, 662, 663] (by decide +kernel) (by decide +kernel)) (goodIn_sub (fun _ h => List.mem_append_right _ h) (by decide +kernel))
set_option maxRecDepth 20000 in
theorem gL_law_L_couldTake : GoodIn wsL_law (va_wsS RL 162 yL_couldTake wsL_couldTake) := goodIn_app (goodIn_of _ (by decide +kernel)) ggL_law_L_couldTake
set_option maxRecDepth 20000 in
theorem ggL_law_X9_couldTake : GoodIn wsL_law wsX9_couldTake := goodIn_r _ [605, 103, 104, 71, 144, 145, 5, 146, 105, 106, 107, 147, 148, 149, 108, 109, 110, 111, 383, 384, 385, 386, 428, 429, 430, 368, 369, 370, 361, 362, 363, 364, 68, 74, 75, 72, 67, 70, 66, 365, 366, 367, 646, 647, 648, 649, 650, 651, 652, 653, 654, 655, 656, 657, 658, 659, 660] (by decide +kernel) (by decide +kernel)
set_option maxRecDepth 20000 in
theorem gL_law_X9_couldTake : GoodIn wsL_law (wsV RL 164 RX9 yX9_couldTake wsX9_couldTake) := goodIn_app (goodIn_of _ (by decide +kernel)) ggL_law_X9_couldTake
set_option maxRecDepth 20000 in
theorem ggL_law_L_swapFor : GoodIn wsL_law wsL_swapFor := goodIn_ca (goodIn_r _ [608, 119, 609, 610, 611, 2, 612, 124, 125, 91, 183, 184, 185, 186, 14, 126, 127, 128, 244, 245, 246, 247, 248, 249, 250, 516, 421, 422, 423, 438, 439, 440, 441, 22, 410, 259, 260, 411, 412, 413, 93, 414, 415, 416, 98, 417, 418, 305, 306, 307, 97, 308, 211, 212, 213, 214, 419, 310, 311, 21, 312, 44, 43, 45, 46, 47, 420, 637, 638, 639, 640, 641, 642, 643, 644, 645, 667, 668, 669, 670, 671, 672, 673, 674, 662, 663] (by decide +kernel) (by decide +kernel)) (goodIn_sub (fun _ h => List.mem_append_right _ h) (by decide +kernel))
set_option maxRecDepth 20000 in
theorem gL_law_L_swapFor : GoodIn wsL_law (va_wsS RL 165 yL_swapFor wsL_swapFor) := goodIn_app (goodIn_of _ (by decide +kernel)) ggL_law_L_swapFor
set_option maxRecDepth 20000 in
theorem ggL_law_X9_swapFor : GoodIn wsL_law wsX9_swapFor := goodIn_r _ [616, 103, 104, 71, 196, 197, 198, 5, 199, 105, 106, 107, 144, 145, 146, 108, 109, 110, 111, 452, 453, 454, 455, 383, 384, 385, 386, 428, 429, 430, 368, 369, 370, 361, 362, 363, 364, 68, 74, 75, 72, 67, 70, 66, 365, 366, 367, 646, 647, 648, 649, 650, 651, 652, 653, 654, 655, 656, 657, 658, 659, 660] (by decide +kernel) (by decide +kernel)
set_option maxRecDepth 20000 in
theorem gL_law_X9_swapFor : GoodIn wsL_law (wsV RL 167 RX9 yX9_swapFor wsX9_swapFor) := goodIn_app (goodIn_of _ (by decide +kernel)) ggL_law_X9_swapFor
set_option maxRecDepth 20000 in
theorem ggL_law_X8_bound : GoodIn wsL_law wsX8_bound := goodIn_r _ [620, 621, 622, 623, 2, 624, 18, 240, 241, 242, 243, 625, 626, 627, 628, 14, 132, 133, 134, 17, 135, 39, 637, 638, 639, 640, 641, 642, 643, 644, 645, 667, 668, 669, 670, 671, 672, 673, 674, 661] (by decide +kernel) (by decide +kernel)
set_option maxRecDepth 20000 in
theorem gL_law_X8_bound : GoodIn wsL_law (wsV RL 168 RX8 yX8_bound wsX8_bound) := goodIn_app (goodIn_of _ (by decide +kernel)) ggL_law_X8_bound
set_option maxRecDepth 20000 in
theorem ggL_law_X9_bound : GoodIn wsL_law wsX9_bound := goodIn_r _ [632, 103, 633, 634, 635, 5, 636, 69, 104, 67, 646, 647, 648, 649, 650, 651, 652, 653, 654, 655, 656, 657, 658, 659, 660] (by decide +kernel) (by decide +kernel)
set_option maxRecDepth 20000 in
theorem gL_law_X9_bound : GoodIn wsL_law (wsV RL 171 RX9 yX9_bound wsX9_bound) := goodIn_app (goodIn_of _ (by decide +kernel)) ggL_law_X9_bound
theorem dL_law_0 : decode cL_law 0 = .ok (.new 8, 3) := by decide +kernel
theorem dL_law_3 : decode cL_law 3 = .ok (.dup, 1) := by decide +kernel
theorem dL_law_4 : decode cL_law 4 = .ok (.invokespecial 77, 3) := by decide +kernel
theorem dL_law_7 : decode cL_law 7 = .ok (.astore_n 1, 1) := by decide +kernel
theorem dL_law_8 : decode cL_law 8 = .ok (.new 78, 3) := by decide +kernel
theorem dL_law_11 : decode cL_law 11 = .ok (.dup, 1) := by decide +kernel
theorem dL_law_12 : decode cL_law 12 = .ok (.invokespecial 80, 3) := by decide +kernel
theorem dL_law_15 : decode cL_law 15 = .ok (.astore_n 2, 1) := by decide +kernel
theorem dL_law_16 : decode cL_law 16 = .ok (.iconst 1, 1) := by decide +kernel
theorem dL_law_17 : decode cL_law 17 = .ok (.newarray .long, 2) := by decide +kernel
theorem dL_law_19 : decode cL_law 19 = .ok (.astore_n 3, 1) := by decide +kernel
theorem dL_law_20 : decode cL_law 20 = .ok (.iconst 0, 1) := by decide +kernel
theorem dL_law_21 : decode cL_law 21 = .ok (.istore 4, 2) := by decide +kernel
theorem dL_law_23 : decode cL_law 23 = .ok (.iload 4, 2) := by decide +kernel
theorem dL_law_25 : decode cL_law 25 = .ok (.aload_n 0, 1) := by decide +kernel
theorem dL_law_26 : decode cL_law 26 = .ok (.arraylength, 1) := by decide +kernel
theorem dL_law_27 : decode cL_law 27 = .ok (.iconst 4, 1) := by decide +kernel
theorem dL_law_28 : decode cL_law 28 = .ok (.isub, 1) := by decide +kernel
theorem dL_law_29 : decode cL_law 29 = .ok (.if_icmp .gt 1528, 3) := by decide +kernel
theorem dL_law_32 : decode cL_law 32 = .ok (.aload_n 0, 1) := by decide +kernel
theorem dL_law_33 : decode cL_law 33 = .ok (.iload 4, 2) := by decide +kernel
theorem dL_law_35 : decode cL_law 35 = .ok (.iaload, 1) := by decide +kernel
theorem dL_law_36 : decode cL_law 36 = .ok (.bipush 31, 2) := by decide +kernel
theorem dL_law_38 : decode cL_law 38 = .ok (.iand, 1) := by decide +kernel
theorem dL_law_39 : decode cL_law 39 = .ok (.tableswitch 1512 0 24 #[113, 181, 261, 364, 420, 523, 603, 616, 629, 709, 789, 802, 815, 883, 896, 964, 1020, 1076, 1132, 1188, 1251, 1307, 1363, 1431, 1499], 113) := by decide +kernel
theorem dL_law_152 : decode cL_law 152 = .ok (.aload_n 1, 1) := by decide +kernel
theorem dL_law_153 : decode cL_law 153 = .ok (.aload_n 0, 1) := by decide +kernel
theorem dL_law_154 : decode cL_law 154 = .ok (.iload 4, 2) := by decide +kernel
theorem dL_law_156 : decode cL_law 156 = .ok (.iconst 1, 1) := by decide +kernel
theorem dL_law_157 : decode cL_law 157 = .ok (.iadd, 1) := by decide +kernel
theorem dL_law_158 : decode cL_law 158 = .ok (.iaload, 1) := by decide +kernel
theorem dL_law_159 : decode cL_law 159 = .ok (.aload_n 0, 1) := by decide +kernel
theorem dL_law_160 : decode cL_law 160 = .ok (.iload 4, 2) := by decide +kernel
theorem dL_law_162 : decode cL_law 162 = .ok (.iconst 2, 1) := by decide +kernel
theorem dL_law_163 : decode cL_law 163 = .ok (.iadd, 1) := by decide +kernel
theorem dL_law_164 : decode cL_law 164 = .ok (.iaload, 1) := by decide +kernel
theorem dL_law_165 : decode cL_law 165 = .ok (.aload_n 3, 1) := by decide +kernel
theorem dL_law_166 : decode cL_law 166 = .ok (.invokestatic 81, 3) := by decide +kernel
theorem dL_law_169 : decode cL_law 169 = .ok (.istore 5, 2) := by decide +kernel
theorem dL_law_171 : decode cL_law 171 = .ok (.aload_n 2, 1) := by decide +kernel
theorem dL_law_172 : decode cL_law 172 = .ok (.aload_n 0, 1) := by decide +kernel
theorem dL_law_173 : decode cL_law 173 = .ok (.iload 4, 2) := by decide +kernel
theorem dL_law_175 : decode cL_law 175 = .ok (.iconst 1, 1) := by decide +kernel
theorem dL_law_176 : decode cL_law 176 = .ok (.iadd, 1) := by decide +kernel
theorem dL_law_177 : decode cL_law 177 = .ok (.iaload, 1) := by decide +kernel
theorem dL_law_178 : decode cL_law 178 = .ok (.aload_n 0, 1) := by decide +kernel
theorem dL_law_179 : decode cL_law 179 = .ok (.iload 4, 2) := by decide +kernel
theorem dL_law_181 : decode cL_law 181 = .ok (.iconst 2, 1) := by decide +kernel
theorem dL_law_182 : decode cL_law 182 = .ok (.iadd, 1) := by decide +kernel
theorem dL_law_183 : decode cL_law 183 = .ok (.iaload, 1) := by decide +kernel
theorem dL_law_184 : decode cL_law 184 = .ok (.invokevirtual 86, 3) := by decide +kernel
theorem dL_law_187 : decode cL_law 187 = .ok (.istore 6, 2) := by decide +kernel
theorem dL_law_189 : decode cL_law 189 = .ok (.aload_n 2, 1) := by decide +kernel
theorem dL_law_190 : decode cL_law 190 = .ok (.invokevirtual 87, 3) := by decide +kernel
theorem dL_law_193 : decode cL_law 193 = .ok (.iload 5, 2) := by decide +kernel
theorem dL_law_195 : decode cL_law 195 = .ok (.if_icmp .eq 5, 3) := by decide +kernel
theorem dL_law_198 : decode cL_law 198 = .ok (.iconst 0, 1) := by decide +kernel
theorem dL_law_199 : decode cL_law 199 = .ok (.ireturn, 1) := by decide +kernel
theorem dL_law_200 : decode cL_law 200 = .ok (.iload 5, 2) := by decide +kernel
theorem dL_law_202 : decode cL_law 202 = .ok (.ifCond .ne 15, 3) := by decide +kernel
theorem dL_law_205 : decode cL_law 205 = .ok (.aload_n 3, 1) := by decide +kernel
theorem dL_law_206 : decode cL_law 206 = .ok (.iconst 0, 1) := by decide +kernel
theorem dL_law_207 : decode cL_law 207 = .ok (.laload, 1) := by decide +kernel
theorem dL_law_208 : decode cL_law 208 = .ok (.iload 6, 2) := by decide +kernel
theorem dL_law_210 : decode cL_law 210 = .ok (.i2l, 1) := by decide +kernel
theorem dL_law_211 : decode cL_law 211 = .ok (.lcmp, 1) := by decide +kernel
theorem dL_law_212 : decode cL_law 212 = .ok (.ifCond .eq 5, 3) := by decide +kernel
theorem dL_law_215 : decode cL_law 215 = .ok (.iconst 0, 1) := by decide +kernel
theorem dL_law_216 : decode cL_law 216 = .ok (.ireturn, 1) := by decide +kernel
theorem dL_law_217 : decode cL_law 217 = .ok (.goto 1334, 3) := by decide +kernel
theorem dL_law_220 : decode cL_law 220 = .ok (.aload_n 1, 1) := by decide +kernel
theorem dL_law_221 : decode cL_law 221 = .ok (.aload_n 0, 1) := by decide +kernel
theorem dL_law_222 : decode cL_law 222 = .ok (.iload 4, 2) := by decide +kernel
theorem dL_law_224 : decode cL_law 224 = .ok (.iconst 1, 1) := by decide +kernel
theorem dL_law_225 : decode cL_law 225 = .ok (.iadd, 1) := by decide +kernel
theorem dL_law_226 : decode cL_law 226 = .ok (.iaload, 1) := by decide +kernel
theorem dL_law_227 : decode cL_law 227 = .ok (.aload_n 0, 1) := by decide +kernel
theorem dL_law_228 : decode cL_law 228 = .ok (.iload 4, 2) := by decide +kernel
theorem dL_law_230 : decode cL_law 230 = .ok (.iconst 2, 1) := by decide +kernel
theorem dL_law_231 : decode cL_law 231 = .ok (.iadd, 1) := by decide +kernel
theorem dL_law_232 : decode cL_law 232 = .ok (.iaload, 1) := by decide +kernel
theorem dL_law_233 : decode cL_law 233 = .ok (.aload_n 0, 1) := by decide +kernel
theorem dL_law_234 : decode cL_law 234 = .ok (.iload 4, 2) := by decide +kernel
theorem dL_law_236 : decode cL_law 236 = .ok (.iconst 3, 1) := by decide +kernel
theorem dL_law_237 : decode cL_law 237 = .ok (.iadd, 1) := by decide +kernel
theorem dL_law_238 : decode cL_law 238 = .ok (.iaload, 1) := by decide +kernel
theorem dL_law_239 : decode cL_law 239 = .ok (.aload_n 3, 1) := by decide +kernel
theorem dL_law_240 : decode cL_law 240 = .ok (.invokestatic 91, 3) := by decide +kernel
theorem dL_law_243 : decode cL_law 243 = .ok (.istore 5, 2) := by decide +kernel
theorem dL_law_245 : decode cL_law 245 = .ok (.aload_n 2, 1) := by decide +kernel
theorem dL_law_246 : decode cL_law 246 = .ok (.aload_n 0, 1) := by decide +kernel
theorem dL_law_247 : decode cL_law 247 = .ok (.iload 4, 2) := by decide +kernel
theorem dL_law_249 : decode cL_law 249 = .ok (.iconst 1, 1) := by decide +kernel
theorem dL_law_250 : decode cL_law 250 = .ok (.iadd, 1) := by decide +kernel
theorem dL_law_251 : decode cL_law 251 = .ok (.iaload, 1) := by decide +kernel
theorem dL_law_252 : decode cL_law 252 = .ok (.aload_n 0, 1) := by decide +kernel
theorem dL_law_253 : decode cL_law 253 = .ok (.iload 4, 2) := by decide +kernel
theorem dL_law_255 : decode cL_law 255 = .ok (.iconst 2, 1) := by decide +kernel
theorem dL_law_256 : decode cL_law 256 = .ok (.iadd, 1) := by decide +kernel
theorem dL_law_257 : decode cL_law 257 = .ok (.iaload, 1) := by decide +kernel
theorem dL_law_258 : decode cL_law 258 = .ok (.aload_n 0, 1) := by decide +kernel
theorem dL_law_259 : decode cL_law 259 = .ok (.iload 4, 2) := by decide +kernel
theorem dL_law_261 : decode cL_law 261 = .ok (.iconst 3, 1) := by decide +kernel
theorem dL_law_262 : decode cL_law 262 = .ok (.iadd, 1) := by decide +kernel
theorem dL_law_263 : decode cL_law 263 = .ok (.iaload, 1) := by decide +kernel
theorem dL_law_264 : decode cL_law 264 = .ok (.invokevirtual 94, 3) := by decide +kernel
theorem dL_law_267 : decode cL_law 267 = .ok (.istore 6, 2) := by decide +kernel
theorem dL_law_269 : decode cL_law 269 = .ok (.aload_n 2, 1) := by decide +kernel
theorem dL_law_270 : decode cL_law 270 = .ok (.invokevirtual 87, 3) := by decide +kernel
theorem dL_law_273 : decode cL_law 273 = .ok (.iload 5, 2) := by decide +kernel
theorem dL_law_275 : decode cL_law 275 = .ok (.if_icmp .eq 5, 3) := by decide +kernel
theorem dL_law_278 : decode cL_law 278 = .ok (.iconst 0, 1) := by decide +kernel
theorem dL_law_279 : decode cL_law 279 = .ok (.ireturn, 1) := by decide +kernel
theorem dL_law_280 : decode cL_law 280 = .ok (.iload 5, 2) := by decide +kernel
theorem dL_law_282 : decode cL_law 282 = .ok (.ifCond .ne 15, 3) := by decide +kernel
theorem dL_law_285 : decode cL_law 285 = .ok (.aload_n 3, 1) := by decide +kernel
theorem dL_law_286 : decode cL_law 286 = .ok (.iconst 0, 1) := by decide +kernel
theorem dL_law_287 : decode cL_law 287 = .ok (.laload, 1) := by decide +kernel
theorem dL_law_288 : decode cL_law 288 = .ok (.iload 6, 2) := by decide +kernel
theorem dL_law_290 : decode cL_law 290 = .ok (.i2l, 1) := by decide +kernel
theorem dL_law_291 : decode cL_law 291 = .ok (.lcmp, 1) := by decide +kernel
theorem dL_law_292 : decode cL_law 292 = .ok (.ifCond .eq 5, 3) := by decide +kernel
theorem dL_law_295 : decode cL_law 295 = .ok (.iconst 0, 1) := by decide +kernel
theorem dL_law_296 : decode cL_law 296 = .ok (.ireturn, 1) := by decide +kernel
theorem dL_law_297 : decode cL_law 297 = .ok (.goto 1254, 3) := by decide +kernel
theorem dL_law_300 : decode cL_law 300 = .ok (.aload_n 1, 1) := by decide +kernel
theorem dL_law_301 : decode cL_law 301 = .ok (.aload_n 0, 1) := by decide +kernel
theorem dL_law_302 : decode cL_law 302 = .ok (.iload 4, 2) := by decide +kernel
theorem dL_law_304 : decode cL_law 304 = .ok (.iconst 1, 1) := by decide +kernel
theorem dL_law_305 : decode cL_law 305 = .ok (.iadd, 1) := by decide +kernel
theorem dL_law_306 : decode cL_law 306 = .ok (.iaload, 1) := by decide +kernel
theorem dL_law_307 : decode cL_law 307 = .ok (.aload_n 0, 1) := by decide +kernel
theorem dL_law_308 : decode cL_law 308 = .ok (.iload 4, 2) := by decide +kernel
theorem dL_law_310 : decode cL_law 310 = .ok (.iconst 2, 1) := by decide +kernel
theorem dL_law_311 : decode cL_law 311 = .ok (.iadd, 1) := by decide +kernel
theorem dL_law_312 : decode cL_law 312 = .ok (.iaload, 1) := by decide +kernel
theorem dL_law_313 : decode cL_law 313 = .ok (.aload_n 0, 1) := by decide +kernel
theorem dL_law_314 : decode cL_law 314 = .ok (.iload 4, 2) := by decide +kernel
theorem dL_law_316 : decode cL_law 316 = .ok (.iconst 3, 1) := by decide +kernel
theorem dL_law_317 : decode cL_law 317 = .ok (.iadd, 1) := by decide +kernel
theorem dL_law_318 : decode cL_law 318 = .ok (.iaload, 1) := by decide +kernel
theorem dL_law_319 : decode cL_law 319 = .ok (.ifCond .eq 7, 3) := by decide +kernel
theorem dL_law_322 : decode cL_law 322 = .ok (.iconst 1, 1) := by decide +kernel
theorem dL_law_323 : decode cL_law 323 = .ok (.goto 4, 3) := by decide +kernel
theorem dL_law_326 : decode cL_law 326 = .ok (.iconst 0, 1) := by decide +kernel
theorem dL_law_327 : decode cL_law 327 = .ok (.aload_n 3, 1) := by decide +kernel
theorem dL_law_328 : decode cL_law 328 = .ok (.invokestatic 95, 3) := by decide +kernel
theorem dL_law_331 : decode cL_law 331 = .ok (.istore 5, 2) := by decide +kernel
theorem dL_law_333 : decode cL_law 333 = .ok (.aload_n 2, 1) := by decide +kernel
theorem dL_law_334 : decode cL_law 334 = .ok (.aload_n 0, 1) := by decide +kernel
theorem dL_law_335 : decode cL_law 335 = .ok (.iload 4, 2) := by decide +kernel
theorem dL_law_337 : decode cL_law 337 = .ok (.iconst 1, 1) := by decide +kernel
theorem dL_law_338 : decode cL_law 338 = .ok (.iadd, 1) := by decide +kernel
theorem dL_law_339 : decode cL_law 339 = .ok (.iaload, 1) := by decide +kernel
theorem dL_law_340 : decode cL_law 340 = .ok (.aload_n 0, 1) := by decide +kernel
theorem dL_law_341 : decode cL_law 341 = .ok (.iload 4, 2) := by decide +kernel
theorem dL_law_343 : decode cL_law 343 = .ok (.iconst 2, 1) := by decide +kernel
theorem dL_law_344 : decode cL_law 344 = .ok (.iadd, 1) := by decide +kernel
theorem dL_law_345 : decode cL_law 345 = .ok (.iaload, 1) := by decide +kernel
theorem dL_law_346 : decode cL_law 346 = .ok (.aload_n 0, 1) := by decide +kernel
theorem dL_law_347 : decode cL_law 347 = .ok (.iload 4, 2) := by decide +kernel
theorem dL_law_349 : decode cL_law 349 = .ok (.iconst 3, 1) := by decide +kernel
theorem dL_law_350 : decode cL_law 350 = .ok (.iadd, 1) := by decide +kernel
theorem dL_law_351 : decode cL_law 351 = .ok (.iaload, 1) := by decide +kernel
theorem dL_law_352 : decode cL_law 352 = .ok (.ifCond .eq 7, 3) := by decide +kernel
theorem dL_law_355 : decode cL_law 355 = .ok (.iconst 1, 1) := by decide +kernel
theorem dL_law_356 : decode cL_law 356 = .ok (.goto 4, 3) := by decide +kernel
theorem dL_law_359 : decode cL_law 359 = .ok (.iconst 0, 1) := by decide +kernel
theorem dL_law_360 : decode cL_law 360 = .ok (.invokevirtual 98, 3) := by decide +kernel
theorem dL_law_363 : decode cL_law 363 = .ok (.istore 6, 2) := by decide +kernel
theorem dL_law_365 : decode cL_law 365 = .ok (.aload_n 2, 1) := by decide +kernel
theorem dL_law_366 : decode cL_law 366 = .ok (.invokevirtual 87, 3) := by decide +kernel
theorem dL_law_369 : decode cL_law 369 = .ok (.iload 5, 2) := by decide +kernel
theorem dL_law_371 : decode cL_law 371 = .ok (.if_icmp .eq 5, 3) := by decide +kernel
theorem dL_law_374 : decode cL_law 374 = .ok (.iconst 0, 1) := by decide +kernel
theorem dL_law_375 : decode cL_law 375 = .ok (.ireturn, 1) := by decide +kernel
theorem dL_law_376 : decode cL_law 376 = .ok (.iload 5, 2) := by decide +kernel
theorem dL_law_378 : decode cL_law 378 = .ok (.ifCond .ne 22, 3) := by decide +kernel
theorem dL_law_381 : decode cL_law 381 = .ok (.aload_n 3, 1) := by decide +kernel
theorem dL_law_382 : decode cL_law 382 = .ok (.iconst 0, 1) := by decide +kernel
theorem dL_law_383 : decode cL_law 383 = .ok (.laload, 1) := by decide +kernel
theorem dL_law_384 : decode cL_law 384 = .ok (.iload 6, 2) := by decide +kernel
theorem dL_law_386 : decode cL_law 386 = .ok (.ifCond .eq 7, 3) := by decide +kernel
theorem dL_law_389 : decode cL_law 389 = .ok (.lconst 1, 1) := by decide +kernel
theorem dL_law_390 : decode cL_law 390 = .ok (.goto 4, 3) := by decide +kernel
theorem dL_law_393 : decode cL_law 393 = .ok (.lconst 0, 1) := by decide +kernel
theorem dL_law_394 : decode cL_law 394 = .ok (.lcmp, 1) := by decide +kernel
theorem dL_law_395 : decode cL_law 395 = .ok (.ifCond .eq 5, 3) := by decide +kernel
theorem dL_law_398 : decode cL_law 398 = .ok (.iconst 0, 1) := by decide +kernel
theorem dL_law_399 : decode cL_law 399 = .ok (.ireturn, 1) := by decide +kernel
theorem dL_law_400 : decode cL_law 400 = .ok (.goto 1151, 3) := by decide +kernel
theorem dL_law_403 : decode cL_law 403 = .ok (.aload_n 1, 1) := by decide +kernel
theorem dL_law_404 : decode cL_law 404 = .ok (.aload_n 0, 1) := by decide +kernel
theorem dL_law_405 : decode cL_law 405 = .ok (.iload 4, 2) := by decide +kernel
theorem dL_law_407 : decode cL_law 407 = .ok (.iconst 1, 1) := by decide +kernel
theorem dL_law_408 : decode cL_law 408 = .ok (.iadd, 1) := by decide +kernel
theorem dL_law_409 : decode cL_law 409 = .ok (.iaload, 1) := by decide +kernel
theorem dL_law_410 : decode cL_law 410 = .ok (.aload_n 3, 1) := by decide +kernel
theorem dL_law_411 : decode cL_law 411 = .ok (.invokestatic 99, 3) := by decide +kernel
theorem dL_law_414 : decode cL_law 414 = .ok (.istore 5, 2) := by decide +kernel
theorem dL_law_416 : decode cL_law 416 = .ok (.aload_n 2, 1) := by decide +kernel
theorem dL_law_417 : decode cL_law 417 = .ok (.aload_n 0, 1) := by decide +kernel
theorem dL_law_418 : decode cL_law 418 = .ok (.iload 4, 2) := by decide +kernel
theorem dL_law_420 : decode cL_law 420 = .ok (.iconst 1, 1) := by decide +kernel
theorem dL_law_421 : decode cL_law 421 = .ok (.iadd, 1) := by decide +kernel
theorem dL_law_422 : decode cL_law 422 = .ok (.iaload, 1) := by decide +kernel
theorem dL_law_423 : decode cL_law 423 = .ok (.invokevirtual 102, 3) := by decide +kernel
theorem dL_law_426 : decode cL_law 426 = .ok (.istore 6, 2) := by decide +kernel
theorem dL_law_428 : decode cL_law 428 = .ok (.aload_n 2, 1) := by decide +kernel
theorem dL_law_429 : decode cL_law 429 = .ok (.invokevirtual 87, 3) := by decide +kernel
theorem dL_law_432 : decode cL_law 432 = .ok (.iload 5, 2) := by decide +kernel
theorem dL_law_434 : decode cL_law 434 = .ok (.if_icmp .eq 5, 3) := by decide +kernel
theorem dL_law_437 : decode cL_law 437 = .ok (.iconst 0, 1) := by decide +kernel
theorem dL_law_438 : decode cL_law 438 = .ok (.ireturn, 1) := by decide +kernel
theorem dL_law_439 : decode cL_law 439 = .ok (.iload 5, 2) := by decide +kernel
theorem dL_law_441 : decode cL_law 441 = .ok (.ifCond .ne 15, 3) := by decide +kernel
theorem dL_law_444 : decode cL_law 444 = .ok (.aload_n 3, 1) := by decide +kernel
theorem dL_law_445 : decode cL_law 445 = .ok (.iconst 0, 1) := by decide +kernel
theorem dL_law_446 : decode cL_law 446 = .ok (.laload, 1) := by decide +kernel
theorem dL_law_447 : decode cL_law 447 = .ok (.iload 6, 2) := by decide +kernel
theorem dL_law_449 : decode cL_law 449 = .ok (.i2l, 1) := by decide +kernel
theorem dL_law_450 : decode cL_law 450 = .ok (.lcmp, 1) := by decide +kernel
theorem dL_law_451 : decode cL_law 451 = .ok (.ifCond .eq 5, 3) := by decide +kernel
theorem dL_law_454 : decode cL_law 454 = .ok (.iconst 0, 1) := by decide +kernel
theorem dL_law_455 : decode cL_law 455 = .ok (.ireturn, 1) := by decide +kernel
theorem dL_law_456 : decode cL_law 456 = .ok (.goto 1095, 3) := by decide +kernel
theorem dL_law_459 : decode cL_law 459 = .ok (.aload_n 1, 1) := by decide +kernel
theorem dL_law_460 : decode cL_law 460 = .ok (.aload_n 0, 1) := by decide +kernel
theorem dL_law_461 : decode cL_law 461 = .ok (.iload 4, 2) := by decide +kernel
theorem dL_law_463 : decode cL_law 463 = .ok (.iconst 1, 1) := by decide +kernel
theorem dL_law_464 : decode cL_law 464 = .ok (.iadd, 1) := by decide +kernel
theorem dL_law_465 : decode cL_law 465 = .ok (.iaload, 1) := by decide +kernel
theorem dL_law_466 : decode cL_law 466 = .ok (.aload_n 0, 1) := by decide +kernel
theorem dL_law_467 : decode cL_law 467 = .ok (.iload 4, 2) := by decide +kernel
theorem dL_law_469 : decode cL_law 469 = .ok (.iconst 2, 1) := by decide +kernel
theorem dL_law_470 : decode cL_law 470 = .ok (.iadd, 1) := by decide +kernel
theorem dL_law_471 : decode cL_law 471 = .ok (.iaload, 1) := by decide +kernel
theorem dL_law_472 : decode cL_law 472 = .ok (.aload_n 0, 1) := by decide +kernel
theorem dL_law_473 : decode cL_law 473 = .ok (.iload 4, 2) := by decide +kernel
theorem dL_law_475 : decode cL_law 475 = .ok (.iconst 3, 1) := by decide +kernel
theorem dL_law_476 : decode cL_law 476 = .ok (.iadd, 1) := by decide +kernel
theorem dL_law_477 : decode cL_law 477 = .ok (.iaload, 1) := by decide +kernel
theorem dL_law_478 : decode cL_law 478 = .ok (.ifCond .eq 7, 3) := by decide +kernel
theorem dL_law_481 : decode cL_law 481 = .ok (.iconst 1, 1) := by decide +kernel
theorem dL_law_482 : decode cL_law 482 = .ok (.goto 4, 3) := by decide +kernel
theorem dL_law_485 : decode cL_law 485 = .ok (.iconst 0, 1) := by decide +kernel
theorem dL_law_486 : decode cL_law 486 = .ok (.aload_n 3, 1) := by decide +kernel
theorem dL_law_487 : decode cL_law 487 = .ok (.invokestatic 103, 3) := by decide +kernel
theorem dL_law_490 : decode cL_law 490 = .ok (.istore 5, 2) := by decide +kernel
theorem dL_law_492 : decode cL_law 492 = .ok (.aload_n 2, 1) := by decide +kernel
theorem dL_law_493 : decode cL_law 493 = .ok (.aload_n 0, 1) := by decide +kernel
theorem dL_law_494 : decode cL_law 494 = .ok (.iload 4, 2) := by decide +kernel
theorem dL_law_496 : decode cL_law 496 = .ok (.iconst 1, 1) := by decide +kernel
theorem dL_law_497 : decode cL_law 497 = .ok (.iadd, 1) := by decide +kernel
theorem dL_law_498 : decode cL_law 498 = .ok (.iaload, 1) := by decide +kernel
theorem dL_law_499 : decode cL_law 499 = .ok (.aload_n 0, 1) := by decide +kernel
theorem dL_law_500 : decode cL_law 500 = .ok (.iload 4, 2) := by decide +kernel
theorem dL_law_502 : decode cL_law 502 = .ok (.iconst 2, 1) := by decide +kernel
theorem dL_law_503 : decode cL_law 503 = .ok (.iadd, 1) := by decide +kernel
theorem dL_law_504 : decode cL_law 504 = .ok (.iaload, 1) := by decide +kernel
theorem dL_law_505 : decode cL_law 505 = .ok (.aload_n 0, 1) := by decide +kernel
theorem dL_law_506 : decode cL_law 506 = .ok (.iload 4, 2) := by decide +kernel
theorem dL_law_508 : decode cL_law 508 = .ok (.iconst 3, 1) := by decide +kernel
theorem dL_law_509 : decode cL_law 509 = .ok (.iadd, 1) := by decide +kernel
theorem dL_law_510 : decode cL_law 510 = .ok (.iaload, 1) := by decide +kernel
theorem dL_law_511 : decode cL_law 511 = .ok (.ifCond .eq 7, 3) := by decide +kernel
theorem dL_law_514 : decode cL_law 514 = .ok (.iconst 1, 1) := by decide +kernel
theorem dL_law_515 : decode cL_law 515 = .ok (.goto 4, 3) := by decide +kernel
theorem dL_law_518 : decode cL_law 518 = .ok (.iconst 0, 1) := by decide +kernel
theorem dL_law_519 : decode cL_law 519 = .ok (.invokevirtual 105, 3) := by decide +kernel
theorem dL_law_522 : decode cL_law 522 = .ok (.istore 6, 2) := by decide +kernel
theorem dL_law_524 : decode cL_law 524 = .ok (.aload_n 2, 1) := by decide +kernel
theorem dL_law_525 : decode cL_law 525 = .ok (.invokevirtual 87, 3) := by decide +kernel
theorem dL_law_528 : decode cL_law 528 = .ok (.iload 5, 2) := by decide +kernel
theorem dL_law_530 : decode cL_law 530 = .ok (.if_icmp .eq 5, 3) := by decide +kernel
theorem dL_law_533 : decode cL_law 533 = .ok (.iconst 0, 1) := by decide +kernel
theorem dL_law_534 : decode cL_law 534 = .ok (.ireturn, 1) := by decide +kernel
theorem dL_law_535 : decode cL_law 535 = .ok (.iload 5, 2) := by decide +kernel
theorem dL_law_537 : decode cL_law 537 = .ok (.ifCond .ne 22, 3) := by decide +kernel
theorem dL_law_540 : decode cL_law 540 = .ok (.aload_n 3, 1) := by decide +kernel
theorem dL_law_541 : decode cL_law 541 = .ok (.iconst 0, 1) := by decide +kernel
theorem dL_law_542 : decode cL_law 542 = .ok (.laload, 1) := by decide +kernel
theorem dL_law_543 : decode cL_law 543 = .ok (.iload 6, 2) := by decide +kernel
theorem dL_law_545 : decode cL_law 545 = .ok (.ifCond .eq 7, 3) := by decide +kernel
theorem dL_law_548 : decode cL_law 548 = .ok (.lconst 1, 1) := by decide +kernel
theorem dL_law_549 : decode cL_law 549 = .ok (.goto 4, 3) := by decide +kernel
theorem dL_law_552 : decode cL_law 552 = .ok (.lconst 0, 1) := by decide +kernel
theorem dL_law_553 : decode cL_law 553 = .ok (.lcmp, 1) := by decide +kernel
theorem dL_law_554 : decode cL_law 554 = .ok (.ifCond .eq 5, 3) := by decide +kernel
theorem dL_law_557 : decode cL_law 557 = .ok (.iconst 0, 1) := by decide +kernel
theorem dL_law_558 : decode cL_law 558 = .ok (.ireturn, 1) := by decide +kernel
theorem dL_law_559 : decode cL_law 559 = .ok (.goto 992, 3) := by decide +kernel
theorem dL_law_562 : decode cL_law 562 = .ok (.aload_n 1, 1) := by decide +kernel
theorem dL_law_563 : decode cL_law 563 = .ok (.aload_n 0, 1) := by decide +kernel
theorem dL_law_564 : decode cL_law 564 = .ok (.iload 4, 2) := by decide +kernel
theorem dL_law_566 : decode cL_law 566 = .ok (.iconst 1, 1) := by decide +kernel
theorem dL_law_567 : decode cL_law 567 = .ok (.iadd, 1) := by decide +kernel
theorem dL_law_568 : decode cL_law 568 = .ok (.iaload, 1) := by decide +kernel
theorem dL_law_569 : decode cL_law 569 = .ok (.aload_n 0, 1) := by decide +kernel
theorem dL_law_570 : decode cL_law 570 = .ok (.iload 4, 2) := by decide +kernel
theorem dL_law_572 : decode cL_law 572 = .ok (.iconst 2, 1) := by decide +kernel
theorem dL_law_573 : decode cL_law 573 = .ok (.iadd, 1) := by decide +kernel
theorem dL_law_574 : decode cL_law 574 = .ok (.iaload, 1) := by decide +kernel
theorem dL_law_575 : decode cL_law 575 = .ok (.aload_n 0, 1) := by decide +kernel
theorem dL_law_576 : decode cL_law 576 = .ok (.iload 4, 2) := by decide +kernel
theorem dL_law_578 : decode cL_law 578 = .ok (.iconst 3, 1) := by decide +kernel
theorem dL_law_579 : decode cL_law 579 = .ok (.iadd, 1) := by decide +kernel
theorem dL_law_580 : decode cL_law 580 = .ok (.iaload, 1) := by decide +kernel
theorem dL_law_581 : decode cL_law 581 = .ok (.aload_n 3, 1) := by decide +kernel
theorem dL_law_582 : decode cL_law 582 = .ok (.invokestatic 106, 3) := by decide +kernel
theorem dL_law_585 : decode cL_law 585 = .ok (.istore 5, 2) := by decide +kernel
theorem dL_law_587 : decode cL_law 587 = .ok (.aload_n 2, 1) := by decide +kernel
theorem dL_law_588 : decode cL_law 588 = .ok (.aload_n 0, 1) := by decide +kernel
theorem dL_law_589 : decode cL_law 589 = .ok (.iload 4, 2) := by decide +kernel
theorem dL_law_591 : decode cL_law 591 = .ok (.iconst 1, 1) := by decide +kernel
theorem dL_law_592 : decode cL_law 592 = .ok (.iadd, 1) := by decide +kernel
theorem dL_law_593 : decode cL_law 593 = .ok (.iaload, 1) := by decide +kernel
theorem dL_law_594 : decode cL_law 594 = .ok (.aload_n 0, 1) := by decide +kernel
theorem dL_law_595 : decode cL_law 595 = .ok (.iload 4, 2) := by decide +kernel
theorem dL_law_597 : decode cL_law 597 = .ok (.iconst 2, 1) := by decide +kernel
theorem dL_law_598 : decode cL_law 598 = .ok (.iadd, 1) := by decide +kernel
theorem dL_law_599 : decode cL_law 599 = .ok (.iaload, 1) := by decide +kernel
theorem dL_law_600 : decode cL_law 600 = .ok (.aload_n 0, 1) := by decide +kernel
theorem dL_law_601 : decode cL_law 601 = .ok (.iload 4, 2) := by decide +kernel
theorem dL_law_603 : decode cL_law 603 = .ok (.iconst 3, 1) := by decide +kernel
theorem dL_law_604 : decode cL_law 604 = .ok (.iadd, 1) := by decide +kernel
theorem dL_law_605 : decode cL_law 605 = .ok (.iaload, 1) := by decide +kernel
theorem dL_law_606 : decode cL_law 606 = .ok (.invokevirtual 108, 3) := by decide +kernel
theorem dL_law_609 : decode cL_law 609 = .ok (.istore 6, 2) := by decide +kernel
theorem dL_law_611 : decode cL_law 611 = .ok (.aload_n 2, 1) := by decide +kernel
theorem dL_law_612 : decode cL_law 612 = .ok (.invokevirtual 87, 3) := by decide +kernel
theorem dL_law_615 : decode cL_law 615 = .ok (.iload 5, 2) := by decide +kernel
theorem dL_law_617 : decode cL_law 617 = .ok (.if_icmp .eq 5, 3) := by decide +kernel
theorem dL_law_620 : decode cL_law 620 = .ok (.iconst 0, 1) := by decide +kernel
theorem dL_law_621 : decode cL_law 621 = .ok (.ireturn, 1) := by decide +kernel
theorem dL_law_622 : decode cL_law 622 = .ok (.iload 5, 2) := by decide +kernel
theorem dL_law_624 : decode cL_law 624 = .ok (.ifCond .ne 15, 3) := by decide +kernel
theorem dL_law_627 : decode cL_law 627 = .ok (.aload_n 3, 1) := by decide +kernel
theorem dL_law_628 : decode cL_law 628 = .ok (.iconst 0, 1) := by decide +kernel
theorem dL_law_629 : decode cL_law 629 = .ok (.laload, 1) := by decide +kernel
theorem dL_law_630 : decode cL_law 630 = .ok (.iload 6, 2) := by decide +kernel
theorem dL_law_632 : decode cL_law 632 = .ok (.i2l, 1) := by decide +kernel
theorem dL_law_633 : decode cL_law 633 = .ok (.lcmp, 1) := by decide +kernel
theorem dL_law_634 : decode cL_law 634 = .ok (.ifCond .eq 5, 3) := by decide +kernel
theorem dL_law_637 : decode cL_law 637 = .ok (.iconst 0, 1) := by decide +kernel
theorem dL_law_638 : decode cL_law 638 = .ok (.ireturn, 1) := by decide +kernel
theorem dL_law_639 : decode cL_law 639 = .ok (.goto 912, 3) := by decide +kernel
theorem dL_law_642 : decode cL_law 642 = .ok (.aload_n 1, 1) := by decide +kernel
theorem dL_law_643 : decode cL_law 643 = .ok (.invokevirtual 109, 3) := by decide +kernel
theorem dL_law_646 : decode cL_law 646 = .ok (.aload_n 2, 1) := by decide +kernel
theorem dL_law_647 : decode cL_law 647 = .ok (.invokevirtual 112, 3) := by decide +kernel
theorem dL_law_650 : decode cL_law 650 = .ok (.if_icmp .eq 901, 3) := by decide +kernel
theorem dL_law_653 : decode cL_law 653 = .ok (.iconst 0, 1) := by decide +kernel
theorem dL_law_654 : decode cL_law 654 = .ok (.ireturn, 1) := by decide +kernel
theorem dL_law_655 : decode cL_law 655 = .ok (.aload_n 1, 1) := by decide +kernel
theorem dL_law_656 : decode cL_law 656 = .ok (.invokevirtual 113, 3) := by decide +kernel
theorem dL_law_659 : decode cL_law 659 = .ok (.aload_n 2, 1) := by decide +kernel
theorem dL_law_660 : decode cL_law 660 = .ok (.invokevirtual 116, 3) := by decide +kernel
theorem dL_law_663 : decode cL_law 663 = .ok (.if_icmp .eq 888, 3) := by decide +kernel
theorem dL_law_666 : decode cL_law 666 = .ok (.iconst 0, 1) := by decide +kernel
theorem dL_law_667 : decode cL_law 667 = .ok (.ireturn, 1) := by decide +kernel
theorem dL_law_668 : decode cL_law 668 = .ok (.aload_n 1, 1) := by decide +kernel
theorem dL_law_669 : decode cL_law 669 = .ok (.aload_n 0, 1) := by decide +kernel
theorem dL_law_670 : decode cL_law 670 = .ok (.iload 4, 2) := by decide +kernel
theorem dL_law_672 : decode cL_law 672 = .ok (.iconst 1, 1) := by decide +kernel
theorem dL_law_673 : decode cL_law 673 = .ok (.iadd, 1) := by decide +kernel
theorem dL_law_674 : decode cL_law 674 = .ok (.iaload, 1) := by decide +kernel
theorem dL_law_675 : decode cL_law 675 = .ok (.aload_n 0, 1) := by decide +kernel
theorem dL_law_676 : decode cL_law 676 = .ok (.iload 4, 2) := by decide +kernel
theorem dL_law_678 : decode cL_law 678 = .ok (.iconst 2, 1) := by decide +kernel
theorem dL_law_679 : decode cL_law 679 = .ok (.iadd, 1) := by decide +kernel
theorem dL_law_680 : decode cL_law 680 = .ok (.iaload, 1) := by decide +kernel
theorem dL_law_681 : decode cL_law 681 = .ok (.aload_n 0, 1) := by decide +kernel
theorem dL_law_682 : decode cL_law 682 = .ok (.iload 4, 2) := by decide +kernel
theorem dL_law_684 : decode cL_law 684 = .ok (.iconst 3, 1) := by decide +kernel
theorem dL_law_685 : decode cL_law 685 = .ok (.iadd, 1) := by decide +kernel
theorem dL_law_686 : decode cL_law 686 = .ok (.iaload, 1) := by decide +kernel
theorem dL_law_687 : decode cL_law 687 = .ok (.aload_n 3, 1) := by decide +kernel
theorem dL_law_688 : decode cL_law 688 = .ok (.invokestatic 117, 3) := by decide +kernel
theorem dL_law_691 : decode cL_law 691 = .ok (.istore 5, 2) := by decide +kernel
theorem dL_law_693 : decode cL_law 693 = .ok (.aload_n 2, 1) := by decide +kernel
theorem dL_law_694 : decode cL_law 694 = .ok (.aload_n 0, 1) := by decide +kernel
theorem dL_law_695 : decode cL_law 695 = .ok (.iload 4, 2) := by decide +kernel
theorem dL_law_697 : decode cL_law 697 = .ok (.iconst 1, 1) := by decide +kernel
theorem dL_law_698 : decode cL_law 698 = .ok (.iadd, 1) := by decide +kernel
theorem dL_law_699 : decode cL_law 699 = .ok (.iaload, 1) := by decide +kernel
theorem dL_law_700 : decode cL_law 700 = .ok (.aload_n 0, 1) := by decide +kernel
theorem dL_law_701 : decode cL_law 701 = .ok (.iload 4, 2) := by decide +kernel
theorem dL_law_703 : decode cL_law 703 = .ok (.iconst 2, 1) := by decide +kernel
theorem dL_law_704 : decode cL_law 704 = .ok (.iadd, 1) := by decide +kernel
theorem dL_law_705 : decode cL_law 705 = .ok (.iaload, 1) := by decide +kernel
theorem dL_law_706 : decode cL_law 706 = .ok (.aload_n 0, 1) := by decide +kernel
theorem dL_law_707 : decode cL_law 707 = .ok (.iload 4, 2) := by decide +kernel
theorem dL_law_709 : decode cL_law 709 = .ok (.iconst 3, 1) := by decide +kernel
theorem dL_law_710 : decode cL_law 710 = .ok (.iadd, 1) := by decide +kernel
theorem dL_law_711 : decode cL_law 711 = .ok (.iaload, 1) := by decide +kernel
theorem dL_law_712 : decode cL_law 712 = .ok (.invokevirtual 119, 3) := by decide +kernel
theorem dL_law_715 : decode cL_law 715 = .ok (.istore 6, 2) := by decide +kernel
theorem dL_law_717 : decode cL_law 717 = .ok (.aload_n 2, 1) := by decide +kernel
theorem dL_law_718 : decode cL_law 718 = .ok (.invokevirtual 87, 3) := by decide +kernel
theorem dL_law_721 : decode cL_law 721 = .ok (.iload 5, 2) := by decide +kernel
theorem dL_law_723 : decode cL_law 723 = .ok (.if_icmp .eq 5, 3) := by decide +kernel
theorem dL_law_726 : decode cL_law 726 = .ok (.iconst 0, 1) := by decide +kernel
theorem dL_law_727 : decode cL_law 727 = .ok (.ireturn, 1) := by decide +kernel
theorem dL_law_728 : decode cL_law 728 = .ok (.iload 5, 2) := by decide +kernel
theorem dL_law_730 : decode cL_law 730 = .ok (.ifCond .ne 15, 3) := by decide +kernel
theorem dL_law_733 : decode cL_law 733 = .ok (.aload_n 3, 1) := by decide +kernel
theorem dL_law_734 : decode cL_law 734 = .ok (.iconst 0, 1) := by decide +kernel
theorem dL_law_735 : decode cL_law 735 = .ok (.laload, 1) := by decide +kernel
theorem dL_law_736 : decode cL_law 736 = .ok (.iload 6, 2) := by decide +kernel
theorem dL_law_738 : decode cL_law 738 = .ok (.i2l, 1) := by decide +kernel
theorem dL_law_739 : decode cL_law 739 = .ok (.lcmp, 1) := by decide +kernel
theorem dL_law_740 : decode cL_law 740 = .ok (.ifCond .eq 5, 3) := by decide +kernel
theorem dL_law_743 : decode cL_law 743 = .ok (.iconst 0, 1) := by decide +kernel
theorem dL_law_744 : decode cL_law 744 = .ok (.ireturn, 1) := by decide +kernel
theorem dL_law_745 : decode cL_law 745 = .ok (.goto 806, 3) := by decide +kernel
theorem dL_law_748 : decode cL_law 748 = .ok (.aload_n 1, 1) := by decide +kernel
theorem dL_law_749 : decode cL_law 749 = .ok (.aload_n 0, 1) := by decide +kernel
theorem dL_law_750 : decode cL_law 750 = .ok (.iload 4, 2) := by decide +kernel
theorem dL_law_752 : decode cL_law 752 = .ok (.iconst 1, 1) := by decide +kernel
theorem dL_law_753 : decode cL_law 753 = .ok (.iadd, 1) := by decide +kernel
theorem dL_law_754 : decode cL_law 754 = .ok (.iaload, 1) := by decide +kernel
theorem dL_law_755 : decode cL_law 755 = .ok (.aload_n 0, 1) := by decide +kernel
theorem dL_law_756 : decode cL_law 756 = .ok (.iload 4, 2) := by decide +kernel
theorem dL_law_758 : decode cL_law 758 = .ok (.iconst 2, 1) := by decide +kernel
theorem dL_law_759 : decode cL_law 759 = .ok (.iadd, 1) := by decide +kernel
theorem dL_law_760 : decode cL_law 760 = .ok (.iaload, 1) := by decide +kernel
theorem dL_law_761 : decode cL_law 761 = .ok (.aload_n 0, 1) := by decide +kernel
theorem dL_law_762 : decode cL_law 762 = .ok (.iload 4, 2) := by decide +kernel
theorem dL_law_764 : decode cL_law 764 = .ok (.iconst 3, 1) := by decide +kernel
theorem dL_law_765 : decode cL_law 765 = .ok (.iadd, 1) := by decide +kernel
theorem dL_law_766 : decode cL_law 766 = .ok (.iaload, 1) := by decide +kernel
theorem dL_law_767 : decode cL_law 767 = .ok (.aload_n 3, 1) := by decide +kernel
theorem dL_law_768 : decode cL_law 768 = .ok (.invokestatic 120, 3) := by decide +kernel
theorem dL_law_771 : decode cL_law 771 = .ok (.istore 5, 2) := by decide +kernel
theorem dL_law_773 : decode cL_law 773 = .ok (.aload_n 2, 1) := by decide +kernel
theorem dL_law_774 : decode cL_law 774 = .ok (.aload_n 0, 1) := by decide +kernel
theorem dL_law_775 : decode cL_law 775 = .ok (.iload 4, 2) := by decide +kernel
theorem dL_law_777 : decode cL_law 777 = .ok (.iconst 1, 1) := by decide +kernel
theorem dL_law_778 : decode cL_law 778 = .ok (.iadd, 1) := by decide +kernel
theorem dL_law_779 : decode cL_law 779 = .ok (.iaload, 1) := by decide +kernel
theorem dL_law_780 : decode cL_law 780 = .ok (.aload_n 0, 1) := by decide +kernel
theorem dL_law_781 : decode cL_law 781 = .ok (.iload 4, 2) := by decide +kernel
theorem dL_law_783 : decode cL_law 783 = .ok (.iconst 2, 1) := by decide +kernel
theorem dL_law_784 : decode cL_law 784 = .ok (.iadd, 1) := by decide +kernel
theorem dL_law_785 : decode cL_law 785 = .ok (.iaload, 1) := by decide +kernel
theorem dL_law_786 : decode cL_law 786 = .ok (.aload_n 0, 1) := by decide +kernel
theorem dL_law_787 : decode cL_law 787 = .ok (.iload 4, 2) := by decide +kernel
theorem dL_law_789 : decode cL_law 789 = .ok (.iconst 3, 1) := by decide +kernel
theorem dL_law_790 : decode cL_law 790 = .ok (.iadd, 1) := by decide +kernel
theorem dL_law_791 : decode cL_law 791 = .ok (.iaload, 1) := by decide +kernel
theorem dL_law_792 : decode cL_law 792 = .ok (.invokevirtual 122, 3) := by decide +kernel
theorem dL_law_795 : decode cL_law 795 = .ok (.istore 6, 2) := by decide +kernel
theorem dL_law_797 : decode cL_law 797 = .ok (.aload_n 2, 1) := by decide +kernel
theorem dL_law_798 : decode cL_law 798 = .ok (.invokevirtual 87, 3) := by decide +kernel
theorem dL_law_801 : decode cL_law 801 = .ok (.iload 5, 2) := by decide +kernel
theorem dL_law_803 : decode cL_law 803 = .ok (.if_icmp .eq 5, 3) := by decide +kernel
theorem dL_law_806 : decode cL_law 806 = .ok (.iconst 0, 1) := by decide +kernel
theorem dL_law_807 : decode cL_law 807 = .ok (.ireturn, 1) := by decide +kernel
theorem dL_law_808 : decode cL_law 808 = .ok (.iload 5, 2) := by decide +kernel
theorem dL_law_810 : decode cL_law 810 = .ok (.ifCond .ne 15, 3) := by decide +kernel
theorem dL_law_813 : decode cL_law 813 = .ok (.aload_n 3, 1) := by decide +kernel
theorem dL_law_814 : decode cL_law 814 = .ok (.iconst 0, 1) := by decide +kernel
theorem dL_law_815 : decode cL_law 815 = .ok (.laload, 1) := by decide +kernel
theorem dL_law_816 : decode cL_law 816 = .ok (.iload 6, 2) := by decide +kernel
theorem dL_law_818 : decode cL_law 818 = .ok (.i2l, 1) := by decide +kernel
theorem dL_law_819 : decode cL_law 819 = .ok (.lcmp, 1) := by decide +kernel
theorem dL_law_820 : decode cL_law 820 = .ok (.ifCond .eq 5, 3) := by decide +kernel
theorem dL_law_823 : decode cL_law 823 = .ok (.iconst 0, 1) := by decide +kernel
theorem dL_law_824 : decode cL_law 824 = .ok (.ireturn, 1) := by decide +kernel
theorem dL_law_825 : decode cL_law 825 = .ok (.goto 726, 3) := by decide +kernel
theorem dL_law_828 : decode cL_law 828 = .ok (.aload_n 1, 1) := by decide +kernel
theorem dL_law_829 : decode cL_law 829 = .ok (.invokevirtual 123, 3) := by decide +kernel
theorem dL_law_832 : decode cL_law 832 = .ok (.aload_n 2, 1) := by decide +kernel
theorem dL_law_833 : decode cL_law 833 = .ok (.invokevirtual 126, 3) := by decide +kernel
theorem dL_law_836 : decode cL_law 836 = .ok (.if_icmp .eq 715, 3) := by decide +kernel
theorem dL_law_839 : decode cL_law 839 = .ok (.iconst 0, 1) := by decide +kernel
theorem dL_law_840 : decode cL_law 840 = .ok (.ireturn, 1) := by decide +kernel
theorem dL_law_841 : decode cL_law 841 = .ok (.aload_n 1, 1) := by decide +kernel
theorem dL_law_842 : decode cL_law 842 = .ok (.invokevirtual 127, 3) := by decide +kernel
theorem dL_law_845 : decode cL_law 845 = .ok (.aload_n 2, 1) := by decide +kernel
theorem dL_law_846 : decode cL_law 846 = .ok (.invokevirtual 130, 3) := by decide +kernel
theorem dL_law_849 : decode cL_law 849 = .ok (.if_icmp .eq 702, 3) := by decide +kernel
theorem dL_law_852 : decode cL_law 852 = .ok (.iconst 0, 1) := by decide +kernel
theorem dL_law_853 : decode cL_law 853 = .ok (.ireturn, 1) := by decide +kernel
theorem dL_law_854 : decode cL_law 854 = .ok (.aload_n 1, 1) := by decide +kernel
theorem dL_law_855 : decode cL_law 855 = .ok (.aload_n 0, 1) := by decide +kernel
theorem dL_law_856 : decode cL_law 856 = .ok (.iload 4, 2) := by decide +kernel
theorem dL_law_858 : decode cL_law 858 = .ok (.iconst 1, 1) := by decide +kernel
theorem dL_law_859 : decode cL_law 859 = .ok (.iadd, 1) := by decide +kernel
theorem dL_law_860 : decode cL_law 860 = .ok (.iaload, 1) := by decide +kernel
theorem dL_law_861 : decode cL_law 861 = .ok (.aload_n 0, 1) := by decide +kernel
theorem dL_law_862 : decode cL_law 862 = .ok (.iload 4, 2) := by decide +kernel
theorem dL_law_864 : decode cL_law 864 = .ok (.iconst 2, 1) := by decide +kernel
theorem dL_law_865 : decode cL_law 865 = .ok (.iadd, 1) := by decide +kernel
theorem dL_law_866 : decode cL_law 866 = .ok (.iaload, 1) := by decide +kernel
theorem dL_law_867 : decode cL_law 867 = .ok (.aload_n 3, 1) := by decide +kernel
theorem dL_law_868 : decode cL_law 868 = .ok (.invokestatic 131, 3) := by decide +kernel
theorem dL_law_871 : decode cL_law 871 = .ok (.istore 5, 2) := by decide +kernel
theorem dL_law_873 : decode cL_law 873 = .ok (.aload_n 2, 1) := by decide +kernel
theorem dL_law_874 : decode cL_law 874 = .ok (.aload_n 0, 1) := by decide +kernel
theorem dL_law_875 : decode cL_law 875 = .ok (.iload 4, 2) := by decide +kernel
theorem dL_law_877 : decode cL_law 877 = .ok (.iconst 1, 1) := by decide +kernel
theorem dL_law_878 : decode cL_law 878 = .ok (.iadd, 1) := by decide +kernel
theorem dL_law_879 : decode cL_law 879 = .ok (.iaload, 1) := by decide +kernel
theorem dL_law_880 : decode cL_law 880 = .ok (.aload_n 0, 1) := by decide +kernel
theorem dL_law_881 : decode cL_law 881 = .ok (.iload 4, 2) := by decide +kernel
theorem dL_law_883 : decode cL_law 883 = .ok (.iconst 2, 1) := by decide +kernel
theorem dL_law_884 : decode cL_law 884 = .ok (.iadd, 1) := by decide +kernel
theorem dL_law_885 : decode cL_law 885 = .ok (.iaload, 1) := by decide +kernel
theorem dL_law_886 : decode cL_law 886 = .ok (.invokevirtual 133, 3) := by decide +kernel
theorem dL_law_889 : decode cL_law 889 = .ok (.istore 6, 2) := by decide +kernel
theorem dL_law_891 : decode cL_law 891 = .ok (.aload_n 2, 1) := by decide +kernel
theorem dL_law_892 : decode cL_law 892 = .ok (.invokevirtual 87, 3) := by decide +kernel
theorem dL_law_895 : decode cL_law 895 = .ok (.iload 5, 2) := by decide +kernel
theorem dL_law_897 : decode cL_law 897 = .ok (.if_icmp .eq 5, 3) := by decide +kernel
theorem dL_law_900 : decode cL_law 900 = .ok (.iconst 0, 1) := by decide +kernel
theorem dL_law_901 : decode cL_law 901 = .ok (.ireturn, 1) := by decide +kernel
theorem dL_law_902 : decode cL_law 902 = .ok (.iload 5, 2) := by decide +kernel
theorem dL_law_904 : decode cL_law 904 = .ok (.ifCond .ne 15, 3) := by decide +kernel
theorem dL_law_907 : decode cL_law 907 = .ok (.aload_n 3, 1) := by decide +kernel
theorem dL_law_908 : decode cL_law 908 = .ok (.iconst 0, 1) := by decide +kernel
theorem dL_law_909 : decode cL_law 909 = .ok (.laload, 1) := by decide +kernel
theorem dL_law_910 : decode cL_law 910 = .ok (.iload 6, 2) := by decide +kernel
theorem dL_law_912 : decode cL_law 912 = .ok (.i2l, 1) := by decide +kernel
theorem dL_law_913 : decode cL_law 913 = .ok (.lcmp, 1) := by decide +kernel
theorem dL_law_914 : decode cL_law 914 = .ok (.ifCond .eq 5, 3) := by decide +kernel
theorem dL_law_917 : decode cL_law 917 = .ok (.iconst 0, 1) := by decide +kernel
theorem dL_law_918 : decode cL_law 918 = .ok (.ireturn, 1) := by decide +kernel
theorem dL_law_919 : decode cL_law 919 = .ok (.goto 632, 3) := by decide +kernel
theorem dL_law_922 : decode cL_law 922 = .ok (.aload_n 1, 1) := by decide +kernel
theorem dL_law_923 : decode cL_law 923 = .ok (.invokevirtual 134, 3) := by decide +kernel
theorem dL_law_926 : decode cL_law 926 = .ok (.aload_n 2, 1) := by decide +kernel
theorem dL_law_927 : decode cL_law 927 = .ok (.invokevirtual 137, 3) := by decide +kernel
theorem dL_law_930 : decode cL_law 930 = .ok (.if_icmp .eq 621, 3) := by decide +kernel
theorem dL_law_933 : decode cL_law 933 = .ok (.iconst 0, 1) := by decide +kernel
theorem dL_law_934 : decode cL_law 934 = .ok (.ireturn, 1) := by decide +kernel
theorem dL_law_935 : decode cL_law 935 = .ok (.aload_n 1, 1) := by decide +kernel
theorem dL_law_936 : decode cL_law 936 = .ok (.aload_n 0, 1) := by decide +kernel
theorem dL_law_937 : decode cL_law 937 = .ok (.iload 4, 2) := by decide +kernel
theorem dL_law_939 : decode cL_law 939 = .ok (.iconst 1, 1) := by decide +kernel
theorem dL_law_940 : decode cL_law 940 = .ok (.iadd, 1) := by decide +kernel
theorem dL_law_941 : decode cL_law 941 = .ok (.iaload, 1) := by decide +kernel
theorem dL_law_942 : decode cL_law 942 = .ok (.aload_n 0, 1) := by decide +kernel
theorem dL_law_943 : decode cL_law 943 = .ok (.iload 4, 2) := by decide +kernel
theorem dL_law_945 : decode cL_law 945 = .ok (.iconst 2, 1) := by decide +kernel
theorem dL_law_946 : decode cL_law 946 = .ok (.iadd, 1) := by decide +kernel
theorem dL_law_947 : decode cL_law 947 = .ok (.iaload, 1) := by decide +kernel
theorem dL_law_948 : decode cL_law 948 = .ok (.aload_n 3, 1) := by decide +kernel
theorem dL_law_949 : decode cL_law 949 = .ok (.invokestatic 138, 3) := by decide +kernel
theorem dL_law_952 : decode cL_law 952 = .ok (.istore 5, 2) := by decide +kernel
theorem dL_law_954 : decode cL_law 954 = .ok (.aload_n 2, 1) := by decide +kernel
theorem dL_law_955 : decode cL_law 955 = .ok (.aload_n 0, 1) := by decide +kernel
theorem dL_law_956 : decode cL_law 956 = .ok (.iload 4, 2) := by decide +kernel
theorem dL_law_958 : decode cL_law 958 = .ok (.iconst 1, 1) := by decide +kernel
theorem dL_law_959 : decode cL_law 959 = .ok (.iadd, 1) := by decide +kernel
theorem dL_law_960 : decode cL_law 960 = .ok (.iaload, 1) := by decide +kernel
theorem dL_law_961 : decode cL_law 961 = .ok (.aload_n 0, 1) := by decide +kernel
theorem dL_law_962 : decode cL_law 962 = .ok (.iload 4, 2) := by decide +kernel
theorem dL_law_964 : decode cL_law 964 = .ok (.iconst 2, 1) := by decide +kernel
theorem dL_law_965 : decode cL_law 965 = .ok (.iadd, 1) := by decide +kernel
theorem dL_law_966 : decode cL_law 966 = .ok (.iaload, 1) := by decide +kernel
theorem dL_law_967 : decode cL_law 967 = .ok (.invokevirtual 140, 3) := by decide +kernel
theorem dL_law_970 : decode cL_law 970 = .ok (.istore 6, 2) := by decide +kernel
theorem dL_law_972 : decode cL_law 972 = .ok (.aload_n 2, 1) := by decide +kernel
theorem dL_law_973 : decode cL_law 973 = .ok (.invokevirtual 87, 3) := by decide +kernel
theorem dL_law_976 : decode cL_law 976 = .ok (.iload 5, 2) := by decide +kernel
theorem dL_law_978 : decode cL_law 978 = .ok (.if_icmp .eq 5, 3) := by decide +kernel
theorem dL_law_981 : decode cL_law 981 = .ok (.iconst 0, 1) := by decide +kernel
theorem dL_law_982 : decode cL_law 982 = .ok (.ireturn, 1) := by decide +kernel
theorem dL_law_983 : decode cL_law 983 = .ok (.iload 5, 2) := by decide +kernel
theorem dL_law_985 : decode cL_law 985 = .ok (.ifCond .ne 15, 3) := by decide +kernel
theorem dL_law_988 : decode cL_law 988 = .ok (.aload_n 3, 1) := by decide +kernel
theorem dL_law_989 : decode cL_law 989 = .ok (.iconst 0, 1) := by decide +kernel
theorem dL_law_990 : decode cL_law 990 = .ok (.laload, 1) := by decide +kernel
theorem dL_law_991 : decode cL_law 991 = .ok (.iload 6, 2) := by decide +kernel
theorem dL_law_993 : decode cL_law 993 = .ok (.i2l, 1) := by decide +kernel
theorem dL_law_994 : decode cL_law 994 = .ok (.lcmp, 1) := by decide +kernel
theorem dL_law_995 : decode cL_law 995 = .ok (.ifCond .eq 5, 3) := by decide +kernel
theorem dL_law_998 : decode cL_law 998 = .ok (.iconst 0, 1) := by decide +kernel
theorem dL_law_999 : decode cL_law 999 = .ok (.ireturn, 1) := by decide +kernel
theorem dL_law_1000 : decode cL_law 1000 = .ok (.goto 551, 3) := by decide +kernel
theorem dL_law_1003 : decode cL_law 1003 = .ok (.aload_n 1, 1) := by decide +kernel
theorem dL_law_1004 : decode cL_law 1004 = .ok (.aload_n 0, 1) := by decide +kernel
theorem dL_law_1005 : decode cL_law 1005 = .ok (.iload 4, 2) := by decide +kernel
theorem dL_law_1007 : decode cL_law 1007 = .ok (.iconst 1, 1) := by decide +kernel
theorem dL_law_1008 : decode cL_law 1008 = .ok (.iadd, 1) := by decide +kernel
theorem dL_law_1009 : decode cL_law 1009 = .ok (.iaload, 1) := by decide +kernel
theorem dL_law_1010 : decode cL_law 1010 = .ok (.aload_n 3, 1) := by decide +kernel
theorem dL_law_1011 : decode cL_law 1011 = .ok (.invokestatic 141, 3) := by decide +kernel
theorem dL_law_1014 : decode cL_law 1014 = .ok (.istore 5, 2) := by decide +kernel
theorem dL_law_1016 : decode cL_law 1016 = .ok (.aload_n 2, 1) := by decide +kernel
theorem dL_law_1017 : decode cL_law 1017 = .ok (.aload_n 0, 1) := by decide +kernel
theorem dL_law_1018 : decode cL_law 1018 = .ok (.iload 4, 2) := by decide +kernel
theorem dL_law_1020 : decode cL_law 1020 = .ok (.iconst 1, 1) := by decide +kernel
theorem dL_law_1021 : decode cL_law 1021 = .ok (.iadd, 1) := by decide +kernel
theorem dL_law_1022 : decode cL_law 1022 = .ok (.iaload, 1) := by decide +kernel
theorem dL_law_1023 : decode cL_law 1023 = .ok (.invokevirtual 143, 3) := by decide +kernel
theorem dL_law_1026 : decode cL_law 1026 = .ok (.istore 6, 2) := by decide +kernel
theorem dL_law_1028 : decode cL_law 1028 = .ok (.aload_n 2, 1) := by decide +kernel
theorem dL_law_1029 : decode cL_law 1029 = .ok (.invokevirtual 87, 3) := by decide +kernel
theorem dL_law_1032 : decode cL_law 1032 = .ok (.iload 5, 2) := by decide +kernel
theorem dL_law_1034 : decode cL_law 1034 = .ok (.if_icmp .eq 5, 3) := by decide +kernel
theorem dL_law_1037 : decode cL_law 1037 = .ok (.iconst 0, 1) := by decide +kernel
theorem dL_law_1038 : decode cL_law 1038 = .ok (.ireturn, 1) := by decide +kernel
theorem dL_law_1039 : decode cL_law 1039 = .ok (.iload 5, 2) := by decide +kernel
theorem dL_law_1041 : decode cL_law 1041 = .ok (.ifCond .ne 15, 3) := by decide +kernel
theorem dL_law_1044 : decode cL_law 1044 = .ok (.aload_n 3, 1) := by decide +kernel
theorem dL_law_1045 : decode cL_law 1045 = .ok (.iconst 0, 1) := by decide +kernel
theorem dL_law_1046 : decode cL_law 1046 = .ok (.laload, 1) := by decide +kernel
theorem dL_law_1047 : decode cL_law 1047 = .ok (.iload 6, 2) := by decide +kernel
theorem dL_law_1049 : decode cL_law 1049 = .ok (.i2l, 1) := by decide +kernel
theorem dL_law_1050 : decode cL_law 1050 = .ok (.lcmp, 1) := by decide +kernel
theorem dL_law_1051 : decode cL_law 1051 = .ok (.ifCond .eq 5, 3) := by decide +kernel
theorem dL_law_1054 : decode cL_law 1054 = .ok (.iconst 0, 1) := by decide +kernel
theorem dL_law_1055 : decode cL_law 1055 = .ok (.ireturn, 1) := by decide +kernel
theorem dL_law_1056 : decode cL_law 1056 = .ok (.goto 495, 3) := by decide +kernel
theorem dL_law_1059 : decode cL_law 1059 = .ok (.aload_n 1, 1) := by decide +kernel
theorem dL_law_1060 : decode cL_law 1060 = .ok (.aload_n 0, 1) := by decide +kernel
theorem dL_law_1061 : decode cL_law 1061 = .ok (.iload 4, 2) := by decide +kernel
theorem dL_law_1063 : decode cL_law 1063 = .ok (.iconst 1, 1) := by decide +kernel
theorem dL_law_1064 : decode cL_law 1064 = .ok (.iadd, 1) := by decide +kernel
theorem dL_law_1065 : decode cL_law 1065 = .ok (.iaload, 1) := by decide +kernel
theorem dL_law_1066 : decode cL_law 1066 = .ok (.aload_n 3, 1) := by decide +kernel
theorem dL_law_1067 : decode cL_law 1067 = .ok (.invokestatic 144, 3) := by decide +kernel
theorem dL_law_1070 : decode cL_law 1070 = .ok (.istore 5, 2) := by decide +kernel
theorem dL_law_1072 : decode cL_law 1072 = .ok (.aload_n 2, 1) := by decide +kernel
theorem dL_law_1073 : decode cL_law 1073 = .ok (.aload_n 0, 1) := by decide +kernel
theorem dL_law_1074 : decode cL_law 1074 = .ok (.iload 4, 2) := by decide +kernel
theorem dL_law_1076 : decode cL_law 1076 = .ok (.iconst 1, 1) := by decide +kernel
theorem dL_law_1077 : decode cL_law 1077 = .ok (.iadd, 1) := by decide +kernel
theorem dL_law_1078 : decode cL_law 1078 = .ok (.iaload, 1) := by decide +kernel
theorem dL_law_1079 : decode cL_law 1079 = .ok (.invokevirtual 146, 3) := by decide +kernel
theorem dL_law_1082 : decode cL_law 1082 = .ok (.istore 6, 2) := by decide +kernel
theorem dL_law_1084 : decode cL_law 1084 = .ok (.aload_n 2, 1) := by decide +kernel
theorem dL_law_1085 : decode cL_law 1085 = .ok (.invokevirtual 87, 3) := by decide +kernel
theorem dL_law_1088 : decode cL_law 1088 = .ok (.iload 5, 2) := by decide +kernel
theorem dL_law_1090 : decode cL_law 1090 = .ok (.if_icmp .eq 5, 3) := by decide +kernel
theorem dL_law_1093 : decode cL_law 1093 = .ok (.iconst 0, 1) := by decide +kernel
theorem dL_law_1094 : decode cL_law 1094 = .ok (.ireturn, 1) := by decide +kernel
theorem dL_law_1095 : decode cL_law 1095 = .ok (.iload 5, 2) := by decide +kernel
theorem dL_law_1097 : decode cL_law 1097 = .ok (.ifCond .ne 15, 3) := by decide +kernel
theorem dL_law_1100 : decode cL_law 1100 = .ok (.aload_n 3, 1) := by decide +kernel
theorem dL_law_1101 : decode cL_law 1101 = .ok (.iconst 0, 1) := by decide +kernel
theorem dL_law_1102 : decode cL_law 1102 = .ok (.laload, 1) := by decide +kernel
theorem dL_law_1103 : decode cL_law 1103 = .ok (.iload 6, 2) := by decide +kernel
theorem dL_law_1105 : decode cL_law 1105 = .ok (.i2l, 1) := by decide +kernel
theorem dL_law_1106 : decode cL_law 1106 = .ok (.lcmp, 1) := by decide +kernel
theorem dL_law_1107 : decode cL_law 1107 = .ok (.ifCond .eq 5, 3) := by decide +kernel
theorem dL_law_1110 : decode cL_law 1110 = .ok (.iconst 0, 1) := by decide +kernel
theorem dL_law_1111 : decode cL_law 1111 = .ok (.ireturn, 1) := by decide +kernel
theorem dL_law_1112 : decode cL_law 1112 = .ok (.goto 439, 3) := by decide +kernel
theorem dL_law_1115 : decode cL_law 1115 = .ok (.aload_n 1, 1) := by decide +kernel
theorem dL_law_1116 : decode cL_law 1116 = .ok (.aload_n 0, 1) := by decide +kernel
theorem dL_law_1117 : decode cL_law 1117 = .ok (.iload 4, 2) := by decide +kernel
theorem dL_law_1119 : decode cL_law 1119 = .ok (.iconst 1, 1) := by decide +kernel
theorem dL_law_1120 : decode cL_law 1120 = .ok (.iadd, 1) := by decide +kernel
theorem dL_law_1121 : decode cL_law 1121 = .ok (.iaload, 1) := by decide +kernel
theorem dL_law_1122 : decode cL_law 1122 = .ok (.aload_n 3, 1) := by decide +kernel
theorem dL_law_1123 : decode cL_law 1123 = .ok (.invokestatic 147, 3) := by decide +kernel
theorem dL_law_1126 : decode cL_law 1126 = .ok (.istore 5, 2) := by decide +kernel
theorem dL_law_1128 : decode cL_law 1128 = .ok (.aload_n 2, 1) := by decide +kernel
theorem dL_law_1129 : decode cL_law 1129 = .ok (.aload_n 0, 1) := by decide +kernel
theorem dL_law_1130 : decode cL_law 1130 = .ok (.iload 4, 2) := by decide +kernel
theorem dL_law_1132 : decode cL_law 1132 = .ok (.iconst 1, 1) := by decide +kernel
theorem dL_law_1133 : decode cL_law 1133 = .ok (.iadd, 1) := by decide +kernel
theorem dL_law_1134 : decode cL_law 1134 = .ok (.iaload, 1) := by decide +kernel
theorem dL_law_1135 : decode cL_law 1135 = .ok (.invokevirtual 149, 3) := by decide +kernel
theorem dL_law_1138 : decode cL_law 1138 = .ok (.istore 6, 2) := by decide +kernel
theorem dL_law_1140 : decode cL_law 1140 = .ok (.aload_n 2, 1) := by decide +kernel
theorem dL_law_1141 : decode cL_law 1141 = .ok (.invokevirtual 87, 3) := by decide +kernel
theorem dL_law_1144 : decode cL_law 1144 = .ok (.iload 5, 2) := by decide +kernel
theorem dL_law_1146 : decode cL_law 1146 = .ok (.if_icmp .eq 5, 3) := by decide +kernel
theorem dL_law_1149 : decode cL_law 1149 = .ok (.iconst 0, 1) := by decide +kernel
theorem dL_law_1150 : decode cL_law 1150 = .ok (.ireturn, 1) := by decide +kernel
theorem dL_law_1151 : decode cL_law 1151 = .ok (.iload 5, 2) := by decide +kernel
theorem dL_law_1153 : decode cL_law 1153 = .ok (.ifCond .ne 15, 3) := by decide +kernel
theorem dL_law_1156 : decode cL_law 1156 = .ok (.aload_n 3, 1) := by decide +kernel
theorem dL_law_1157 : decode cL_law 1157 = .ok (.iconst 0, 1) := by decide +kernel
theorem dL_law_1158 : decode cL_law 1158 = .ok (.laload, 1) := by decide +kernel
theorem dL_law_1159 : decode cL_law 1159 = .ok (.iload 6, 2) := by decide +kernel
theorem dL_law_1161 : decode cL_law 1161 = .ok (.i2l, 1) := by decide +kernel
theorem dL_law_1162 : decode cL_law 1162 = .ok (.lcmp, 1) := by decide +kernel
theorem dL_law_1163 : decode cL_law 1163 = .ok (.ifCond .eq 5, 3) := by decide +kernel
theorem dL_law_1166 : decode cL_law 1166 = .ok (.iconst 0, 1) := by decide +kernel
theorem dL_law_1167 : decode cL_law 1167 = .ok (.ireturn, 1) := by decide +kernel
theorem dL_law_1168 : decode cL_law 1168 = .ok (.goto 383, 3) := by decide +kernel
theorem dL_law_1171 : decode cL_law 1171 = .ok (.aload_n 1, 1) := by decide +kernel
theorem dL_law_1172 : decode cL_law 1172 = .ok (.aload_n 0, 1) := by decide +kernel
theorem dL_law_1173 : decode cL_law 1173 = .ok (.iload 4, 2) := by decide +kernel
theorem dL_law_1175 : decode cL_law 1175 = .ok (.iconst 1, 1) := by decide +kernel
theorem dL_law_1176 : decode cL_law 1176 = .ok (.iadd, 1) := by decide +kernel
theorem dL_law_1177 : decode cL_law 1177 = .ok (.iaload, 1) := by decide +kernel
theorem dL_law_1178 : decode cL_law 1178 = .ok (.aload_n 3, 1) := by decide +kernel
theorem dL_law_1179 : decode cL_law 1179 = .ok (.invokestatic 150, 3) := by decide +kernel
theorem dL_law_1182 : decode cL_law 1182 = .ok (.istore 5, 2) := by decide +kernel
theorem dL_law_1184 : decode cL_law 1184 = .ok (.aload_n 2, 1) := by decide +kernel
theorem dL_law_1185 : decode cL_law 1185 = .ok (.aload_n 0, 1) := by decide +kernel
theorem dL_law_1186 : decode cL_law 1186 = .ok (.iload 4, 2) := by decide +kernel
theorem dL_law_1188 : decode cL_law 1188 = .ok (.iconst 1, 1) := by decide +kernel
theorem dL_law_1189 : decode cL_law 1189 = .ok (.iadd, 1) := by decide +kernel
theorem dL_law_1190 : decode cL_law 1190 = .ok (.iaload, 1) := by decide +kernel
theorem dL_law_1191 : decode cL_law 1191 = .ok (.invokevirtual 152, 3) := by decide +kernel
theorem dL_law_1194 : decode cL_law 1194 = .ok (.istore 6, 2) := by decide +kernel
theorem dL_law_1196 : decode cL_law 1196 = .ok (.aload_n 2, 1) := by decide +kernel
theorem dL_law_1197 : decode cL_law 1197 = .ok (.invokevirtual 87, 3) := by decide +kernel
theorem dL_law_1200 : decode cL_law 1200 = .ok (.iload 5, 2) := by decide +kernel
theorem dL_law_1202 : decode cL_law 1202 = .ok (.if_icmp .eq 5, 3) := by decide +kernel
theorem dL_law_1205 : decode cL_law 1205 = .ok (.iconst 0, 1) := by decide +kernel
theorem dL_law_1206 : decode cL_law 1206 = .ok (.ireturn, 1) := by decide +kernel
theorem dL_law_1207 : decode cL_law 1207 = .ok (.iload 5, 2) := by decide +kernel
theorem dL_law_1209 : decode cL_law 1209 = .ok (.ifCond .ne 15, 3) := by decide +kernel
theorem dL_law_1212 : decode cL_law 1212 = .ok (.aload_n 3, 1) := by decide +kernel
theorem dL_law_1213 : decode cL_law 1213 = .ok (.iconst 0, 1) := by decide +kernel
theorem dL_law_1214 : decode cL_law 1214 = .ok (.laload, 1) := by decide +kernel
theorem dL_law_1215 : decode cL_law 1215 = .ok (.iload 6, 2) := by decide +kernel
theorem dL_law_1217 : decode cL_law 1217 = .ok (.i2l, 1) := by decide +kernel
theorem dL_law_1218 : decode cL_law 1218 = .ok (.lcmp, 1) := by decide +kernel
theorem dL_law_1219 : decode cL_law 1219 = .ok (.ifCond .eq 5, 3) := by decide +kernel
theorem dL_law_1222 : decode cL_law 1222 = .ok (.iconst 0, 1) := by decide +kernel
theorem dL_law_1223 : decode cL_law 1223 = .ok (.ireturn, 1) := by decide +kernel
theorem dL_law_1224 : decode cL_law 1224 = .ok (.goto 327, 3) := by decide +kernel
theorem dL_law_1227 : decode cL_law 1227 = .ok (.aload_n 1, 1) := by decide +kernel
theorem dL_law_1228 : decode cL_law 1228 = .ok (.aload_n 0, 1) := by decide +kernel
theorem dL_law_1229 : decode cL_law 1229 = .ok (.iload 4, 2) := by decide +kernel
theorem dL_law_1231 : decode cL_law 1231 = .ok (.iconst 1, 1) := by decide +kernel
theorem dL_law_1232 : decode cL_law 1232 = .ok (.iadd, 1) := by decide +kernel
theorem dL_law_1233 : decode cL_law 1233 = .ok (.iaload, 1) := by decide +kernel
theorem dL_law_1234 : decode cL_law 1234 = .ok (.aload_n 3, 1) := by decide +kernel
theorem dL_law_1235 : decode cL_law 1235 = .ok (.invokestatic 153, 3) := by decide +kernel
theorem dL_law_1238 : decode cL_law 1238 = .ok (.istore 5, 2) := by decide +kernel
theorem dL_law_1240 : decode cL_law 1240 = .ok (.aload_n 2, 1) := by decide +kernel
theorem dL_law_1241 : decode cL_law 1241 = .ok (.aload_n 0, 1) := by decide +kernel
theorem dL_law_1242 : decode cL_law 1242 = .ok (.iload 4, 2) := by decide +kernel
theorem dL_law_1244 : decode cL_law 1244 = .ok (.iconst 1, 1) := by decide +kernel
theorem dL_law_1245 : decode cL_law 1245 = .ok (.iadd, 1) := by decide +kernel
theorem dL_law_1246 : decode cL_law 1246 = .ok (.iaload, 1) := by decide +kernel
theorem dL_law_1247 : decode cL_law 1247 = .ok (.invokevirtual 155, 3) := by decide +kernel
theorem dL_law_1250 : decode cL_law 1250 = .ok (.istore 6, 2) := by decide +kernel
theorem dL_law_1252 : decode cL_law 1252 = .ok (.aload_n 2, 1) := by decide +kernel
theorem dL_law_1253 : decode cL_law 1253 = .ok (.invokevirtual 87, 3) := by decide +kernel
theorem dL_law_1256 : decode cL_law 1256 = .ok (.iload 5, 2) := by decide +kernel
theorem dL_law_1258 : decode cL_law 1258 = .ok (.if_icmp .eq 5, 3) := by decide +kernel
theorem dL_law_1261 : decode cL_law 1261 = .ok (.iconst 0, 1) := by decide +kernel
theorem dL_law_1262 : decode cL_law 1262 = .ok (.ireturn, 1) := by decide +kernel
theorem dL_law_1263 : decode cL_law 1263 = .ok (.iload 5, 2) := by decide +kernel
theorem dL_law_1265 : decode cL_law 1265 = .ok (.ifCond .ne 22, 3) := by decide +kernel
theorem dL_law_1268 : decode cL_law 1268 = .ok (.aload_n 3, 1) := by decide +kernel
theorem dL_law_1269 : decode cL_law 1269 = .ok (.iconst 0, 1) := by decide +kernel
theorem dL_law_1270 : decode cL_law 1270 = .ok (.laload, 1) := by decide +kernel
theorem dL_law_1271 : decode cL_law 1271 = .ok (.iload 6, 2) := by decide +kernel
theorem dL_law_1273 : decode cL_law 1273 = .ok (.ifCond .eq 7, 3) := by decide +kernel
theorem dL_law_1276 : decode cL_law 1276 = .ok (.lconst 1, 1) := by decide +kernel
theorem dL_law_1277 : decode cL_law 1277 = .ok (.goto 4, 3) := by decide +kernel
theorem dL_law_1280 : decode cL_law 1280 = .ok (.lconst 0, 1) := by decide +kernel
theorem dL_law_1281 : decode cL_law 1281 = .ok (.lcmp, 1) := by decide +kernel
theorem dL_law_1282 : decode cL_law 1282 = .ok (.ifCond .eq 5, 3) := by decide +kernel
theorem dL_law_1285 : decode cL_law 1285 = .ok (.iconst 0, 1) := by decide +kernel
theorem dL_law_1286 : decode cL_law 1286 = .ok (.ireturn, 1) := by decide +kernel
theorem dL_law_1287 : decode cL_law 1287 = .ok (.goto 264, 3) := by decide +kernel
theorem dL_law_1290 : decode cL_law 1290 = .ok (.aload_n 1, 1) := by decide +kernel
theorem dL_law_1291 : decode cL_law 1291 = .ok (.aload_n 0, 1) := by decide +kernel
theorem dL_law_1292 : decode cL_law 1292 = .ok (.iload 4, 2) := by decide +kernel
theorem dL_law_1294 : decode cL_law 1294 = .ok (.iconst 1, 1) := by decide +kernel
theorem dL_law_1295 : decode cL_law 1295 = .ok (.iadd, 1) := by decide +kernel
theorem dL_law_1296 : decode cL_law 1296 = .ok (.iaload, 1) := by decide +kernel
theorem dL_law_1297 : decode cL_law 1297 = .ok (.aload_n 3, 1) := by decide +kernel
theorem dL_law_1298 : decode cL_law 1298 = .ok (.invokestatic 156, 3) := by decide +kernel
theorem dL_law_1301 : decode cL_law 1301 = .ok (.istore 5, 2) := by decide +kernel
theorem dL_law_1303 : decode cL_law 1303 = .ok (.aload_n 2, 1) := by decide +kernel
theorem dL_law_1304 : decode cL_law 1304 = .ok (.aload_n 0, 1) := by decide +kernel
theorem dL_law_1305 : decode cL_law 1305 = .ok (.iload 4, 2) := by decide +kernel
theorem dL_law_1307 : decode cL_law 1307 = .ok (.iconst 1, 1) := by decide +kernel
theorem dL_law_1308 : decode cL_law 1308 = .ok (.iadd, 1) := by decide +kernel
theorem dL_law_1309 : decode cL_law 1309 = .ok (.iaload, 1) := by decide +kernel
theorem dL_law_1310 : decode cL_law 1310 = .ok (.invokevirtual 158, 3) := by decide +kernel
theorem dL_law_1313 : decode cL_law 1313 = .ok (.istore 6, 2) := by decide +kernel
theorem dL_law_1315 : decode cL_law 1315 = .ok (.aload_n 2, 1) := by decide +kernel
theorem dL_law_1316 : decode cL_law 1316 = .ok (.invokevirtual 87, 3) := by decide +kernel
theorem dL_law_1319 : decode cL_law 1319 = .ok (.iload 5, 2) := by decide +kernel
theorem dL_law_1321 : decode cL_law 1321 = .ok (.if_icmp .eq 5, 3) := by decide +kernel
theorem dL_law_1324 : decode cL_law 1324 = .ok (.iconst 0, 1) := by decide +kernel
theorem dL_law_1325 : decode cL_law 1325 = .ok (.ireturn, 1) := by decide +kernel
theorem dL_law_1326 : decode cL_law 1326 = .ok (.iload 5, 2) := by decide +kernel
theorem dL_law_1328 : decode cL_law 1328 = .ok (.ifCond .ne 15, 3) := by decide +kernel
theorem dL_law_1331 : decode cL_law 1331 = .ok (.aload_n 3, 1) := by decide +kernel
theorem dL_law_1332 : decode cL_law 1332 = .ok (.iconst 0, 1) := by decide +kernel
theorem dL_law_1333 : decode cL_law 1333 = .ok (.laload, 1) := by decide +kernel
theorem dL_law_1334 : decode cL_law 1334 = .ok (.iload 6, 2) := by decide +kernel
theorem dL_law_1336 : decode cL_law 1336 = .ok (.i2l, 1) := by decide +kernel
theorem dL_law_1337 : decode cL_law 1337 = .ok (.lcmp, 1) := by decide +kernel
theorem dL_law_1338 : decode cL_law 1338 = .ok (.ifCond .eq 5, 3) := by decide +kernel
theorem dL_law_1341 : decode cL_law 1341 = .ok (.iconst 0, 1) := by decide +kernel
theorem dL_law_1342 : decode cL_law 1342 = .ok (.ireturn, 1) := by decide +kernel
theorem dL_law_1343 : decode cL_law 1343 = .ok (.goto 208, 3) := by decide +kernel
theorem dL_law_1346 : decode cL_law 1346 = .ok (.aload_n 1, 1) := by decide +kernel
theorem dL_law_1347 : decode cL_law 1347 = .ok (.aload_n 0, 1) := by decide +kernel
theorem dL_law_1348 : decode cL_law 1348 = .ok (.iload 4, 2) := by decide +kernel
theorem dL_law_1350 : decode cL_law 1350 = .ok (.iconst 1, 1) := by decide +kernel
theorem dL_law_1351 : decode cL_law 1351 = .ok (.iadd, 1) := by decide +kernel
theorem dL_law_1352 : decode cL_law 1352 = .ok (.iaload, 1) := by decide +kernel
theorem dL_law_1353 : decode cL_law 1353 = .ok (.aload_n 3, 1) := by decide +kernel
theorem dL_law_1354 : decode cL_law 1354 = .ok (.invokestatic 159, 3) := by decide +kernel
theorem dL_law_1357 : decode cL_law 1357 = .ok (.istore 5, 2) := by decide +kernel
theorem dL_law_1359 : decode cL_law 1359 = .ok (.aload_n 2, 1) := by decide +kernel
theorem dL_law_1360 : decode cL_law 1360 = .ok (.aload_n 0, 1) := by decide +kernel
theorem dL_law_1361 : decode cL_law 1361 = .ok (.iload 4, 2) := by decide +kernel
theorem dL_law_1363 : decode cL_law 1363 = .ok (.iconst 1, 1) := by decide +kernel
theorem dL_law_1364 : decode cL_law 1364 = .ok (.iadd, 1) := by decide +kernel
theorem dL_law_1365 : decode cL_law 1365 = .ok (.iaload, 1) := by decide +kernel
theorem dL_law_1366 : decode cL_law 1366 = .ok (.invokevirtual 161, 3) := by decide +kernel
theorem dL_law_1369 : decode cL_law 1369 = .ok (.istore 6, 2) := by decide +kernel
theorem dL_law_1371 : decode cL_law 1371 = .ok (.aload_n 2, 1) := by decide +kernel
theorem dL_law_1372 : decode cL_law 1372 = .ok (.invokevirtual 87, 3) := by decide +kernel
theorem dL_law_1375 : decode cL_law 1375 = .ok (.iload 5, 2) := by decide +kernel
theorem dL_law_1377 : decode cL_law 1377 = .ok (.if_icmp .eq 5, 3) := by decide +kernel
theorem dL_law_1380 : decode cL_law 1380 = .ok (.iconst 0, 1) := by decide +kernel
theorem dL_law_1381 : decode cL_law 1381 = .ok (.ireturn, 1) := by decide +kernel
theorem dL_law_1382 : decode cL_law 1382 = .ok (.iload 5, 2) := by decide +kernel
theorem dL_law_1384 : decode cL_law 1384 = .ok (.ifCond .ne 15, 3) := by decide +kernel
theorem dL_law_1387 : decode cL_law 1387 = .ok (.aload_n 3, 1) := by decide +kernel
theorem dL_law_1388 : decode cL_law 1388 = .ok (.iconst 0, 1) := by decide +kernel
theorem dL_law_1389 : decode cL_law 1389 = .ok (.laload, 1) := by decide +kernel
theorem dL_law_1390 : decode cL_law 1390 = .ok (.iload 6, 2) := by decide +kernel
theorem dL_law_1392 : decode cL_law 1392 = .ok (.i2l, 1) := by decide +kernel
theorem dL_law_1393 : decode cL_law 1393 = .ok (.lcmp, 1) := by decide +kernel
theorem dL_law_1394 : decode cL_law 1394 = .ok (.ifCond .eq 5, 3) := by decide +kernel
theorem dL_law_1397 : decode cL_law 1397 = .ok (.iconst 0, 1) := by decide +kernel
theorem dL_law_1398 : decode cL_law 1398 = .ok (.ireturn, 1) := by decide +kernel
theorem dL_law_1399 : decode cL_law 1399 = .ok (.goto 152, 3) := by decide +kernel
theorem dL_law_1402 : decode cL_law 1402 = .ok (.aload_n 1, 1) := by decide +kernel
theorem dL_law_1403 : decode cL_law 1403 = .ok (.aload_n 0, 1) := by decide +kernel
theorem dL_law_1404 : decode cL_law 1404 = .ok (.iload 4, 2) := by decide +kernel
theorem dL_law_1406 : decode cL_law 1406 = .ok (.iconst 1, 1) := by decide +kernel
theorem dL_law_1407 : decode cL_law 1407 = .ok (.iadd, 1) := by decide +kernel
theorem dL_law_1408 : decode cL_law 1408 = .ok (.iaload, 1) := by decide +kernel
theorem dL_law_1409 : decode cL_law 1409 = .ok (.aload_n 0, 1) := by decide +kernel
theorem dL_law_1410 : decode cL_law 1410 = .ok (.iload 4, 2) := by decide +kernel
theorem dL_law_1412 : decode cL_law 1412 = .ok (.iconst 2, 1) := by decide +kernel
theorem dL_law_1413 : decode cL_law 1413 = .ok (.iadd, 1) := by decide +kernel
theorem dL_law_1414 : decode cL_law 1414 = .ok (.iaload, 1) := by decide +kernel
theorem dL_law_1415 : decode cL_law 1415 = .ok (.aload_n 3, 1) := by decide +kernel
theorem dL_law_1416 : decode cL_law 1416 = .ok (.invokestatic 162, 3) := by decide +kernel
theorem dL_law_1419 : decode cL_law 1419 = .ok (.istore 5, 2) := by decide +kernel
theorem dL_law_1421 : decode cL_law 1421 = .ok (.aload_n 2, 1) := by decide +kernel
theorem dL_law_1422 : decode cL_law 1422 = .ok (.aload_n 0, 1) := by decide +kernel
theorem dL_law_1423 : decode cL_law 1423 = .ok (.iload 4, 2) := by decide +kernel
theorem dL_law_1425 : decode cL_law 1425 = .ok (.iconst 1, 1) := by decide +kernel
theorem dL_law_1426 : decode cL_law 1426 = .ok (.iadd, 1) := by decide +kernel
theorem dL_law_1427 : decode cL_law 1427 = .ok (.iaload, 1) := by decide +kernel
theorem dL_law_1428 : decode cL_law 1428 = .ok (.aload_n 0, 1) := by decide +kernel
theorem dL_law_1429 : decode cL_law 1429 = .ok (.iload 4, 2) := by decide +kernel
theorem dL_law_1431 : decode cL_law 1431 = .ok (.iconst 2, 1) := by decide +kernel
theorem dL_law_1432 : decode cL_law 1432 = .ok (.iadd, 1) := by decide +kernel
theorem dL_law_1433 : decode cL_law 1433 = .ok (.iaload, 1) := by decide +kernel
theorem dL_law_1434 : decode cL_law 1434 = .ok (.invokevirtual 164, 3) := by decide +kernel
theorem dL_law_1437 : decode cL_law 1437 = .ok (.istore 6, 2) := by decide +kernel
theorem dL_law_1439 : decode cL_law 1439 = .ok (.aload_n 2, 1) := by decide +kernel
theorem dL_law_1440 : decode cL_law 1440 = .ok (.invokevirtual 87, 3) := by decide +kernel
theorem dL_law_1443 : decode cL_law 1443 = .ok (.iload 5, 2) := by decide +kernel
theorem dL_law_1445 : decode cL_law 1445 = .ok (.if_icmp .eq 5, 3) := by decide +kernel
theorem dL_law_1448 : decode cL_law 1448 = .ok (.iconst 0, 1) := by decide +kernel
theorem dL_law_1449 : decode cL_law 1449 = .ok (.ireturn, 1) := by decide +kernel
theorem dL_law_1450 : decode cL_law 1450 = .ok (.iload 5, 2) := by decide +kernel
theorem dL_law_1452 : decode cL_law 1452 = .ok (.ifCond .ne 15, 3) := by decide +kernel
theorem dL_law_1455 : decode cL_law 1455 = .ok (.aload_n 3, 1) := by decide +kernel
theorem dL_law_1456 : decode cL_law 1456 = .ok (.iconst 0, 1) := by decide +kernel
theorem dL_law_1457 : decode cL_law 1457 = .ok (.laload, 1) := by decide +kernel
theorem dL_law_1458 : decode cL_law 1458 = .ok (.iload 6, 2) := by decide +kernel
theorem dL_law_1460 : decode cL_law 1460 = .ok (.i2l, 1) := by decide +kernel
theorem dL_law_1461 : decode cL_law 1461 = .ok (.lcmp, 1) := by decide +kernel
theorem dL_law_1462 : decode cL_law 1462 = .ok (.ifCond .eq 5, 3) := by decide +kernel
theorem dL_law_1465 : decode cL_law 1465 = .ok (.iconst 0, 1) := by decide +kernel
theorem dL_law_1466 : decode cL_law 1466 = .ok (.ireturn, 1) := by decide +kernel
theorem dL_law_1467 : decode cL_law 1467 = .ok (.goto 84, 3) := by decide +kernel
theorem dL_law_1470 : decode cL_law 1470 = .ok (.aload_n 1, 1) := by decide +kernel
theorem dL_law_1471 : decode cL_law 1471 = .ok (.aload_n 0, 1) := by decide +kernel
theorem dL_law_1472 : decode cL_law 1472 = .ok (.iload 4, 2) := by decide +kernel
theorem dL_law_1474 : decode cL_law 1474 = .ok (.iconst 1, 1) := by decide +kernel
theorem dL_law_1475 : decode cL_law 1475 = .ok (.iadd, 1) := by decide +kernel
theorem dL_law_1476 : decode cL_law 1476 = .ok (.iaload, 1) := by decide +kernel
theorem dL_law_1477 : decode cL_law 1477 = .ok (.aload_n 0, 1) := by decide +kernel
theorem dL_law_1478 : decode cL_law 1478 = .ok (.iload 4, 2) := by decide +kernel
theorem dL_law_1480 : decode cL_law 1480 = .ok (.iconst 2, 1) := by decide +kernel
theorem dL_law_1481 : decode cL_law 1481 = .ok (.iadd, 1) := by decide +kernel
theorem dL_law_1482 : decode cL_law 1482 = .ok (.iaload, 1) := by decide +kernel
theorem dL_law_1483 : decode cL_law 1483 = .ok (.aload_n 3, 1) := by decide +kernel
theorem dL_law_1484 : decode cL_law 1484 = .ok (.invokestatic 165, 3) := by decide +kernel
theorem dL_law_1487 : decode cL_law 1487 = .ok (.istore 5, 2) := by decide +kernel
theorem dL_law_1489 : decode cL_law 1489 = .ok (.aload_n 2, 1) := by decide +kernel
theorem dL_law_1490 : decode cL_law 1490 = .ok (.aload_n 0, 1) := by decide +kernel
theorem dL_law_1491 : decode cL_law 1491 = .ok (.iload 4, 2) := by decide +kernel
theorem dL_law_1493 : decode cL_law 1493 = .ok (.iconst 1, 1) := by decide +kernel
theorem dL_law_1494 : decode cL_law 1494 = .ok (.iadd, 1) := by decide +kernel
theorem dL_law_1495 : decode cL_law 1495 = .ok (.iaload, 1) := by decide +kernel
theorem dL_law_1496 : decode cL_law 1496 = .ok (.aload_n 0, 1) := by decide +kernel
theorem dL_law_1497 : decode cL_law 1497 = .ok (.iload 4, 2) := by decide +kernel
theorem dL_law_1499 : decode cL_law 1499 = .ok (.iconst 2, 1) := by decide +kernel
theorem dL_law_1500 : decode cL_law 1500 = .ok (.iadd, 1) := by decide +kernel
theorem dL_law_1501 : decode cL_law 1501 = .ok (.iaload, 1) := by decide +kernel
theorem dL_law_1502 : decode cL_law 1502 = .ok (.invokevirtual 167, 3) := by decide +kernel
theorem dL_law_1505 : decode cL_law 1505 = .ok (.istore 6, 2) := by decide +kernel
theorem dL_law_1507 : decode cL_law 1507 = .ok (.aload_n 2, 1) := by decide +kernel
theorem dL_law_1508 : decode cL_law 1508 = .ok (.invokevirtual 87, 3) := by decide +kernel
theorem dL_law_1511 : decode cL_law 1511 = .ok (.iload 5, 2) := by decide +kernel
theorem dL_law_1513 : decode cL_law 1513 = .ok (.if_icmp .eq 5, 3) := by decide +kernel
theorem dL_law_1516 : decode cL_law 1516 = .ok (.iconst 0, 1) := by decide +kernel
theorem dL_law_1517 : decode cL_law 1517 = .ok (.ireturn, 1) := by decide +kernel
theorem dL_law_1518 : decode cL_law 1518 = .ok (.iload 5, 2) := by decide +kernel
theorem dL_law_1520 : decode cL_law 1520 = .ok (.ifCond .ne 15, 3) := by decide +kernel
theorem dL_law_1523 : decode cL_law 1523 = .ok (.aload_n 3, 1) := by decide +kernel
theorem dL_law_1524 : decode cL_law 1524 = .ok (.iconst 0, 1) := by decide +kernel
theorem dL_law_1525 : decode cL_law 1525 = .ok (.laload, 1) := by decide +kernel
theorem dL_law_1526 : decode cL_law 1526 = .ok (.iload 6, 2) := by decide +kernel
theorem dL_law_1528 : decode cL_law 1528 = .ok (.i2l, 1) := by decide +kernel
theorem dL_law_1529 : decode cL_law 1529 = .ok (.lcmp, 1) := by decide +kernel
theorem dL_law_1530 : decode cL_law 1530 = .ok (.ifCond .eq 5, 3) := by decide +kernel
theorem dL_law_1533 : decode cL_law 1533 = .ok (.iconst 0, 1) := by decide +kernel
theorem dL_law_1534 : decode cL_law 1534 = .ok (.ireturn, 1) := by decide +kernel
theorem dL_law_1535 : decode cL_law 1535 = .ok (.goto 16, 3) := by decide +kernel
theorem dL_law_1538 : decode cL_law 1538 = .ok (.aload_n 1, 1) := by decide +kernel
theorem dL_law_1539 : decode cL_law 1539 = .ok (.invokevirtual 168, 3) := by decide +kernel
theorem dL_law_1542 : decode cL_law 1542 = .ok (.aload_n 2, 1) := by decide +kernel
theorem dL_law_1543 : decode cL_law 1543 = .ok (.invokevirtual 171, 3) := by decide +kernel
theorem dL_law_1546 : decode cL_law 1546 = .ok (.if_icmp .eq 5, 3) := by decide +kernel
theorem dL_law_1549 : decode cL_law 1549 = .ok (.iconst 0, 1) := by decide +kernel
theorem dL_law_1550 : decode cL_law 1550 = .ok (.ireturn, 1) := by decide +kernel
theorem dL_law_1551 : decode cL_law 1551 = .ok (.iinc 4 4, 3) := by decide +kernel
theorem dL_law_1554 : decode cL_law 1554 = .ok (.goto (-1531), 3) := by decide +kernel
theorem dL_law_1557 : decode cL_law 1557 = .ok (.iconst 1, 1) := by decide +kernel
theorem dL_law_1558 : decode cL_law 1558 = .ok (.ireturn, 1) := by decide +kernel
end
section
/-! rows of this claim's own: whole numbers as nI of naturals, methods that only read -/
theorem sx_tn (n : Nat) : (nI n).toBitVec = BitVec.ofNat 32 n := rfl
theorem sx_inj {x y : Int32} (h : x.toBitVec = y.toBitVec) : x = y := Int32.toBitVec_inj.mp h
theorem sx_sub {a b : Nat} (h : b ≤ a) : nI a - nI b = nI (a - b) := pk_sub h
theorem sx_mul (a b : Nat) : nI a * nI b = nI (a * b) := pk_mul a b
theorem sx_and (a b : Nat) : nI a &&& nI b = nI (a &&& b) := by
  apply sx_inj
  show BitVec.ofNat 32 a &&& BitVec.ofNat 32 b = BitVec.ofNat 32 (a &&& b)
  rw [BitVec.ofNat_and]
theorem sx_or (a b : Nat) : nI a ||| nI b = nI (a ||| b) := by
  apply sx_inj
  show BitVec.ofNat 32 a ||| BitVec.ofNat 32 b = BitVec.ofNat 32 (a ||| b)
  rw [BitVec.ofNat_or]
theorem sx_sm : ∀ k, k < 32 → ((nI k &&& 31).toBitVec.smod 32).toNat = k := by decide +kernel
theorem sx_shl {a k : Nat} (hk : k < 32) : nI a <<< (nI k &&& 31) = nI (a * 2 ^ k) := by
  apply sx_inj
  apply BitVec.eq_of_toNat_eq
  rw [pk_shl _ _ k (sx_sm k hk), sx_tn, sx_tn, BitVec.toNat_ofNat, BitVec.toNat_ofNat, Nat.mod_mul_mod]
theorem sx_shr {a k : Nat} (hk : k < 32) (ha : a < 2 ^ 31) : nI a >>> (nI k &&& 31) = nI (a / 2 ^ k) := pk_shrN ha _ k (sx_sm k hk)
theorem sx_ud (g : Nat → Nat) (i v : Nat) : upd (fun k => nI (g k)) i (nI v) = (fun k => nI (va_up g i v k)) := by
  funext k
  show (if k = i then nI v else nI (g k)) = nI (if k = i then v else g k)
  split <;> rfl
theorem sx_bt (b : Bool) : narrow .boolean (.int (nI b.toNat)) = .int (nI b.toNat) := by cases b <;> rfl
/-- the words on what a nest mate may reach -/
def nw_all : List Cond := [.methodLinkNest "CoverSheet" 17 ⟨"CoverSheet$Needs", "<init>", "()V"⟩ "CoverSheet", .methodLinkNest "CoverSheet" 24 ⟨"CoverSheet$Rules", "<init>", "()V"⟩ "CoverSheet", .fieldLinkNest "CoverSheet" 101 "CoverSheet$Rules" "longestRun" "I" "CoverSheet", .methodLinkNest "CoverSheet" 31 ⟨"CoverSheet$DayTable", "<init>", "()V"⟩ "CoverSheet", .methodLinkNest "CoverSheet" 38 ⟨"CoverSheet$Counting", "<init>", "()V"⟩ "CoverSheet", .methodLinkNest "CoverSheet$Counting" 1 ⟨"CoverSheet$Measure", "<init>", "()V"⟩ "CoverSheet", .methodLinkNest "CoverSheet" 45 ⟨"CoverSheet$Pricing", "<init>", "()V"⟩ "CoverSheet", .methodLinkNest "CoverSheet$Pricing" 9 ⟨"CoverSheet$Measure", "<init>", "()V"⟩ "CoverSheet", .methodLinkNest "CoverSheet" 68 ⟨"CoverSheet$Person", "<init>", "(II)V"⟩ "CoverSheet", .fieldLinkNest "CoverSheet" 204 "CoverSheet$Person" "skills" "I" "CoverSheet", .fieldLinkNest "CoverSheet$DayTable" 60 "CoverSheet$Person" "most" "I" "CoverSheet", .fieldLinkNest "CoverSheet" 128 "CoverSheet$Person" "week" "I" "CoverSheet", .fieldLinkNest "CoverSheet$DayTable" 42 "CoverSheet$Person" "lastEntry" "I" "CoverSheet", .fieldLinkNest "CoverSheet$DayTable" 30 "CoverSheet$Person" "daysInARow" "I" "CoverSheet", .fieldLinkNest "CoverSheet" 186 "CoverSheet$Person" "daysInARow" "I" "CoverSheet", .fieldLinkNest "CoverSheet$Pricing" 29 "CoverSheet$Person" "weekendShifts" "I" "CoverSheet", .fieldLinkNest "CoverSheet" 183 "CoverSheet$Person" "weekendShifts" "I" "CoverSheet"]
theorem nw_tab : ∀ w ∈ nw_all, w.onTables = true := List.forall_mem_cons.mpr ⟨rfl, List.forall_mem_cons.mpr ⟨rfl, List.forall_mem_cons.mpr ⟨rfl, List.forall_mem_cons.mpr ⟨rfl, List.forall_mem_cons.mpr ⟨rfl, List.forall_mem_cons.mpr ⟨rfl, List.forall_mem_cons.mpr ⟨rfl, List.forall_mem_cons.mpr ⟨rfl, List.forall_mem_cons.mpr ⟨rfl, List.forall_mem_cons.mpr ⟨rfl, List.forall_mem_cons.mpr ⟨rfl, List.forall_mem_cons.mpr ⟨rfl, List.forall_mem_cons.mpr ⟨rfl, List.forall_mem_cons.mpr ⟨rfl, List.forall_mem_cons.mpr ⟨rfl, List.forall_mem_cons.mpr ⟨rfl, List.forall_mem_cons.mpr ⟨rfl, fun _ h => absurd h List.not_mem_nil⟩⟩⟩⟩⟩⟩⟩⟩⟩⟩⟩⟩⟩⟩⟩⟩⟩
theorem nw_in : ∀ w ∈ nw_all, w ∈ tables_1 := by decide +kernel
theorem nw_warm {s U : State} (hW : s.WarmedH U.vm) (h : ∀ w ∈ nw_all, va_Nw w s) : ∀ w ∈ nw_all, va_Nw w U := List.forall_mem_cons.mpr ⟨va_Nw.warmM hW (h _ (List.mem_of_getElem? (i := 0) rfl)), List.forall_mem_cons.mpr ⟨va_Nw.warmM hW (h _ (List.mem_of_getElem? (i := 1) rfl)), List.forall_mem_cons.mpr ⟨va_Nw.warmF hW (h _ (List.mem_of_getElem? (i := 2) rfl)), List.forall_mem_cons.mpr ⟨va_Nw.warmM hW (h _ (List.mem_of_getElem? (i := 3) rfl)), List.forall_mem_cons.mpr ⟨va_Nw.warmM hW (h _ (List.mem_of_getElem? (i := 4) rfl)), List.forall_mem_cons.mpr ⟨va_Nw.warmM hW (h _ (List.mem_of_getElem? (i := 5) rfl)), List.forall_mem_cons.mpr ⟨va_Nw.warmM hW (h _ (List.mem_of_getElem? (i := 6) rfl)), List.forall_mem_cons.mpr ⟨va_Nw.warmM hW (h _ (List.mem_of_getElem? (i := 7) rfl)), List.forall_mem_cons.mpr ⟨va_Nw.warmM hW (h _ (List.mem_of_getElem? (i := 8) rfl)), List.forall_mem_cons.mpr ⟨va_Nw.warmF hW (h _ (List.mem_of_getElem? (i := 9) rfl)), List.forall_mem_cons.mpr ⟨va_Nw.warmF hW (h _ (List.mem_of_getElem? (i := 10) rfl)), List.forall_mem_cons.mpr ⟨va_Nw.warmF hW (h _ (List.mem_of_getElem? (i := 11) rfl)), List.forall_mem_cons.mpr ⟨va_Nw.warmF hW (h _ (List.mem_of_getElem? (i := 12) rfl)), List.forall_mem_cons.mpr ⟨va_Nw.warmF hW (h _ (List.mem_of_getElem? (i := 13) rfl)), List.forall_mem_cons.mpr ⟨va_Nw.warmF hW (h _ (List.mem_of_getElem? (i := 14) rfl)), List.forall_mem_cons.mpr ⟨va_Nw.warmF hW (h _ (List.mem_of_getElem? (i := 15) rfl)), List.forall_mem_cons.mpr ⟨va_Nw.warmF hW (h _ (List.mem_of_getElem? (i := 16) rfl)), fun _ h => absurd h List.not_mem_nil⟩⟩⟩⟩⟩⟩⟩⟩⟩⟩⟩⟩⟩⟩⟩⟩⟩
/-- the classes as they are known, the arrays' classes, the nest's words -/
def KN (D : va_G) (tys : List (ClassId × FieldType)) (U : State) : Prop := va_K D vwCl tys U ∧ ∀ w ∈ nw_all, va_Nw w U
theorem KN.warm {D : va_G} {tys : List (ClassId × FieldType)} {s U : State} (hW : s.WarmedH U.vm) (h : KN D tys s) : KN D tys U := ⟨va_K.moved hW.alike h.1, nw_warm hW h.2⟩
/-- what a method that reads needs of the machine: cells and classes -/
abbrev sx_R (D : va_G) (tys : List (ClassId × FieldType)) (ws : va_W) : State → Prop := fun U => va_P D vwCl ws U.heap ∧ KN D tys U
theorem sx_blind (av : List Value) (D : va_G) (tys : List (ClassId × FieldType)) (ws : va_W) : FrameBlind (va_Pc av (sx_R D tys ws)) := fun a U g mk q => ⟨q.1, q.2.1, va_K.moved (u := U) (U := U.calling g mk a) (Vm.Alike.refl U.vm) q.2.2.1, fun w hw => va_Nw.same (u := U) (U := U.calling g mk a) (nw_tab w hw) rfl (q.2.2.2 w hw)⟩
section SXA
variable {p : Program} {l : Launch} {e : Env} {R : Room} {s : State} {m : MethodId} {args : Array Value} {below : List Frame} {meth : Method} {c : Code} {H : Heap} {locs : List Loc} {cells slots : Nat} {Q : State → Prop}
variable {cc : ByteArray} {nL : Nat} {Ts : List Cond} {own : String} {pc : Nat} {ls : Array Slot} {rest : List Value}
theorem n_add (S : CallFix p m c cc nL s args Ts own) {a b : Nat} (d : decode cc pc = .ok (.iadd, 1)) (k : W p l e R s m args below meth c H locs cells slots Q (F0 m (pc + 1) ls (.int (nI (a + b)) :: rest))) : W p l e R s m args below meth c H locs cells slots Q (F0 m pc ls (.int (nI b) :: .int (nI a) :: rest)) := lv_iadd S.1 S.2.1 d (by rw [nI_add]; exact k)
theorem n_sub (S : CallFix p m c cc nL s args Ts own) {a b : Nat} (h : b ≤ a) (d : decode cc pc = .ok (.isub, 1)) (k : W p l e R s m args below meth c H locs cells slots Q (F0 m (pc + 1) ls (.int (nI (a - b)) :: rest))) : W p l e R s m args below meth c H locs cells slots Q (F0 m pc ls (.int (nI b) :: .int (nI a) :: rest)) := lv_isub S.1 S.2.1 d (by rw [sx_sub h]; exact k)
theorem n_mul (S : CallFix p m c cc nL s args Ts own) {a b : Nat} (d : decode cc pc = .ok (.imul, 1)) (k : W p l e R s m args below meth c H locs cells slots Q (F0 m (pc + 1) ls (.int (nI (a * b)) :: rest))) : W p l e R s m args below meth c H locs cells slots Q (F0 m pc ls (.int (nI b) :: .int (nI a) :: rest)) := lv_imul S.1 S.2.1 d (by rw [sx_mul]; exact k)
theorem n_and (S : CallFix p m c cc nL s args Ts own) {a b : Nat} (d : decode cc pc = .ok (.iand, 1)) (k : W p l e R s m args below meth c H locs cells slots Q (F0 m (pc + 1) ls (.int (nI (a &&& b)) :: rest))) : W p l e R s m args below meth c H locs cells slots Q (F0 m pc ls (.int (nI b) :: .int (nI a) :: rest)) := lv_iand S.1 S.2.1 d (by rw [sx_and]; exact k)
theorem n_or (S : CallFix p m c cc nL s args Ts own) {a b : Nat} (d : decode cc pc = .ok (.ior, 1)) (k : W p l e R s m args below meth c H locs cells slots Q (F0 m (pc + 1) ls (.int (nI (a ||| b)) :: rest))) : W p l e R s m args below meth c H locs cells slots Q (F0 m pc ls (.int (nI b) :: .int (nI a) :: rest)) := lv_ior S.1 S.2.1 d (by rw [sx_or]; exact k)
theorem n_shl (S : CallFix p m c cc nL s args Ts own) {a b : Nat} (h : b < 32) (d : decode cc pc = .ok (.ishl, 1)) (k : W p l e R s m args below meth c H locs cells slots Q (F0 m (pc + 1) ls (.int (nI (a * 2 ^ b)) :: rest))) : W p l e R s m args below meth c H locs cells slots Q (F0 m pc ls (.int (nI b) :: .int (nI a) :: rest)) := lv_ishl S.1 S.2.1 d (by rw [sx_shl h]; exact k)
theorem n_shr (S : CallFix p m c cc nL s args Ts own) {a b : Nat} (h : b < 32 ∧ a < 2 ^ 31) (d : decode cc pc = .ok (.ishr, 1)) (k : W p l e R s m args below meth c H locs cells slots Q (F0 m (pc + 1) ls (.int (nI (a / 2 ^ b)) :: rest))) : W p l e R s m args below meth c H locs cells slots Q (F0 m pc ls (.int (nI b) :: .int (nI a) :: rest)) := lv_ishr S.1 S.2.1 d (by rw [sx_shr h.1 h.2]; exact k)
/-- a computed value is written otherwise -/
theorem n_top {x y : Int32} (h : x = y) (k : W p l e R s m args below meth c H locs cells slots Q (F0 m pc ls (.int y :: rest))) : W p l e R s m args below meth c H locs cells slots Q (F0 m pc ls (.int x :: rest)) := h ▸ k
theorem n_topl {x y : Int64} (h : x = y) (k : W p l e R s m args below meth c H locs cells slots Q (F0 m pc ls (.long y :: rest))) : W p l e R s m args below meth c H locs cells slots Q (F0 m pc ls (.long x :: rest)) := h ▸ k
theorem n_topv {x y : Value} (h : x = y) (k : W p l e R s m args below meth c H locs cells slots Q (F0 m pc ls (y :: rest))) : W p l e R s m args below meth c H locs cells slots Q (F0 m pc ls (x :: rest)) := h ▸ k
theorem n_ceq (S : CallFix p m c cc nL s args Ts own) {a b tgt : Nat} {off : Int} (h : a < 2 ^ 31 ∧ b < 2 ^ 31) (d : decode cc pc = .ok (.if_icmp .eq off, 3)) (ht : (pc : Int) + off = (tgt : Int)) (kt : a = b → W p l e R s m args below meth c H locs cells slots Q (F0 m tgt ls rest)) (kf : a ≠ b → W p l e R s m args below meth c H locs cells slots Q (F0 m (pc + 3) ls rest)) : W p l e R s m args below meth c H locs cells slots Q (F0 m pc ls (.int (nI b) :: .int (nI a) :: rest)) := by
  have e1 := nI_eq h.1 h.2
  have e2 := nI_leI h.1 h.2
  have e3 := nI_ltI h.1 h.2
  have e4 := nI_leI h.2 h.1
  have e5 := nI_ltI h.2 h.1
  refine lv_icmp_eq S.1 S.2.1 d ht (fun q => kt ?_) (fun q => kf ?_) <;> first | exact e1.mp q | exact fun z => q (e1.mpr z) | exact e2.mp q | exact e3.mp q | exact e4.mp q | exact e5.mp q | exact Nat.lt_of_not_le fun z => q (e2.mpr z) | exact Nat.lt_of_not_le fun z => q (e4.mpr z) | exact Nat.le_of_not_lt fun z => q (e3.mpr z) | exact Nat.le_of_not_lt fun z => q (e5.mpr z) | exact Decidable.byContradiction fun z => q fun y => z (e1.mp y)
theorem n_cne (S : CallFix p m c cc nL s args Ts own) {a b tgt : Nat} {off : Int} (h : a < 2 ^ 31 ∧ b < 2 ^ 31) (d : decode cc pc = .ok (.if_icmp .ne off, 3)) (ht : (pc : Int) + off = (tgt : Int)) (kt : a ≠ b → W p l e R s m args below meth c H locs cells slots Q (F0 m tgt ls rest)) (kf : a = b → W p l e R s m args below meth c H locs cells slots Q (F0 m (pc + 3) ls rest)) : W p l e R s m args below meth c H locs cells slots Q (F0 m pc ls (.int (nI b) :: .int (nI a) :: rest)) := by
  have e1 := nI_eq h.1 h.2
  have e2 := nI_leI h.1 h.2
  have e3 := nI_ltI h.1 h.2
  have e4 := nI_leI h.2 h.1
  have e5 := nI_ltI h.2 h.1
  refine lv_icmp_ne S.1 S.2.1 d ht (fun q => kt ?_) (fun q => kf ?_) <;> first | exact e1.mp q | exact fun z => q (e1.mpr z) | exact e2.mp q | exact e3.mp q | exact e4.mp q | exact e5.mp q | exact Nat.lt_of_not_le fun z => q (e2.mpr z) | exact Nat.lt_of_not_le fun z => q (e4.mpr z) | exact Nat.le_of_not_lt fun z => q (e3.mpr z) | exact Nat.le_of_not_lt fun z => q (e5.mpr z) | exact Decidable.byContradiction fun z => q fun y => z (e1.mp y)
theorem n_clt (S : CallFix p m c cc nL s args Ts own) {a b tgt : Nat} {off : Int} (h : a < 2 ^ 31 ∧ b < 2 ^ 31) (d : decode cc pc = .ok (.if_icmp .lt off, 3)) (ht : (pc : Int) + off = (tgt : Int)) (kt : a < b → W p l e R s m args below meth c H locs cells slots Q (F0 m tgt ls rest)) (kf : b ≤ a → W p l e R s m args below meth c H locs cells slots Q (F0 m (pc + 3) ls rest)) : W p l e R s m args below meth c H locs cells slots Q (F0 m pc ls (.int (nI b) :: .int (nI a) :: rest)) := by
  have e1 := nI_eq h.1 h.2
  have e2 := nI_leI h.1 h.2
  have e3 := nI_ltI h.1 h.2
  have e4 := nI_leI h.2 h.1
  have e5 := nI_ltI h.2 h.1
  refine lv_icmp_lt S.1 S.2.1 d ht (fun q => kt ?_) (fun q => kf ?_) <;> first | exact e1.mp q | exact fun z => q (e1.mpr z) | exact e2.mp q | exact e3.mp q | exact e4.mp q | exact e5.mp q | exact Nat.lt_of_not_le fun z => q (e2.mpr z) | exact Nat.lt_of_not_le fun z => q (e4.mpr z) | exact Nat.le_of_not_lt fun z => q (e3.mpr z) | exact Nat.le_of_not_lt fun z => q (e5.mpr z) | exact Decidable.byContradiction fun z => q fun y => z (e1.mp y)
theorem n_cge (S : CallFix p m c cc nL s args Ts own) {a b tgt : Nat} {off : Int} (h : a < 2 ^ 31 ∧ b < 2 ^ 31) (d : decode cc pc = .ok (.if_icmp .ge off, 3)) (ht : (pc : Int) + off = (tgt : Int)) (kt : b ≤ a → W p l e R s m args below meth c H locs cells slots Q (F0 m tgt ls rest)) (kf : a < b → W p l e R s m args below meth c H locs cells slots Q (F0 m (pc + 3) ls rest)) : W p l e R s m args below meth c H locs cells slots Q (F0 m pc ls (.int (nI b) :: .int (nI a) :: rest)) := by
  have e1 := nI_eq h.1 h.2
  have e2 := nI_leI h.1 h.2
  have e3 := nI_ltI h.1 h.2
  have e4 := nI_leI h.2 h.1
  have e5 := nI_ltI h.2 h.1
  refine lv_icmp_ge S.1 S.2.1 d ht (fun q => kt ?_) (fun q => kf ?_) <;> first | exact e1.mp q | exact fun z => q (e1.mpr z) | exact e2.mp q | exact e3.mp q | exact e4.mp q | exact e5.mp q | exact Nat.lt_of_not_le fun z => q (e2.mpr z) | exact Nat.lt_of_not_le fun z => q (e4.mpr z) | exact Nat.le_of_not_lt fun z => q (e3.mpr z) | exact Nat.le_of_not_lt fun z => q (e5.mpr z) | exact Decidable.byContradiction fun z => q fun y => z (e1.mp y)
theorem n_cgt (S : CallFix p m c cc nL s args Ts own) {a b tgt : Nat} {off : Int} (h : a < 2 ^ 31 ∧ b < 2 ^ 31) (d : decode cc pc = .ok (.if_icmp .gt off, 3)) (ht : (pc : Int) + off = (tgt : Int)) (kt : b < a → W p l e R s m args below meth c H locs cells slots Q (F0 m tgt ls rest)) (kf : a ≤ b → W p l e R s m args below meth c H locs cells slots Q (F0 m (pc + 3) ls rest)) : W p l e R s m args below meth c H locs cells slots Q (F0 m pc ls (.int (nI b) :: .int (nI a) :: rest)) := by
  have e1 := nI_eq h.1 h.2
  have e2 := nI_leI h.1 h.2
  have e3 := nI_ltI h.1 h.2
  have e4 := nI_leI h.2 h.1
  have e5 := nI_ltI h.2 h.1
  refine lv_icmp_gt S.1 S.2.1 d ht (fun q => kt ?_) (fun q => kf ?_) <;> first | exact e1.mp q | exact fun z => q (e1.mpr z) | exact e2.mp q | exact e3.mp q | exact e4.mp q | exact e5.mp q | exact Nat.lt_of_not_le fun z => q (e2.mpr z) | exact Nat.lt_of_not_le fun z => q (e4.mpr z) | exact Nat.le_of_not_lt fun z => q (e3.mpr z) | exact Nat.le_of_not_lt fun z => q (e5.mpr z) | exact Decidable.byContradiction fun z => q fun y => z (e1.mp y)
theorem n_cle (S : CallFix p m c cc nL s args Ts own) {a b tgt : Nat} {off : Int} (h : a < 2 ^ 31 ∧ b < 2 ^ 31) (d : decode cc pc = .ok (.if_icmp .le off, 3)) (ht : (pc : Int) + off = (tgt : Int)) (kt : a ≤ b → W p l e R s m args below meth c H locs cells slots Q (F0 m tgt ls rest)) (kf : b < a → W p l e R s m args below meth c H locs cells slots Q (F0 m (pc + 3) ls rest)) : W p l e R s m args below meth c H locs cells slots Q (F0 m pc ls (.int (nI b) :: .int (nI a) :: rest)) := by
  have e1 := nI_eq h.1 h.2
  have e2 := nI_leI h.1 h.2
  have e3 := nI_ltI h.1 h.2
  have e4 := nI_leI h.2 h.1
  have e5 := nI_ltI h.2 h.1
  refine lv_icmp_le S.1 S.2.1 d ht (fun q => kt ?_) (fun q => kf ?_) <;> first | exact e1.mp q | exact fun z => q (e1.mpr z) | exact e2.mp q | exact e3.mp q | exact e4.mp q | exact e5.mp q | exact Nat.lt_of_not_le fun z => q (e2.mpr z) | exact Nat.lt_of_not_le fun z => q (e4.mpr z) | exact Nat.le_of_not_lt fun z => q (e3.mpr z) | exact Nat.le_of_not_lt fun z => q (e5.mpr z) | exact Decidable.byContradiction fun z => q fun y => z (e1.mp y)
theorem n_zeq (S : CallFix p m c cc nL s args Ts own) {a tgt : Nat} {off : Int} (h : a < 2 ^ 31) (d : decode cc pc = .ok (.ifCond .eq off, 3)) (ht : (pc : Int) + off = (tgt : Int)) (kt : a = 0 → W p l e R s m args below meth c H locs cells slots Q (F0 m tgt ls rest)) (kf : a ≠ 0 → W p l e R s m args below meth c H locs cells slots Q (F0 m (pc + 3) ls rest)) : W p l e R s m args below meth c H locs cells slots Q (F0 m pc ls (.int (nI a) :: rest)) := by
  have e1 : nI a = 0 ↔ a = 0 := nI_eq h (by decide)
  have e2 : nI a ≤ 0 ↔ a ≤ 0 := nI_leI h (by decide)
  have e3 : 0 < nI a ↔ 0 < a := nI_ltI (by decide) h
  refine lv_if_eq S.1 S.2.1 d ht (fun q => kt ?_) (fun q => kf ?_) <;> first | exact e1.mp q | exact fun z => q (e1.mpr z) | exact e3.mp q | exact Nat.le_zero.mp (e2.mp q) | exact Nat.eq_zero_of_not_pos fun z => q (e3.mpr z) | exact Nat.pos_of_ne_zero fun z => q (e2.mpr (Nat.le_of_eq z)) | exact Decidable.byContradiction fun z => q fun y => z (e1.mp y)
theorem n_zne (S : CallFix p m c cc nL s args Ts own) {a tgt : Nat} {off : Int} (h : a < 2 ^ 31) (d : decode cc pc = .ok (.ifCond .ne off, 3)) (ht : (pc : Int) + off = (tgt : Int)) (kt : a ≠ 0 → W p l e R s m args below meth c H locs cells slots Q (F0 m tgt ls rest)) (kf : a = 0 → W p l e R s m args below meth c H locs cells slots Q (F0 m (pc + 3) ls rest)) : W p l e R s m args below meth c H locs cells slots Q (F0 m pc ls (.int (nI a) :: rest)) := by
  have e1 : nI a = 0 ↔ a = 0 := nI_eq h (by decide)
  have e2 : nI a ≤ 0 ↔ a ≤ 0 := nI_leI h (by decide)
  have e3 : 0 < nI a ↔ 0 < a := nI_ltI (by decide) h
  refine lv_if_ne S.1 S.2.1 d ht (fun q => kt ?_) (fun q => kf ?_) <;> first | exact e1.mp q | exact fun z => q (e1.mpr z) | exact e3.mp q | exact Nat.le_zero.mp (e2.mp q) | exact Nat.eq_zero_of_not_pos fun z => q (e3.mpr z) | exact Nat.pos_of_ne_zero fun z => q (e2.mpr (Nat.le_of_eq z)) | exact Decidable.byContradiction fun z => q fun y => z (e1.mp y)
theorem n_zgt (S : CallFix p m c cc nL s args Ts own) {a tgt : Nat} {off : Int} (h : a < 2 ^ 31) (d : decode cc pc = .ok (.ifCond .gt off, 3)) (ht : (pc : Int) + off = (tgt : Int)) (kt : 0 < a → W p l e R s m args below meth c H locs cells slots Q (F0 m tgt ls rest)) (kf : a = 0 → W p l e R s m args below meth c H locs cells slots Q (F0 m (pc + 3) ls rest)) : W p l e R s m args below meth c H locs cells slots Q (F0 m pc ls (.int (nI a) :: rest)) := by
  have e1 : nI a = 0 ↔ a = 0 := nI_eq h (by decide)
  have e2 : nI a ≤ 0 ↔ a ≤ 0 := nI_leI h (by decide)
  have e3 : 0 < nI a ↔ 0 < a := nI_ltI (by decide) h
  refine lv_if_gt S.1 S.2.1 d ht (fun q => kt ?_) (fun q => kf ?_) <;> first | exact e1.mp q | exact fun z => q (e1.mpr z) | exact e3.mp q | exact Nat.le_zero.mp (e2.mp q) | exact Nat.eq_zero_of_not_pos fun z => q (e3.mpr z) | exact Nat.pos_of_ne_zero fun z => q (e2.mpr (Nat.le_of_eq z)) | exact Decidable.byContradiction fun z => q fun y => z (e1.mp y)
theorem n_zle (S : CallFix p m c cc nL s args Ts own) {a tgt : Nat} {off : Int} (h : a < 2 ^ 31) (d : decode cc pc = .ok (.ifCond .le off, 3)) (ht : (pc : Int) + off = (tgt : Int)) (kt : a = 0 → W p l e R s m args below meth c H locs cells slots Q (F0 m tgt ls rest)) (kf : 0 < a → W p l e R s m args below meth c H locs cells slots Q (F0 m (pc + 3) ls rest)) : W p l e R s m args below meth c H locs cells slots Q (F0 m pc ls (.int (nI a) :: rest)) := by
  have e1 : nI a = 0 ↔ a = 0 := nI_eq h (by decide)
  have e2 : nI a ≤ 0 ↔ a ≤ 0 := nI_leI h (by decide)
  have e3 : 0 < nI a ↔ 0 < a := nI_ltI (by decide) h
  refine lv_if_le S.1 S.2.1 d ht (fun q => kt ?_) (fun q => kf ?_) <;> first | exact e1.mp q | exact fun z => q (e1.mpr z) | exact e3.mp q | exact Nat.le_zero.mp (e2.mp q) | exact Nat.eq_zero_of_not_pos fun z => q (e3.mpr z) | exact Nat.pos_of_ne_zero fun z => q (e2.mpr (Nat.le_of_eq z)) | exact Decidable.byContradiction fun z => q fun y => z (e1.mp y)
theorem n_zlt (S : CallFix p m c cc nL s args Ts own) {a tgt : Nat} {off : Int} (h : a < 2 ^ 31) (d : decode cc pc = .ok (.ifCond .lt off, 3)) (ht : (pc : Int) + off = (tgt : Int)) (kf : W p l e R s m args below meth c H locs cells slots Q (F0 m (pc + 3) ls rest)) : W p l e R s m args below meth c H locs cells slots Q (F0 m pc ls (.int (nI a) :: rest)) := lv_if_lt S.1 S.2.1 d ht (fun q => absurd q (nI_pos h)) (fun _ => kf)
theorem n_zge (S : CallFix p m c cc nL s args Ts own) {a tgt : Nat} {off : Int} (h : a < 2 ^ 31) (d : decode cc pc = .ok (.ifCond .ge off, 3)) (ht : (pc : Int) + off = (tgt : Int)) (kt : W p l e R s m args below meth c H locs cells slots Q (F0 m tgt ls rest)) : W p l e R s m args below meth c H locs cells slots Q (F0 m pc ls (.int (nI a) :: rest)) := lv_if_ge S.1 S.2.1 d ht (fun _ => kt) (fun q => absurd (nI_pos' h) q)
theorem n_beq (S : CallFix p m c cc nL s args Ts own) {b : Bool} {tgt : Nat} {off : Int} (d : decode cc pc = .ok (.ifCond .eq off, 3)) (ht : (pc : Int) + off = (tgt : Int)) (kt : b = false → W p l e R s m args below meth c H locs cells slots Q (F0 m tgt ls rest)) (kf : b = true → W p l e R s m args below meth c H locs cells slots Q (F0 m (pc + 3) ls rest)) : W p l e R s m args below meth c H locs cells slots Q (F0 m pc ls (.int (nI b.toNat) :: rest)) := n_zeq S (by cases b <;> decide) d ht (fun q => kt (by cases b <;> simp_all)) (fun q => kf (by cases b <;> simp_all))
theorem n_bne (S : CallFix p m c cc nL s args Ts own) {b : Bool} {tgt : Nat} {off : Int} (d : decode cc pc = .ok (.ifCond .ne off, 3)) (ht : (pc : Int) + off = (tgt : Int)) (kt : b = true → W p l e R s m args below meth c H locs cells slots Q (F0 m tgt ls rest)) (kf : b = false → W p l e R s m args below meth c H locs cells slots Q (F0 m (pc + 3) ls rest)) : W p l e R s m args below meth c H locs cells slots Q (F0 m pc ls (.int (nI b.toNat) :: rest)) := n_zne S (by cases b <;> decide) d ht (fun q => kt (by cases b <;> simp_all)) (fun q => kf (by cases b <;> simp_all))
theorem rd_iret (S : CallFix p m c cc nL s args Ts own) {v w : Int32} {ty : FieldType} (hr : meth.sig.returnType = some ty) (hn : narrow ty (.int v) = .int v) (hlocks : meth.locks = false) (hv : v = w) (d : decode cc pc = .ok (.ireturn, 1)) : W p l e R s m args below meth c s.heap [] 0 0 (MQ below (vp_Si (fun r => r = w)) args s 0 0 (fun _ => False)) (F0 m pc ls [.int v]) :=
  W.zret S.1 S.2.1 hr hn (fun t ht _ => ⟨v, rfl, hv, ht⟩) (fun q h => absurd h List.not_mem_nil) d hlocks
theorem rd_lret (S : CallFix p m c cc nL s args Ts own) {v w : Int64} (hr : meth.sig.returnType = some .long) (hlocks : meth.locks = false) (hv : v = w) (d : decode cc pc = .ok (.lreturn, 1)) : W p l e R s m args below meth c s.heap [] 0 0 (MQ below (vp_Sl (fun r => r = w)) args s 0 0 (fun _ => False)) (F0 m pc ls [.long v]) :=
  W.lret S.1 S.2.1 hr (fun t ht _ => ⟨v, rfl, hv, ht⟩) (fun q h => absurd h List.not_mem_nil) d hlocks
end SXA
/-- a method that only reads: from its entry -/
theorem rd_start {l : Launch} {y : MethodName} {ws ws' : List Cond} {rm : Room} {Qc : Array Value → State → Outcome → State → Prop} {cc : ByteArray} {maxL : Nat} {ret : Option FieldType} {D : va_G} {tys : List (ClassId × FieldType)} {w0 : va_W} {av : List Value} {free : Addr → Prop} (own : String) (hy : plainName y.cls = true ∧ y.cls = own) (hw : ws = Cond.code y cc maxL ret :: ws') (hlen : (lg_sl av).length ≤ maxL)
    (body : ∀ p e s m args below meth c, CallFix p m c cc maxL s args ws own → meth.sig.returnType = ret → meth.locks = false → va_P D vwCl w0 s.heap → KN D tys s → ∀ ls : Array Slot, lv_has ls maxL (lv_args 0 av) →
      W p l e rm s m args below meth c s.heap [] 0 0 (MQ below Qc args s 0 0 free) (F0 m 0 ls [])) : Met l y ws rm (va_Pc av (sx_R D tys w0)) Qc 0 0 free := by
  refine Met.ofW (cc := cc) (maxL := maxL) (ret := ret) hy.1 hw ?_
  intro p e s m args below meth c s₁ B hml hv
  obtain ⟨hv0, hP, hK⟩ := hv
  subst hv0
  have hl := lv_entry av (n := maxL) hlen
  rw [lg_entry_eq]
  have hn := findClass_of_methodNamed B.named
  rw [hy.2] at hn
  exact body p e s m _ below meth c ⟨B.exec, B.bytes, hml, hn, atoms_spec (ws := ws) B.pre⟩ B.returns B.notSynchronized hP hK _ hl
section SXB
variable {p : Program} {l : Launch} {e : Env} {R : Room} {s : State} {m : MethodId} {args : Array Value} {below : List Frame} {meth : Method} {c : Code} {H : Heap} {locs : List Loc} {cells slots : Nat} {Q : State → Prop}
variable {cc bytes : ByteArray} {nL maxL n index : Nat} {Ts ws ws' : List Cond} {own : String} {pc : Nat} {ls : Array Slot} {st rest As : List Value} {y : MethodName} {ret : Option FieldType} {rm : Room} {D : va_G} {tys : List (ClassId × FieldType)} {wc : va_W} {lv : List (Nat × Value)}
/-- a static call of a method that only reads -/
theorem rd_callS {v : Int32} (S : CallFix p m c cc nL s args Ts own) (hM : Met l y ws rm (va_Pc As (sx_R D tys wc)) (vp_Si (fun r => r = v)) 0 0 (fun _ => False)) (hT : GoodIn Ts (va_wsS own index y ws)) (hw : ws = Cond.code y bytes maxL ret :: ws')
    (hd : y.cls ≠ "java/lang/invoke/MethodHandle" ∧ y.cls ≠ "java/lang/invoke/VarHandle" ∧ (parseMethodDescriptor y.desc).map (fun d => d.parameters.length) = some n) (hR : rm.cells = 0 ∧ rm.slots = 0 ∧ rm.frames + 1 ≤ R.frames ∧ 8 + (maxL + 11) + rm.locals ≤ R.locals)
    (hP : va_P D vwCl wc H) (hK : KN D tys s) (hl : lv_has ls nL lv) (hst : st = As.reverse ++ rest) (hn : As.length = n) (hroom : (rest.map fun v => v.category).sum ≤ 8) (hcs : cells ≤ R.cells ∧ slots ≤ R.slots) (d : decode cc pc = .ok (.invokestatic index, 3))
    (kk : W p l e R s m args below meth c H locs cells slots Q (F0 m (pc + 3) ls (.int v :: rest))) : W p l e R s m args below meth c H locs cells slots Q (F0 m pc ls st) :=
  vp_callSi (va_runS (As := As) (rest := rest) S hM (va_cwS n S.2.2.2.2 hT hw hR.1 hR.2.1 hd ⟨hR.2.2.1, hR.2.2.2⟩) ⟨sx_blind _ _ _ _, fun U hU hW => ⟨rfl, by rw [hU]; exact hP, hK.warm hW⟩⟩ rfl hn hl.1 hst (lv_room hroom) d hcs).run (fun r hr => by rw [hr]; exact kk)
theorem rd_callV {v : Int32} {C : String} {b : Nat} (S : CallFix p m c cc nL s args Ts own) (hM : Met l y ws rm (va_Pc (.ref b :: As) (sx_R D tys wc)) (vp_Si (fun r => r = v)) 0 0 (fun _ => False)) (hT : GoodIn Ts (wsV own index C y ws)) (hw : ws = Cond.code y bytes maxL ret :: ws')
    (hd : y.cls = C ∧ y.cls ≠ "java/lang/invoke/MethodHandle" ∧ y.cls ≠ "java/lang/invoke/VarHandle" ∧ (parseMethodDescriptor y.desc).map (fun d => d.parameters.length) = some n) (hR : rm.cells = 0 ∧ rm.slots = 0 ∧ rm.frames + 1 ≤ R.frames ∧ 8 + (maxL + 11) + rm.locals ≤ R.locals)
    (hP : va_P D vwCl wc H) (hK : KN D tys s) (hrecv : ∃ cell : Cell, H[b]? = some cell ∧ cell.vm.isStatics = false ∧ s.vm.findClass C = some cell.cls) (hl : lv_has ls nL lv) (hst : st = As.reverse ++ .ref b :: rest) (hn : As.length = n) (hroom : (rest.map fun v => v.category).sum ≤ 8) (hcs : cells ≤ R.cells ∧ slots ≤ R.slots) (d : decode cc pc = .ok (.invokevirtual index, 3))
    (kk : W p l e R s m args below meth c H locs cells slots Q (F0 m (pc + 3) ls (.int v :: rest))) : W p l e R s m args below meth c H locs cells slots Q (F0 m pc ls st) :=
  vp_callSi (va_runV (As := As) (rest := rest) S hM (cwV n S.2.2.2.2 hT hw hR.1 hR.2.1 hd ⟨hR.2.2.1, hR.2.2.2⟩) ⟨sx_blind _ _ _ _, hrecv, fun U hU hW => ⟨rfl, by rw [hU]; exact hP, hK.warm hW⟩⟩ rfl hn hl.1 hst (lv_room hroom) d hcs).run (fun r hr => by rw [hr]; exact kk)
/-- a static call of a method that only reads -/
theorem rd_callSl {v : Int64} (S : CallFix p m c cc nL s args Ts own) (hM : Met l y ws rm (va_Pc As (sx_R D tys wc)) (vp_Sl (fun r => r = v)) 0 0 (fun _ => False)) (hT : GoodIn Ts (va_wsS own index y ws)) (hw : ws = Cond.code y bytes maxL ret :: ws')
    (hd : y.cls ≠ "java/lang/invoke/MethodHandle" ∧ y.cls ≠ "java/lang/invoke/VarHandle" ∧ (parseMethodDescriptor y.desc).map (fun d => d.parameters.length) = some n) (hR : rm.cells = 0 ∧ rm.slots = 0 ∧ rm.frames + 1 ≤ R.frames ∧ 8 + (maxL + 11) + rm.locals ≤ R.locals)
    (hP : va_P D vwCl wc H) (hK : KN D tys s) (hl : lv_has ls nL lv) (hst : st = As.reverse ++ rest) (hn : As.length = n) (hroom : (rest.map fun v => v.category).sum ≤ 8) (hcs : cells ≤ R.cells ∧ slots ≤ R.slots) (d : decode cc pc = .ok (.invokestatic index, 3))
    (kk : W p l e R s m args below meth c H locs cells slots Q (F0 m (pc + 3) ls (.long v :: rest))) : W p l e R s m args below meth c H locs cells slots Q (F0 m pc ls st) :=
  vp_callSl (va_runS (As := As) (rest := rest) S hM (va_cwS n S.2.2.2.2 hT hw hR.1 hR.2.1 hd ⟨hR.2.2.1, hR.2.2.2⟩) ⟨sx_blind _ _ _ _, fun U hU hW => ⟨rfl, by rw [hU]; exact hP, hK.warm hW⟩⟩ rfl hn hl.1 hst (lv_room hroom) d hcs).run (fun r hr => by rw [hr]; exact kk)
theorem rd_callVl {v : Int64} {C : String} {b : Nat} (S : CallFix p m c cc nL s args Ts own) (hM : Met l y ws rm (va_Pc (.ref b :: As) (sx_R D tys wc)) (vp_Sl (fun r => r = v)) 0 0 (fun _ => False)) (hT : GoodIn Ts (wsV own index C y ws)) (hw : ws = Cond.code y bytes maxL ret :: ws')
    (hd : y.cls = C ∧ y.cls ≠ "java/lang/invoke/MethodHandle" ∧ y.cls ≠ "java/lang/invoke/VarHandle" ∧ (parseMethodDescriptor y.desc).map (fun d => d.parameters.length) = some n) (hR : rm.cells = 0 ∧ rm.slots = 0 ∧ rm.frames + 1 ≤ R.frames ∧ 8 + (maxL + 11) + rm.locals ≤ R.locals)
    (hP : va_P D vwCl wc H) (hK : KN D tys s) (hrecv : ∃ cell : Cell, H[b]? = some cell ∧ cell.vm.isStatics = false ∧ s.vm.findClass C = some cell.cls) (hl : lv_has ls nL lv) (hst : st = As.reverse ++ .ref b :: rest) (hn : As.length = n) (hroom : (rest.map fun v => v.category).sum ≤ 8) (hcs : cells ≤ R.cells ∧ slots ≤ R.slots) (d : decode cc pc = .ok (.invokevirtual index, 3))
    (kk : W p l e R s m args below meth c H locs cells slots Q (F0 m (pc + 3) ls (.long v :: rest))) : W p l e R s m args below meth c H locs cells slots Q (F0 m pc ls st) :=
  vp_callSl (va_runV (As := As) (rest := rest) S hM (cwV n S.2.2.2.2 hT hw hR.1 hR.2.1 hd ⟨hR.2.2.1, hR.2.2.2⟩) ⟨sx_blind _ _ _ _, hrecv, fun U hU hW => ⟨rfl, by rw [hU]; exact hP, hK.warm hW⟩⟩ rfl hn hl.1 hst (lv_room hroom) d hcs).run (fun r hr => by rw [hr]; exact kk)

theorem g_get (S : CallFix p m c cc nL s args Ts own) {C : String} {T : u_T} {N a : Nat} {fs : List Value} {v : Value} (q0 ci k : Nat) (hin : ∀ w ∈ u_ws C T N, w ∈ Ts) (hK : KN D tys s) (hP : va_P D vwCl wc H) (he : wc[q0]? = some (a, .inr (ci, fs))) (hc : vwCl[ci]? = some (C, T, N)) (hk : k < N) (hlink : Cond.fieldLink own index (T k).1 (T k).2.1 (T k).2.2.1 ∈ Ts) (hv : fs[k]? = some v) (d : decode cc pc = .ok (.getfield index, 3))
    (kk : W p l e R s m args below meth c H locs cells slots Q (F0 m (pc + 3) ls (v :: rest))) : W p l e R s m args below meth c H locs cells slots Q (F0 m pc ls (.ref a :: rest)) := va_get (D := D) S.1 S.2.1 S.2.2.2.2 hin S.2.2.2.1 hK.1 hP q0 he hc k hk (S.2.2.2.2 _ hlink) (fun _ h => h) hv d kk
theorem g_getN (S : CallFix p m c cc nL s args Ts own) {C : String} {T : u_T} {N a : Nat} {fs : List Value} {v : Value} (q0 ci k : Nat) (hin : ∀ w ∈ u_ws C T N, w ∈ Ts) (hK : KN D tys s) (hP : va_P D vwCl wc H) (he : wc[q0]? = some (a, .inr (ci, fs))) (hc : vwCl[ci]? = some (C, T, N)) (hk : k < N) (hlink : Cond.fieldLinkNest own index (T k).1 (T k).2.1 (T k).2.2.1 "CoverSheet" ∈ nw_all) (hv : fs[k]? = some v) (d : decode cc pc = .ok (.getfield index, 3))
    (kk : W p l e R s m args below meth c H locs cells slots Q (F0 m (pc + 3) ls (v :: rest))) : W p l e R s m args below meth c H locs cells slots Q (F0 m pc ls (.ref a :: rest)) := va_getN (D := D) S.1 S.2.1 S.2.2.2.2 hin S.2.2.2.1 hK.1 hP q0 he hc k hk (va_Nw.use rfl (hK.2 _ hlink)) (fun _ h => h) hv d kk
end SXB
/-- the three kinds of arrays -/
abbrev TY (cT : ClassId × ClassId × ClassId) : List (ClassId × FieldType) := [(cT.1, .int), (cT.2.1, .long), (cT.2.2, .object RX4)]
section SXC
variable {p : Program} {l : Launch} {e : Env} {R : Room} {s : State} {m : MethodId} {args : Array Value} {below : List Frame} {meth : Method} {c : Code} {H : Heap} {locs : List Loc} {cells slots : Nat} {Q : State → Prop}
variable {cc : ByteArray} {nL : Nat} {Ts : List Cond} {own : String} {pc : Nat} {ls : Array Slot} {rest : List Value} {D : va_G} {cT : ClassId × ClassId × ClassId} {wc : va_W}
theorem sx_in {i n : Nat} (h : i < n ∧ n < 2 ^ 31) : vp_in (nI i) n := vp_in_nI h.1 h.2
theorem g_iald (S : CallFix p m c cc nL s args Ts own) {a i n : Nat} {g : Nat → Nat} (q0 : Nat) (hK : KN D (TY cT) s) (hP : va_P D vwCl wc H) (ha : wc[q0]? = some (a, .inl (cT.1, n, .inl (fun k => nI (g k))))) (h : i < n ∧ n < 2 ^ 31) (d : decode cc pc = .ok (.iaload, 1)) (kk : W p l e R s m args below meth c H locs cells slots Q (F0 m (pc + 1) ls (.int (nI (g i)) :: rest))) : W p l e R s m args below meth c H locs cells slots Q (F0 m pc ls (.int (nI i) :: .ref a :: rest)) :=
  va_iald (D := D) S.1 S.2.1 hK.1 hP q0 0 ha rfl (sx_in h) d (by rw [nI_clamp (Nat.lt_trans h.1 h.2)]; exact kk)
theorem g_ialdR (S : CallFix p m c cc nL s args Ts own) {a i n : Nat} {g : Nat → Int32} (q0 : Nat) (hK : KN D (TY cT) s) (hP : va_P D vwCl wc H) (ha : wc[q0]? = some (a, .inl (cT.1, n, .inl g))) (h : i < n ∧ n < 2 ^ 31) (d : decode cc pc = .ok (.iaload, 1)) (kk : W p l e R s m args below meth c H locs cells slots Q (F0 m (pc + 1) ls (.int (g i) :: rest))) : W p l e R s m args below meth c H locs cells slots Q (F0 m pc ls (.int (nI i) :: .ref a :: rest)) :=
  va_iald (D := D) S.1 S.2.1 hK.1 hP q0 0 ha rfl (sx_in h) d (by rw [nI_clamp (Nat.lt_trans h.1 h.2)]; exact kk)
theorem g_lald (S : CallFix p m c cc nL s args Ts own) {a i n : Nat} {g : Nat → Int64} (q0 : Nat) (hK : KN D (TY cT) s) (hP : va_P D vwCl wc H) (ha : wc[q0]? = some (a, .inl (cT.2.1, n, .inr (.inl g)))) (h : i < n ∧ n < 2 ^ 31) (d : decode cc pc = .ok (.laload, 1)) (kk : W p l e R s m args below meth c H locs cells slots Q (F0 m (pc + 1) ls (.long (g i) :: rest))) : W p l e R s m args below meth c H locs cells slots Q (F0 m pc ls (.int (nI i) :: .ref a :: rest)) :=
  va_lald (D := D) S.1 S.2.1 hK.1 hP q0 1 ha rfl (sx_in h) d (by rw [nI_clamp (Nat.lt_trans h.1 h.2)]; exact kk)
theorem g_aald (S : CallFix p m c cc nL s args Ts own) {a i n : Nat} {g : Nat → Option Nat} (q0 : Nat) (hK : KN D (TY cT) s) (hP : va_P D vwCl wc H) (ha : wc[q0]? = some (a, .inl (cT.2.2, n, .inr (.inr (.inr (.inr g)))))) (h : i < n ∧ n < 2 ^ 31) (d : decode cc pc = .ok (.aaload, 1)) (kk : W p l e R s m args below meth c H locs cells slots Q (F0 m (pc + 1) ls (va_rf (g i) :: rest))) : W p l e R s m args below meth c H locs cells slots Q (F0 m pc ls (.int (nI i) :: .ref a :: rest)) :=
  va_aldq (D := D) S.1 S.2.1 hK.1 hP q0 2 ha rfl (sx_in h) d (by rw [nI_clamp (Nat.lt_trans h.1 h.2)]; exact kk)
theorem g_alen (S : CallFix p m c cc nL s args Ts own) {a : Nat} {cA : ClassId} {x : vp_A} {ty : FieldType} (q0 t0 : Nat) (hK : KN D (TY cT) s) (hP : va_P D vwCl wc H) (ha : wc[q0]? = some (a, .inl (cA, x))) (ht : (TY cT)[t0]? = some (cA, ty)) (d : decode cc pc = .ok (.arraylength, 1)) (kk : W p l e R s m args below meth c H locs cells slots Q (F0 m (pc + 1) ls (.int (nI x.1) :: rest))) : W p l e R s m args below meth c H locs cells slots Q (F0 m pc ls (.ref a :: rest)) :=
  va_alen (D := D) S.1 S.2.1 hK.1 hP q0 t0 ha ht rfl d kk
end SXC
theorem sx_P0 (D : va_G) (H : Heap) : va_P D vwCl [] H := fun k q h => by simp at h
end
section
/-! pure words: entries of a week, bits, what a person may have -/
def ent (w d : Nat) : Nat := w / 2 ^ (2 * (6 - d)) % 4
def bit (x k : Nat) : Nat := x / 2 ^ k % 2
def nib (x d : Nat) : Nat := x / 2 ^ (4 * d) % 16
theorem ent_and (x : Nat) : x &&& 3 = x % 4 := Nat.and_two_pow_sub_one_eq_mod x 2
theorem nib_and (x : Nat) : x &&& 15 = x % 16 := Nat.and_two_pow_sub_one_eq_mod x 4
theorem ent_lt (w d : Nat) : ent w d < 4 := Nat.mod_lt _ (by decide)
theorem nib_lt (x d : Nat) : nib x d < 16 := Nat.mod_lt _ (by decide)
theorem bit_lt (x k : Nat) : bit x k < 2 := Nat.mod_lt _ (by decide)
theorem bit_tb (x k : Nat) : x.testBit k = decide (bit x k = 1) := by
  rw [Nat.testBit_eq_decide_div_mod_eq]; rfl
theorem bit_and (x k : Nat) : x &&& 1 * 2 ^ k = 0 ↔ bit x k = 0 := by
  rw [Nat.one_mul]
  have h := bit_tb x k
  constructor
  · intro q
    have h1 : (x &&& 2 ^ k).testBit k = false := by rw [q]; exact Nat.zero_testBit k
    rw [Nat.testBit_and, Nat.testBit_two_pow_self, Bool.and_true, h] at h1
    have h2 := bit_lt x k
    have h3 : ¬ bit x k = 1 := of_decide_eq_false h1
    omega
  · intro q
    apply Nat.eq_of_testBit_eq
    intro i
    rw [Nat.testBit_and, Nat.zero_testBit, Nat.testBit_two_pow]
    by_cases e : k = i
    · subst e
      rw [h, q]; rfl
    · rw [decide_eq_false e, Bool.and_false]
/-- how many of the k days from day a on are worked -/
def shc (w a : Nat) : Nat → Nat
  | 0 => 0
  | k + 1 => shc w a k + (ent w (a + k) != 0).toNat
theorem shc_le (w a k : Nat) : shc w a k ≤ k := by
  induction k with
  | zero => exact Nat.le_refl _
  | succ k ih =>
    show shc w a k + (ent w (a + k) != 0).toNat ≤ k + 1
    have : (ent w (a + k) != 0).toNat ≤ 1 := Bool.toNat_le _
    omega
theorem shc_s {w a d : Nat} (h : a ≤ d) : shc w a (d + 1 - a) = shc w a (d - a) + (ent w d != 0).toNat := by
  rw [show d + 1 - a = (d - a) + 1 by omega]
  show shc w a (d - a) + (ent w (a + (d - a)) != 0).toNat = _
  rw [show a + (d - a) = d by omega]
theorem shc_s0 {w a d : Nat} (h : a ≤ d) (he : ent w d = 0) : shc w a (d + 1 - a) = shc w a (d - a) := by
  rw [shc_s h, he]; rfl
theorem shc_s1 {w a d : Nat} (h : a ≤ d) (he : ent w d ≠ 0) : shc w a (d + 1 - a) = shc w a (d - a) + 1 := by
  rw [shc_s h, show (ent w d != 0) = true by simp [he]]; rfl
/-- a wish is broken by this entry -/
def brk (wi d e : Nat) : Bool := e != 0 && bit wi d == 1
def brc (wi w : Nat) : Nat → Nat
  | 0 => 0
  | k + 1 => brc wi w k + (brk wi k (ent w k)).toNat
theorem brc_le (wi w k : Nat) : brc wi w k ≤ k := by
  induction k with
  | zero => exact Nat.le_refl _
  | succ k ih =>
    show brc wi w k + (brk wi k (ent w k)).toNat ≤ k + 1
    have := Bool.toNat_le (brk wi k (ent w k))
    omega
theorem brc_0 {wi w k : Nat} (h : brk wi k (ent w k) = false) : brc wi w (k + 1) = brc wi w k := by
  show brc wi w k + (brk wi k (ent w k)).toNat = _
  rw [h]; rfl
theorem brc_1 {wi w k : Nat} (h : brk wi k (ent w k) = true) : brc wi w (k + 1) = brc wi w k + 1 := by
  show brc wi w k + (brk wi k (ent w k)).toNat = _
  rw [h]; rfl
/-- left open by the skills and by what is fixed (fx d: 0 for none, else the entry and one more) -/
def may (sk : Nat) (fx : Nat → Nat) (d e : Nat) : Bool := (fx d == 0 || fx d == e + 1) && (e == 0 || bit sk e == 1)
/-- left open by the rules (bar (4 * kind + next) = 1: forbidden) -/
def alw (bar : Nat → Nat) (rn b r e : Nat) : Bool := e == 0 || (decide (r < rn) && bar (4 * b + e) == 0)
theorem fx_m1 {n : Nat} (h : n < 16) : (nI n - nI 1 = -1) ↔ n = 0 := by
  revert n; decide +kernel
theorem fx_ev {n e : Nat} (h : n < 16) (he : e < 4) : (nI n - nI 1 = nI e) ↔ n = e + 1 := by
  have key : ∀ n, n < 16 → ∀ e, e < 4 → ((nI n - nI 1 = nI e) ↔ n = e + 1) := by decide +kernel
  exact key n h e he
/-- the entry ahead of day d, and the days worked in a row ahead of it -/
def bef (w la : Nat) : Nat → Nat
  | 0 => la
  | d + 1 => ent w d
def rnb (w da : Nat) : Nat → Nat
  | 0 => da
  | d + 1 => if ent w d = 0 then 0 else rnb w da d + 1
/-- nothing is broken on day d -/
def okd (sk : Nat) (fx bar : Nat → Nat) (la da rn w d : Nat) : Bool := may sk fx d (ent w d) && alw bar rn (bef w la d) (rnb w da d) (ent w d)
def okn (sk : Nat) (fx bar : Nat → Nat) (la da rn w : Nat) : Nat → Bool
  | 0 => true
  | d + 1 => okn sk fx bar la da rn w d && okd sk fx bar la da rn w d
/-- a week is feasible -/
def feas (sk mo : Nat) (fx bar : Nat → Nat) (la da rn w : Nat) : Bool := okn sk fx bar la da rn w 7 && decide (shc w 0 7 ≤ mo)
theorem rnb_le (w da : Nat) : ∀ d, rnb w da d ≤ da + d := by
  intro d
  induction d with
  | zero => exact Nat.le_refl _
  | succ d ih =>
    show (if ent w d = 0 then 0 else rnb w da d + 1) ≤ _
    split <;> omega
theorem bef_lt {w la : Nat} (h : la < 4) : ∀ d, bef w la d < 4
  | 0 => h
  | d + 1 => ent_lt w d
theorem okn_f {sk : Nat} {fx bar : Nat → Nat} {la da rn w d : Nat} (h : okd sk fx bar la da rn w d = false) (k : Nat) : okn sk fx bar la da rn w (d + 1 + k) = false := by
  induction k with
  | zero => show (okn sk fx bar la da rn w d && okd sk fx bar la da rn w d) = false; rw [h, Bool.and_false]
  | succ k ih => show (okn sk fx bar la da rn w (d + 1 + k) && okd sk fx bar la da rn w (d + 1 + k)) = false; rw [ih, Bool.false_and]
theorem feas_f {sk mo : Nat} {fx bar : Nat → Nat} {la da rn w d : Nat} (h : okd sk fx bar la da rn w d = false) (hd : d < 7) : feas sk mo fx bar la da rn w = false := by
  have := okn_f h (6 - d)
  rw [show d + 1 + (6 - d) = 7 by omega] at this
  show (okn sk fx bar la da rn w 7 && decide (shc w 0 7 ≤ mo)) = false
  rw [this, Bool.false_and]
theorem r_t {b : Bool} (h : b = true) : nI 1 = nI b.toNat := by rw [h]; rfl
theorem r_f {b : Bool} (h : b = true → False) : nI 0 = nI b.toNat := by rw [Bool.eq_false_iff.mpr h]; rfl
end
section
theorem pd_X7_placeOf : yX7_placeOf.cls ≠ "java/lang/invoke/MethodHandle" ∧ yX7_placeOf.cls ≠ "java/lang/invoke/VarHandle" ∧ (parseMethodDescriptor yX7_placeOf.desc).map (fun d => d.parameters.length) = some 1 := by decide +kernel
set_option maxHeartbeats 4000000 in
set_option maxRecDepth 100000 in
theorem r_X7_placeOf (l : Launch) (D : va_G) (cT : ClassId × ClassId × ClassId) (d : Nat) (hd : d < 7) : Met l yX7_placeOf wsX7_placeOf ({ frames := 0, cells := 0, slots := 0, locals := 0 }) (va_Pc [.int (nI d)] (sx_R D (TY cT) [])) (vp_Si (fun r_ => r_ = (nI (2 * (6 - d))))) 0 0 (fun _ => False) := by
  refine rd_start (cc := cX7_placeOf) (maxL := 1) (ret := (some .int)) RX7 ⟨by decide +kernel, rfl⟩ rfl (Nat.le_of_ble_eq_true rfl) ?_
  intro p0 e0 s0 m0 a0 b0 t0 c0 S hr hlocks hP hK ls hl
  have hl : lv_has ls 1 [(0, .int (nI d))] := hl
  refine lv_iconst (v := (nI 2)) S.1 S.2.1 dX7_placeOf_0 (by decide) ?_
  refine lv_bipush (v := (nI 6)) S.1 S.2.1 dX7_placeOf_1 (by decide) ?_
  refine lv_iload_n S.1 S.2.1 dX7_placeOf_3 rfl (lv_at hl 0 rfl) ?_
  refine n_sub S (by omega) dX7_placeOf_4 ?_
  refine n_mul S dX7_placeOf_5 ?_
  exact rd_iret S hr rfl hlocks (rfl) dX7_placeOf_6

theorem pd_X7_at : yX7_at.cls ≠ "java/lang/invoke/MethodHandle" ∧ yX7_at.cls ≠ "java/lang/invoke/VarHandle" ∧ (parseMethodDescriptor yX7_at.desc).map (fun d => d.parameters.length) = some 2 := by decide +kernel
set_option maxHeartbeats 4000000 in
set_option maxRecDepth 100000 in
theorem r_X7_at (l : Launch) (D : va_G) (cT : ClassId × ClassId × ClassId) (w d : Nat) (hw : w < 16384) (hd : d < 7) : Met l yX7_at wsX7_at ({ frames := 1, cells := 0, slots := 0, locals := 20 }) (va_Pc [.int (nI w), .int (nI d)] (sx_R D (TY cT) [])) (vp_Si (fun r_ => r_ = (nI (ent w d)))) 0 0 (fun _ => False) := by
  refine rd_start (cc := cX7_at) (maxL := 2) (ret := (some .int)) RX7 ⟨by decide +kernel, rfl⟩ rfl (Nat.le_of_ble_eq_true rfl) ?_
  intro p0 e0 s0 m0 a0 b0 t0 c0 S hr hlocks hP hK ls hl
  have hl : lv_has ls 2 [(0, .int (nI w)), (1, .int (nI d))] := hl
  refine lv_iload_n S.1 S.2.1 dX7_at_0 rfl (lv_at hl 0 rfl) ?_
  refine lv_iload_n S.1 S.2.1 dX7_at_1 rfl (lv_at hl 1 rfl) ?_
  refine rd_callS (rest := [.int (nI w)]) S (r_X7_placeOf l D cT d (by omega)) gX7_at_X7_placeOf rfl pd_X7_placeOf ⟨rfl, rfl, Nat.le_of_ble_eq_true rfl, Nat.le_of_ble_eq_true rfl⟩ (sx_P0 D _) hK hl rfl rfl (Nat.le_of_ble_eq_true rfl) ⟨Nat.zero_le _, Nat.zero_le _⟩ dX7_at_2 ?_
  refine n_shr S (by omega) dX7_at_5 ?_
  refine lv_iconst (v := (nI 3)) S.1 S.2.1 dX7_at_6 (by decide) ?_
  refine n_and S dX7_at_7 ?_
  refine n_top (show (nI ((w / 2 ^ (2 * (6 - d))) &&& 3)) = (nI (ent w d)) from congrArg nI (ent_and _)) ?_
  exact rd_iret S hr rfl hlocks (rfl) dX7_at_8

theorem pd_X7_shiftsFrom : yX7_shiftsFrom.cls ≠ "java/lang/invoke/MethodHandle" ∧ yX7_shiftsFrom.cls ≠ "java/lang/invoke/VarHandle" ∧ (parseMethodDescriptor yX7_shiftsFrom.desc).map (fun d => d.parameters.length) = some 2 := by decide +kernel
set_option maxHeartbeats 4000000 in
set_option maxRecDepth 100000 in
theorem r_X7_shiftsFrom (l : Launch) (D : va_G) (cT : ClassId × ClassId × ClassId) (w a : Nat) (hw : w < 16384) (ha : a ≤ 7) : Met l yX7_shiftsFrom wsX7_shiftsFrom ({ frames := 2, cells := 0, slots := 0, locals := 41 }) (va_Pc [.int (nI w), .int (nI a)] (sx_R D (TY cT) [])) (vp_Si (fun r_ => r_ = (nI (shc w a (7 - a))))) 0 0 (fun _ => False) := by
  refine rd_start (cc := cX7_shiftsFrom) (maxL := 4) (ret := (some .int)) RX7 ⟨by decide +kernel, rfl⟩ rfl (Nat.le_of_ble_eq_true rfl) ?_
  intro p0 e0 s0 m0 a0 b0 t0 c0 S hr hlocks hP hK ls hl
  have hl : lv_has ls 4 [(0, .int (nI w)), (1, .int (nI a))] := hl
  refine lv_iconst (v := (nI 0)) S.1 S.2.1 dX7_shiftsFrom_0 (by decide) ?_
  refine lv_istore_n (lv' := [(2, .int (nI 0)), (0, .int (nI w)), (1, .int (nI a))]) S.1 S.2.1 dX7_shiftsFrom_1 rfl hl (by decide) rfl (fun ls hl => ?_)
  refine lv_iload_n S.1 S.2.1 dX7_shiftsFrom_2 rfl (lv_at hl 2 rfl) ?_
  refine lv_istore_n (lv' := [(3, .int (nI a)), (2, .int (nI 0)), (0, .int (nI w)), (1, .int (nI a))]) S.1 S.2.1 dX7_shiftsFrom_3 rfl hl (by decide) rfl (fun ls hl => ?_)
  have lp4 : ∀ (n : Nat) (f : Nat) (d : Nat), (a ≤ d) → (d ≤ 7) → (f = shc w a (d - a)) → (7 - d) < n → ∀ ls : Array Slot, lv_has ls 4 [(0, .int (nI w)), (1, .int (nI a)), (2, .int (nI f)), (3, .int (nI d))] → W p0 l e0 ({ frames := 2, cells := 0, slots := 0, locals := 41 } : Room) s0 m0 a0 b0 t0 c0 s0.heap [] 0 0 (MQ b0 (vp_Si (fun r_ => r_ = (nI (shc w a (7 - a))))) a0 s0 0 0 (fun _ => False)) (F0 m0 4 ls []) := by
    intro n
    induction n with
    | zero =>
      intro f d h1 h2 hf hm
      exact absurd hm (Nat.not_lt_zero _)
    | succ n ih4 =>
      intro f d h1 h2 hf hm ls hl
      refine lv_iload_n S.1 S.2.1 dX7_shiftsFrom_4 rfl (lv_at hl 3 rfl) ?_
      refine lv_bipush (v := (nI 7)) S.1 S.2.1 dX7_shiftsFrom_5 (by decide) ?_
      refine n_cge S (tgt := 27) (by omega) dX7_shiftsFrom_7 (by decide) (fun c7 => ?_) (fun c7 => ?_)
      · refine lv_iload_n S.1 S.2.1 dX7_shiftsFrom_27 rfl (lv_at hl 2 rfl) ?_
        exact rd_iret S hr rfl hlocks (by rw [hf, show d = 7 by omega]) dX7_shiftsFrom_28
      · refine lv_iload_n S.1 S.2.1 dX7_shiftsFrom_10 rfl (lv_at hl 0 rfl) ?_
        refine lv_iload_n S.1 S.2.1 dX7_shiftsFrom_11 rfl (lv_at hl 3 rfl) ?_
        refine rd_callS (rest := []) S (r_X7_at l D cT w d (by omega) (by omega)) gX7_shiftsFrom_X7_at rfl pd_X7_at ⟨rfl, rfl, Nat.le_of_ble_eq_true rfl, Nat.le_of_ble_eq_true rfl⟩ (sx_P0 D _) hK hl rfl rfl (Nat.le_of_ble_eq_true rfl) ⟨Nat.zero_le _, Nat.zero_le _⟩ dX7_shiftsFrom_12 ?_
        refine n_zeq S (tgt := 21) (Nat.lt_trans (ent_lt _ _) (by decide)) dX7_shiftsFrom_15 (by decide) (fun c15 => ?_) (fun c15 => ?_)
        · refine lv_iinc (v := (nI (d + 1))) (lv' := [(3, .int (nI (d + 1))), (0, .int (nI w)), (1, .int (nI a)), (2, .int (nI f))]) S.1 S.2.1 dX7_shiftsFrom_21 hl (k := 3) rfl (nI_1 _) (by decide) rfl (fun ls hl => ?_)
          refine lv_goto (tgt := 4) S.1 S.2.1 dX7_shiftsFrom_24 (by decide) ?_
          exact ih4 f (d + 1) (by omega) (by omega) (by first | rw [hf, shc_s0 h1 c15] | rw [hf, shc_s1 h1 c15]) (by omega) ls (lv_sub hl [1, 2, 3, 0] rfl)
        · refine lv_iinc (v := (nI (f + 1))) (lv' := [(2, .int (nI (f + 1))), (0, .int (nI w)), (1, .int (nI a)), (3, .int (nI d))]) S.1 S.2.1 dX7_shiftsFrom_18 hl (k := 2) rfl (nI_1 _) (by decide) rfl (fun ls hl => ?_)
          refine lv_iinc (v := (nI (d + 1))) (lv' := [(3, .int (nI (d + 1))), (2, .int (nI (f + 1))), (0, .int (nI w)), (1, .int (nI a))]) S.1 S.2.1 dX7_shiftsFrom_21 hl (k := 3) rfl (nI_1 _) (by decide) rfl (fun ls hl => ?_)
          refine lv_goto (tgt := 4) S.1 S.2.1 dX7_shiftsFrom_24 (by decide) ?_
          exact ih4 (f + 1) (d + 1) (by omega) (by omega) (by first | rw [hf, shc_s0 h1 c15] | rw [hf, shc_s1 h1 c15]) (by omega) ls (lv_sub hl [2, 3, 1, 0] rfl)
  exact lp4 _ 0 a (Nat.le_refl _) (ha) (by rw [Nat.sub_self]; rfl) (Nat.lt_succ_self _) ls (lv_sub hl [2, 3, 1, 0] rfl)

theorem pd_X6_pairOf : yX6_pairOf.cls ≠ "java/lang/invoke/MethodHandle" ∧ yX6_pairOf.cls ≠ "java/lang/invoke/VarHandle" ∧ (parseMethodDescriptor yX6_pairOf.desc).map (fun d => d.parameters.length) = some 2 := by decide +kernel
set_option maxHeartbeats 4000000 in
set_option maxRecDepth 100000 in
theorem r_X6_pairOf (l : Launch) (D : va_G) (cT : ClassId × ClassId × ClassId) (b e : Nat) (hb : b < 4) (he : e < 4) : Met l yX6_pairOf wsX6_pairOf ({ frames := 0, cells := 0, slots := 0, locals := 0 }) (va_Pc [.int (nI b), .int (nI e)] (sx_R D (TY cT) [])) (vp_Si (fun r_ => r_ = (nI (1 * 2 ^ (b * 4 + e))))) 0 0 (fun _ => False) := by
  refine rd_start (cc := cX6_pairOf) (maxL := 2) (ret := (some .int)) RX6 ⟨by decide +kernel, rfl⟩ rfl (Nat.le_of_ble_eq_true rfl) ?_
  intro p0 e0 s0 m0 a0 b0 t0 c0 S hr hlocks hP hK ls hl
  have hl : lv_has ls 2 [(0, .int (nI b)), (1, .int (nI e))] := hl
  refine lv_iconst (v := (nI 1)) S.1 S.2.1 dX6_pairOf_0 (by decide) ?_
  refine lv_iload_n S.1 S.2.1 dX6_pairOf_1 rfl (lv_at hl 0 rfl) ?_
  refine lv_iconst (v := (nI 4)) S.1 S.2.1 dX6_pairOf_2 (by decide) ?_
  refine n_mul S dX6_pairOf_3 ?_
  refine lv_iload_n S.1 S.2.1 dX6_pairOf_4 rfl (lv_at hl 1 rfl) ?_
  refine n_add S dX6_pairOf_5 ?_
  refine n_shl S (by omega) dX6_pairOf_6 ?_
  exact rd_iret S hr rfl hlocks (rfl) dX6_pairOf_7

theorem pd_X6_allow : yX6_allow.cls = RX6 ∧ yX6_allow.cls ≠ "java/lang/invoke/MethodHandle" ∧ yX6_allow.cls ≠ "java/lang/invoke/VarHandle" ∧ (parseMethodDescriptor yX6_allow.desc).map (fun d => d.parameters.length) = some 3 := by decide +kernel
theorem w_X6_allow_0 : Cond.fieldLink RX6 19 "CoverSheet$Rules" "longestRun" "I" ∈ wsX6_allow := by decide +kernel
theorem w_X6_allow_1 : Cond.fieldLink RX6 15 "CoverSheet$Rules" "forbidden" "I" ∈ wsX6_allow := by decide +kernel
theorem in_X6_allow_X6 : ∀ w ∈ u_ws RX6 TX6 2, w ∈ wsX6_allow := by decide +kernel
set_option maxHeartbeats 4000000 in
set_option maxRecDepth 100000 in
theorem r_X6_allow (l : Launch) (D : va_G) (cT : ClassId × ClassId × ClassId) (h0 fb rn b r e : Nat) (hb : b < 4) (he : e < 4) (hr0 : r < 2 ^ 31 ∧ rn < 2 ^ 31 ∧ fb < 2 ^ 31) : Met l yX6_allow wsX6_allow ({ frames := 1, cells := 0, slots := 0, locals := 21 }) (va_Pc [.ref h0, .int (nI b), .int (nI r), .int (nI e)] (sx_R D (TY cT) [(h0, .inr (5, [.int (nI fb), .int (nI rn)]))])) (vp_Si (fun r_ => r_ = (nI (alw (bit fb) rn b r e).toNat))) 0 0 (fun _ => False) := by
  refine rd_start (cc := cX6_allow) (maxL := 4) (ret := (some .boolean)) RX6 ⟨by decide +kernel, rfl⟩ rfl (Nat.le_of_ble_eq_true rfl) ?_
  intro p0 e0 s0 m0 a0 b0 t0 c0 S hr hlocks hP hK ls hl
  have hl : lv_has ls 4 [(0, .ref h0), (1, .int (nI b)), (2, .int (nI r)), (3, .int (nI e))] := hl
  refine lv_iload_n S.1 S.2.1 dX6_allow_0 rfl (lv_at hl 3 rfl) ?_
  refine n_zeq S (tgt := 25) (by omega) dX6_allow_1 (by decide) (fun c1 => ?_) (fun c1 => ?_)
  · refine lv_iconst (v := (nI 1)) S.1 S.2.1 dX6_allow_25 (by decide) ?_
    refine lv_goto (tgt := 30) S.1 S.2.1 dX6_allow_26 (by decide) ?_
    exact rd_iret S hr (by decide) hlocks (by (try rw [bit_and, Nat.mul_comm b 4] at c22); (try rw [Ne, bit_and, Nat.mul_comm b 4] at c22); exact r_t (by simp only [alw, Bool.or_eq_true, Bool.and_eq_true, decide_eq_true_eq, beq_iff_eq, bne_iff_ne, Bool.not_eq_true]; omega)) dX6_allow_30
  · refine lv_iload_n S.1 S.2.1 dX6_allow_4 rfl (lv_at hl 2 rfl) ?_
    refine lv_aload_n S.1 S.2.1 dX6_allow_5 rfl (lv_at hl 0 rfl) ?_
    refine g_get (C := RX6) (T := TX6) (N := 2) (v := .int (nI rn)) S 0 5 1 in_X6_allow_X6 hK hP rfl rfl (by decide) w_X6_allow_0 rfl dX6_allow_6 ?_
    refine n_cge S (tgt := 29) (by omega) dX6_allow_9 (by decide) (fun c9 => ?_) (fun c9 => ?_)
    · refine lv_iconst (v := (nI 0)) S.1 S.2.1 dX6_allow_29 (by decide) ?_
      exact rd_iret S hr (by decide) hlocks (by (try rw [bit_and, Nat.mul_comm b 4] at c22); (try rw [Ne, bit_and, Nat.mul_comm b 4] at c22); exact r_f (fun h => by simp only [alw, Bool.or_eq_true, Bool.and_eq_true, decide_eq_true_eq, beq_iff_eq, bne_iff_ne, Bool.not_eq_true] at h; omega)) dX6_allow_30
    · refine lv_aload_n S.1 S.2.1 dX6_allow_12 rfl (lv_at hl 0 rfl) ?_
      refine g_get (C := RX6) (T := TX6) (N := 2) (v := .int (nI fb)) S 0 5 0 in_X6_allow_X6 hK hP rfl rfl (by decide) w_X6_allow_1 rfl dX6_allow_13 ?_
      refine lv_iload_n S.1 S.2.1 dX6_allow_16 rfl (lv_at hl 1 rfl) ?_
      refine lv_iload_n S.1 S.2.1 dX6_allow_17 rfl (lv_at hl 3 rfl) ?_
      refine rd_callS (rest := [.int (nI fb)]) S (r_X6_pairOf l D cT b e (by omega) (by omega)) gX6_allow_X6_pairOf rfl pd_X6_pairOf ⟨rfl, rfl, Nat.le_of_ble_eq_true rfl, Nat.le_of_ble_eq_true rfl⟩ (sx_P0 D _) hK hl rfl rfl (Nat.le_of_ble_eq_true rfl) ⟨Nat.zero_le _, Nat.zero_le _⟩ dX6_allow_18 ?_
      refine n_and S dX6_allow_21 ?_
      refine n_zne S (tgt := 29) (Nat.lt_of_le_of_lt Nat.and_le_left (by omega)) dX6_allow_22 (by decide) (fun c22 => ?_) (fun c22 => ?_)
      · refine lv_iconst (v := (nI 0)) S.1 S.2.1 dX6_allow_29 (by decide) ?_
        exact rd_iret S hr (by decide) hlocks (by (try rw [bit_and, Nat.mul_comm b 4] at c22); (try rw [Ne, bit_and, Nat.mul_comm b 4] at c22); exact r_f (fun h => by simp only [alw, Bool.or_eq_true, Bool.and_eq_true, decide_eq_true_eq, beq_iff_eq, bne_iff_ne, Bool.not_eq_true] at h; omega)) dX6_allow_30
      · refine lv_iconst (v := (nI 1)) S.1 S.2.1 dX6_allow_25 (by decide) ?_
        refine lv_goto (tgt := 30) S.1 S.2.1 dX6_allow_26 (by decide) ?_
        exact rd_iret S hr (by decide) hlocks (by (try rw [bit_and, Nat.mul_comm b 4] at c22); (try rw [Ne, bit_and, Nat.mul_comm b 4] at c22); exact r_t (by simp only [alw, Bool.or_eq_true, Bool.and_eq_true, decide_eq_true_eq, beq_iff_eq, bne_iff_ne, Bool.not_eq_true]; omega)) dX6_allow_30

theorem pd_X4_fixedAt : yX4_fixedAt.cls = RX4 ∧ yX4_fixedAt.cls ≠ "java/lang/invoke/MethodHandle" ∧ yX4_fixedAt.cls ≠ "java/lang/invoke/VarHandle" ∧ (parseMethodDescriptor yX4_fixedAt.desc).map (fun d => d.parameters.length) = some 1 := by decide +kernel
theorem w_X4_fixedAt_0 : Cond.fieldLink RX4 34 "CoverSheet$Person" "fixed" "I" ∈ wsX4_fixedAt := by decide +kernel
theorem in_X4_fixedAt_X4 : ∀ w ∈ u_ws RX4 TX4 8, w ∈ wsX4_fixedAt := by decide +kernel
set_option maxHeartbeats 4000000 in
set_option maxRecDepth 100000 in
theorem r_X4_fixedAt (l : Launch) (D : va_G) (cT : ClassId × ClassId × ClassId) (h0 sk mo wk fx wi la da we d : Nat) (hd : d < 7) (hx : fx < 2 ^ 28) : Met l yX4_fixedAt wsX4_fixedAt ({ frames := 0, cells := 0, slots := 0, locals := 0 }) (va_Pc [.ref h0, .int (nI d)] (sx_R D (TY cT) [(h0, .inr (3, [.int (nI sk), .int (nI mo), .int (nI wk), .int (nI fx), .int (nI wi), .int (nI la), .int (nI da), .int (nI we)]))])) (vp_Si (fun r_ => r_ = (nI (nib fx d) - nI 1))) 0 0 (fun _ => False) := by
  refine rd_start (cc := cX4_fixedAt) (maxL := 2) (ret := (some .int)) RX4 ⟨by decide +kernel, rfl⟩ rfl (Nat.le_of_ble_eq_true rfl) ?_
  intro p0 e0 s0 m0 a0 b0 t0 c0 S hr hlocks hP hK ls hl
  have hl : lv_has ls 2 [(0, .ref h0), (1, .int (nI d))] := hl
  refine lv_aload_n S.1 S.2.1 dX4_fixedAt_0 rfl (lv_at hl 0 rfl) ?_
  refine g_get (C := RX4) (T := TX4) (N := 8) (v := .int (nI fx)) S 0 3 3 in_X4_fixedAt_X4 hK hP rfl rfl (by decide) w_X4_fixedAt_0 rfl dX4_fixedAt_1 ?_
  refine lv_iconst (v := (nI 4)) S.1 S.2.1 dX4_fixedAt_4 (by decide) ?_
  refine lv_iload_n S.1 S.2.1 dX4_fixedAt_5 rfl (lv_at hl 1 rfl) ?_
  refine n_mul S dX4_fixedAt_6 ?_
  refine n_shr S (by omega) dX4_fixedAt_7 ?_
  refine lv_bipush (v := (nI 15)) S.1 S.2.1 dX4_fixedAt_8 (by decide) ?_
  refine n_and S dX4_fixedAt_10 ?_
  refine n_top (show (nI ((fx / 2 ^ (4 * d)) &&& 15)) = (nI (nib fx d)) from congrArg nI (nib_and _)) ?_
  refine lv_iconst (v := (nI 1)) S.1 S.2.1 dX4_fixedAt_11 (by decide) ?_
  refine lv_isub S.1 S.2.1 dX4_fixedAt_12 ?_
  exact rd_iret S hr rfl hlocks (rfl) dX4_fixedAt_13

theorem pd_X4_mayHave : yX4_mayHave.cls = RX4 ∧ yX4_mayHave.cls ≠ "java/lang/invoke/MethodHandle" ∧ yX4_mayHave.cls ≠ "java/lang/invoke/VarHandle" ∧ (parseMethodDescriptor yX4_mayHave.desc).map (fun d => d.parameters.length) = some 2 := by decide +kernel
theorem w_X4_mayHave_0 : Cond.fieldLink RX4 9 "CoverSheet$Person" "skills" "I" ∈ wsX4_mayHave := by decide +kernel
theorem in_X4_mayHave_X4 : ∀ w ∈ u_ws RX4 TX4 8, w ∈ wsX4_mayHave := by decide +kernel
set_option maxHeartbeats 4000000 in
set_option maxRecDepth 100000 in
theorem r_X4_mayHave (l : Launch) (D : va_G) (cT : ClassId × ClassId × ClassId) (h0 sk mo wk fx wi la da we d e : Nat) (hd : d < 7) (he : e < 4) (hx : fx < 2 ^ 28) (hs : sk < 16) : Met l yX4_mayHave wsX4_mayHave ({ frames := 1, cells := 0, slots := 0, locals := 21 }) (va_Pc [.ref h0, .int (nI d), .int (nI e)] (sx_R D (TY cT) [(h0, .inr (3, [.int (nI sk), .int (nI mo), .int (nI wk), .int (nI fx), .int (nI wi), .int (nI la), .int (nI da), .int (nI we)]))])) (vp_Si (fun r_ => r_ = (nI (may sk (nib fx) d e).toNat))) 0 0 (fun _ => False) := by
  refine rd_start (cc := cX4_mayHave) (maxL := 4) (ret := (some .boolean)) RX4 ⟨by decide +kernel, rfl⟩ rfl (Nat.le_of_ble_eq_true rfl) ?_
  intro p0 e0 s0 m0 a0 b0 t0 c0 S hr hlocks hP hK ls hl
  have hl : lv_has ls 4 [(0, .ref h0), (1, .int (nI d)), (2, .int (nI e))] := hl
  refine lv_aload_n S.1 S.2.1 dX4_mayHave_0 rfl (lv_at hl 0 rfl) ?_
  refine lv_iload_n S.1 S.2.1 dX4_mayHave_1 rfl (lv_at hl 1 rfl) ?_
  refine rd_callV (rest := []) S (r_X4_fixedAt l D cT h0 sk mo wk fx wi la da we d (by omega) (by omega)) gX4_mayHave_X4_fixedAt rfl pd_X4_fixedAt ⟨rfl, rfl, Nat.le_of_ble_eq_true rfl, Nat.le_of_ble_eq_true rfl⟩ hP hK (va_recv hK.1 hP (ci := 3) (q0 := 0) rfl rfl) hl rfl rfl (Nat.le_of_ble_eq_true rfl) ⟨Nat.zero_le _, Nat.zero_le _⟩ dX4_mayHave_2 ?_
  refine lv_istore_n (lv' := [(3, .int (nI (nib fx d) - nI 1)), (0, .ref h0), (1, .int (nI d)), (2, .int (nI e))]) S.1 S.2.1 dX4_mayHave_5 rfl hl (by decide) rfl (fun ls hl => ?_)
  refine lv_iload_n S.1 S.2.1 dX4_mayHave_6 rfl (lv_at hl 0 rfl) ?_
  refine lv_iconst (v := (-1)) S.1 S.2.1 dX4_mayHave_7 (by decide) ?_
  refine lv_icmp_eq (tgt := 16) S.1 S.2.1 dX4_mayHave_8 (by decide) (fun c8 => ?_) (fun c8 => ?_)
  · refine lv_iload_n S.1 S.2.1 dX4_mayHave_16 rfl (lv_at hl 3 rfl) ?_
    refine n_zeq S (tgt := 31) (by omega) dX4_mayHave_17 (by decide) (fun c17 => ?_) (fun c17 => ?_)
    · refine lv_iconst (v := (nI 1)) S.1 S.2.1 dX4_mayHave_31 (by decide) ?_
      refine lv_goto (tgt := 36) S.1 S.2.1 dX4_mayHave_32 (by decide) ?_
      exact rd_iret S hr (by decide) hlocks (by (try rw [fx_m1 (nib_lt _ _)] at c8); (try rw [fx_ev (nib_lt _ _) he] at c13); (try rw [bit_and] at c28); (try rw [Ne, bit_and] at c28); have hb := bit_lt sk e; exact r_t (by simp only [may, Bool.or_eq_true, Bool.and_eq_true, decide_eq_true_eq, beq_iff_eq, bne_iff_ne, Bool.not_eq_true]; omega)) dX4_mayHave_36
    · refine lv_aload_n S.1 S.2.1 dX4_mayHave_20 rfl (lv_at hl 1 rfl) ?_
      refine g_get (C := RX4) (T := TX4) (N := 8) (v := .int (nI sk)) S 0 3 0 in_X4_mayHave_X4 hK hP rfl rfl (by decide) w_X4_mayHave_0 rfl dX4_mayHave_21 ?_
      refine lv_iconst (v := (nI 1)) S.1 S.2.1 dX4_mayHave_24 (by decide) ?_
      refine lv_iload_n S.1 S.2.1 dX4_mayHave_25 rfl (lv_at hl 3 rfl) ?_
      refine n_shl S (by omega) dX4_mayHave_26 ?_
      refine n_and S dX4_mayHave_27 ?_
      refine n_zeq S (tgt := 35) (Nat.lt_of_le_of_lt Nat.and_le_left (by omega)) dX4_mayHave_28 (by decide) (fun c28 => ?_) (fun c28 => ?_)
      · refine lv_iconst (v := (nI 0)) S.1 S.2.1 dX4_mayHave_35 (by decide) ?_
        exact rd_iret S hr (by decide) hlocks (by (try rw [fx_m1 (nib_lt _ _)] at c8); (try rw [fx_ev (nib_lt _ _) he] at c13); (try rw [bit_and] at c28); (try rw [Ne, bit_and] at c28); have hb := bit_lt sk e; exact r_f (fun h => by simp only [may, Bool.or_eq_true, Bool.and_eq_true, decide_eq_true_eq, beq_iff_eq, bne_iff_ne, Bool.not_eq_true] at h; omega)) dX4_mayHave_36
      · refine lv_iconst (v := (nI 1)) S.1 S.2.1 dX4_mayHave_31 (by decide) ?_
        refine lv_goto (tgt := 36) S.1 S.2.1 dX4_mayHave_32 (by decide) ?_
        exact rd_iret S hr (by decide) hlocks (by (try rw [fx_m1 (nib_lt _ _)] at c8); (try rw [fx_ev (nib_lt _ _) he] at c13); (try rw [bit_and] at c28); (try rw [Ne, bit_and] at c28); have hb := bit_lt sk e; exact r_t (by simp only [may, Bool.or_eq_true, Bool.and_eq_true, decide_eq_true_eq, beq_iff_eq, bne_iff_ne, Bool.not_eq_true]; omega)) dX4_mayHave_36
  · refine lv_iload_n S.1 S.2.1 dX4_mayHave_11 rfl (lv_at hl 0 rfl) ?_
    refine lv_iload_n S.1 S.2.1 dX4_mayHave_12 rfl (lv_at hl 3 rfl) ?_
    refine lv_icmp_ne (tgt := 35) S.1 S.2.1 dX4_mayHave_13 (by decide) (fun c13 => ?_) (fun c13 => ?_)
    · refine lv_iconst (v := (nI 0)) S.1 S.2.1 dX4_mayHave_35 (by decide) ?_
      exact rd_iret S hr (by decide) hlocks (by (try rw [fx_m1 (nib_lt _ _)] at c8); (try rw [fx_ev (nib_lt _ _) he] at c13); (try rw [bit_and] at c28); (try rw [Ne, bit_and] at c28); have hb := bit_lt sk e; exact r_f (fun h => by simp only [may, Bool.or_eq_true, Bool.and_eq_true, decide_eq_true_eq, beq_iff_eq, bne_iff_ne, Bool.not_eq_true] at h; omega)) dX4_mayHave_36
    · refine lv_iload_n S.1 S.2.1 dX4_mayHave_16 rfl (lv_at hl 3 rfl) ?_
      refine n_zeq S (tgt := 31) (by omega) dX4_mayHave_17 (by decide) (fun c17 => ?_) (fun c17 => ?_)
      · refine lv_iconst (v := (nI 1)) S.1 S.2.1 dX4_mayHave_31 (by decide) ?_
        refine lv_goto (tgt := 36) S.1 S.2.1 dX4_mayHave_32 (by decide) ?_
        exact rd_iret S hr (by decide) hlocks (by (try rw [fx_m1 (nib_lt _ _)] at c8); (try rw [fx_ev (nib_lt _ _) he] at c13); (try rw [bit_and] at c28); (try rw [Ne, bit_and] at c28); have hb := bit_lt sk e; exact r_t (by simp only [may, Bool.or_eq_true, Bool.and_eq_true, decide_eq_true_eq, beq_iff_eq, bne_iff_ne, Bool.not_eq_true]; omega)) dX4_mayHave_36
      · refine lv_aload_n S.1 S.2.1 dX4_mayHave_20 rfl (lv_at hl 1 rfl) ?_
        refine g_get (C := RX4) (T := TX4) (N := 8) (v := .int (nI sk)) S 0 3 0 in_X4_mayHave_X4 hK hP rfl rfl (by decide) w_X4_mayHave_0 rfl dX4_mayHave_21 ?_
        refine lv_iconst (v := (nI 1)) S.1 S.2.1 dX4_mayHave_24 (by decide) ?_
        refine lv_iload_n S.1 S.2.1 dX4_mayHave_25 rfl (lv_at hl 3 rfl) ?_
        refine n_shl S (by omega) dX4_mayHave_26 ?_
        refine n_and S dX4_mayHave_27 ?_
        refine n_zeq S (tgt := 35) (Nat.lt_of_le_of_lt Nat.and_le_left (by omega)) dX4_mayHave_28 (by decide) (fun c28 => ?_) (fun c28 => ?_)
        · refine lv_iconst (v := (nI 0)) S.1 S.2.1 dX4_mayHave_35 (by decide) ?_
          exact rd_iret S hr (by decide) hlocks (by (try rw [fx_m1 (nib_lt _ _)] at c8); (try rw [fx_ev (nib_lt _ _) he] at c13); (try rw [bit_and] at c28); (try rw [Ne, bit_and] at c28); have hb := bit_lt sk e; exact r_f (fun h => by simp only [may, Bool.or_eq_true, Bool.and_eq_true, decide_eq_true_eq, beq_iff_eq, bne_iff_ne, Bool.not_eq_true] at h; omega)) dX4_mayHave_36
        · refine lv_iconst (v := (nI 1)) S.1 S.2.1 dX4_mayHave_31 (by decide) ?_
          refine lv_goto (tgt := 36) S.1 S.2.1 dX4_mayHave_32 (by decide) ?_
          exact rd_iret S hr (by decide) hlocks (by (try rw [fx_m1 (nib_lt _ _)] at c8); (try rw [fx_ev (nib_lt _ _) he] at c13); (try rw [bit_and] at c28); (try rw [Ne, bit_and] at c28); have hb := bit_lt sk e; exact r_t (by simp only [may, Bool.or_eq_true, Bool.and_eq_true, decide_eq_true_eq, beq_iff_eq, bne_iff_ne, Bool.not_eq_true]; omega)) dX4_mayHave_36

theorem pd_X4_breaksWish : yX4_breaksWish.cls = RX4 ∧ yX4_breaksWish.cls ≠ "java/lang/invoke/MethodHandle" ∧ yX4_breaksWish.cls ≠ "java/lang/invoke/VarHandle" ∧ (parseMethodDescriptor yX4_breaksWish.desc).map (fun d => d.parameters.length) = some 2 := by decide +kernel
theorem w_X4_breaksWish_0 : Cond.fieldLink RX4 18 "CoverSheet$Person" "wishes" "I" ∈ wsX4_breaksWish := by decide +kernel
theorem in_X4_breaksWish_X4 : ∀ w ∈ u_ws RX4 TX4 8, w ∈ wsX4_breaksWish := by decide +kernel
set_option maxHeartbeats 4000000 in
set_option maxRecDepth 100000 in
theorem r_X4_breaksWish (l : Launch) (D : va_G) (cT : ClassId × ClassId × ClassId) (h0 sk mo wk fx wi la da we d e : Nat) (hd : d < 7) (he : e < 4) (hs : wi < 128) : Met l yX4_breaksWish wsX4_breaksWish ({ frames := 0, cells := 0, slots := 0, locals := 0 }) (va_Pc [.ref h0, .int (nI d), .int (nI e)] (sx_R D (TY cT) [(h0, .inr (3, [.int (nI sk), .int (nI mo), .int (nI wk), .int (nI fx), .int (nI wi), .int (nI la), .int (nI da), .int (nI we)]))])) (vp_Si (fun r_ => r_ = (nI (brk wi d e).toNat))) 0 0 (fun _ => False) := by
  refine rd_start (cc := cX4_breaksWish) (maxL := 3) (ret := (some .boolean)) RX4 ⟨by decide +kernel, rfl⟩ rfl (Nat.le_of_ble_eq_true rfl) ?_
  intro p0 e0 s0 m0 a0 b0 t0 c0 S hr hlocks hP hK ls hl
  have hl : lv_has ls 3 [(0, .ref h0), (1, .int (nI d)), (2, .int (nI e))] := hl
  refine lv_iload_n S.1 S.2.1 dX4_breaksWish_0 rfl (lv_at hl 2 rfl) ?_
  refine n_zeq S (tgt := 19) (by omega) dX4_breaksWish_1 (by decide) (fun c1 => ?_) (fun c1 => ?_)
  · refine lv_iconst (v := (nI 0)) S.1 S.2.1 dX4_breaksWish_19 (by decide) ?_
    exact rd_iret S hr (by decide) hlocks (by (try rw [bit_and] at c12); (try rw [Ne, bit_and] at c12); have hb := bit_lt wi d; exact r_f (fun h => by simp only [brk, Bool.or_eq_true, Bool.and_eq_true, decide_eq_true_eq, beq_iff_eq, bne_iff_ne, Bool.not_eq_true] at h; omega)) dX4_breaksWish_20
  · refine lv_aload_n S.1 S.2.1 dX4_breaksWish_4 rfl (lv_at hl 0 rfl) ?_
    refine g_get (C := RX4) (T := TX4) (N := 8) (v := .int (nI wi)) S 0 3 4 in_X4_breaksWish_X4 hK hP rfl rfl (by decide) w_X4_breaksWish_0 rfl dX4_breaksWish_5 ?_
    refine lv_iconst (v := (nI 1)) S.1 S.2.1 dX4_breaksWish_8 (by decide) ?_
    refine lv_iload_n S.1 S.2.1 dX4_breaksWish_9 rfl (lv_at hl 1 rfl) ?_
    refine n_shl S (by omega) dX4_breaksWish_10 ?_
    refine n_and S dX4_breaksWish_11 ?_
    refine n_zeq S (tgt := 19) (Nat.lt_of_le_of_lt Nat.and_le_left (by omega)) dX4_breaksWish_12 (by decide) (fun c12 => ?_) (fun c12 => ?_)
    · refine lv_iconst (v := (nI 0)) S.1 S.2.1 dX4_breaksWish_19 (by decide) ?_
      exact rd_iret S hr (by decide) hlocks (by (try rw [bit_and] at c12); (try rw [Ne, bit_and] at c12); have hb := bit_lt wi d; exact r_f (fun h => by simp only [brk, Bool.or_eq_true, Bool.and_eq_true, decide_eq_true_eq, beq_iff_eq, bne_iff_ne, Bool.not_eq_true] at h; omega)) dX4_breaksWish_20
    · refine lv_iconst (v := (nI 1)) S.1 S.2.1 dX4_breaksWish_15 (by decide) ?_
      refine lv_goto (tgt := 20) S.1 S.2.1 dX4_breaksWish_16 (by decide) ?_
      exact rd_iret S hr (by decide) hlocks (by (try rw [bit_and] at c12); (try rw [Ne, bit_and] at c12); have hb := bit_lt wi d; exact r_t (by simp only [brk, Bool.or_eq_true, Bool.and_eq_true, decide_eq_true_eq, beq_iff_eq, bne_iff_ne, Bool.not_eq_true]; omega)) dX4_breaksWish_20

theorem pd_X4_brokenWishes : yX4_brokenWishes.cls = RX4 ∧ yX4_brokenWishes.cls ≠ "java/lang/invoke/MethodHandle" ∧ yX4_brokenWishes.cls ≠ "java/lang/invoke/VarHandle" ∧ (parseMethodDescriptor yX4_brokenWishes.desc).map (fun d => d.parameters.length) = some 0 := by decide +kernel
theorem w_X4_brokenWishes_0 : Cond.fieldLink RX4 21 "CoverSheet$Person" "week" "I" ∈ wsX4_brokenWishes := by decide +kernel
theorem in_X4_brokenWishes_X4 : ∀ w ∈ u_ws RX4 TX4 8, w ∈ wsX4_brokenWishes := by decide +kernel
set_option maxHeartbeats 4000000 in
set_option maxRecDepth 100000 in
theorem r_X4_brokenWishes (l : Launch) (D : va_G) (cT : ClassId × ClassId × ClassId) (h0 sk mo wk fx wi la da we : Nat) (hw : wk < 16384) (hs : wi < 128) : Met l yX4_brokenWishes wsX4_brokenWishes ({ frames := 2, cells := 0, slots := 0, locals := 41 }) (va_Pc [.ref h0] (sx_R D (TY cT) [(h0, .inr (3, [.int (nI sk), .int (nI mo), .int (nI wk), .int (nI fx), .int (nI wi), .int (nI la), .int (nI da), .int (nI we)]))])) (vp_Si (fun r_ => r_ = (nI (brc wi wk 7)))) 0 0 (fun _ => False) := by
  refine rd_start (cc := cX4_brokenWishes) (maxL := 3) (ret := (some .int)) RX4 ⟨by decide +kernel, rfl⟩ rfl (Nat.le_of_ble_eq_true rfl) ?_
  intro p0 e0 s0 m0 a0 b0 t0 c0 S hr hlocks hP hK ls hl
  have hl : lv_has ls 3 [(0, .ref h0)] := hl
  refine lv_iconst (v := (nI 0)) S.1 S.2.1 dX4_brokenWishes_0 (by decide) ?_
  refine lv_istore_n (lv' := [(1, .int (nI 0)), (0, .ref h0)]) S.1 S.2.1 dX4_brokenWishes_1 rfl hl (by decide) rfl (fun ls hl => ?_)
  refine lv_iconst (v := (nI 0)) S.1 S.2.1 dX4_brokenWishes_2 (by decide) ?_
  refine lv_istore_n (lv' := [(2, .int (nI 0)), (1, .int (nI 0)), (0, .ref h0)]) S.1 S.2.1 dX4_brokenWishes_3 rfl hl (by decide) rfl (fun ls hl => ?_)
  have lp4 : ∀ (n : Nat) (f : Nat) (d : Nat), (d ≤ 7) → (f = brc wi wk d) → (7 - d) < n → ∀ ls : Array Slot, lv_has ls 3 [(0, .ref h0), (1, .int (nI f)), (2, .int (nI d))] → W p0 l e0 ({ frames := 2, cells := 0, slots := 0, locals := 41 } : Room) s0 m0 a0 b0 t0 c0 s0.heap [] 0 0 (MQ b0 (vp_Si (fun r_ => r_ = (nI (brc wi wk 7)))) a0 s0 0 0 (fun _ => False)) (F0 m0 4 ls []) := by
    intro n
    induction n with
    | zero =>
      intro f d h2 hf hm
      exact absurd hm (Nat.not_lt_zero _)
    | succ n ih4 =>
      intro f d h2 hf hm ls hl
      refine lv_iload_n S.1 S.2.1 dX4_brokenWishes_4 rfl (lv_at hl 2 rfl) ?_
      refine lv_bipush (v := (nI 7)) S.1 S.2.1 dX4_brokenWishes_5 (by decide) ?_
      refine n_cge S (tgt := 35) (by omega) dX4_brokenWishes_7 (by decide) (fun c7 => ?_) (fun c7 => ?_)
      · refine lv_iload_n S.1 S.2.1 dX4_brokenWishes_35 rfl (lv_at hl 1 rfl) ?_
        exact rd_iret S hr rfl hlocks (by rw [hf, show d = 7 by omega]) dX4_brokenWishes_36
      · refine lv_aload_n S.1 S.2.1 dX4_brokenWishes_10 rfl (lv_at hl 0 rfl) ?_
        refine lv_iload_n S.1 S.2.1 dX4_brokenWishes_11 rfl (lv_at hl 2 rfl) ?_
        refine lv_aload_n S.1 S.2.1 dX4_brokenWishes_12 rfl (lv_at hl 0 rfl) ?_
        refine g_get (C := RX4) (T := TX4) (N := 8) (v := .int (nI wk)) S 0 3 2 in_X4_brokenWishes_X4 hK hP rfl rfl (by decide) w_X4_brokenWishes_0 rfl dX4_brokenWishes_13 ?_
        refine lv_iload_n S.1 S.2.1 dX4_brokenWishes_16 rfl (lv_at hl 2 rfl) ?_
        refine rd_callS (rest := [.int (nI d), .ref h0]) S (r_X7_at l D cT wk d (by omega) (by omega)) gX4_brokenWishes_X7_at rfl pd_X7_at ⟨rfl, rfl, Nat.le_of_ble_eq_true rfl, Nat.le_of_ble_eq_true rfl⟩ (sx_P0 D _) hK hl rfl rfl (Nat.le_of_ble_eq_true rfl) ⟨Nat.zero_le _, Nat.zero_le _⟩ dX4_brokenWishes_17 ?_
        refine rd_callV (rest := []) S (r_X4_breaksWish l D cT h0 sk mo wk fx wi la da we d (ent wk d) (by omega) (ent_lt _ _) (hs)) gX4_brokenWishes_X4_breaksWish rfl pd_X4_breaksWish ⟨rfl, rfl, Nat.le_of_ble_eq_true rfl, Nat.le_of_ble_eq_true rfl⟩ hP hK (va_recv hK.1 hP (ci := 3) (q0 := 0) rfl rfl) hl rfl rfl (Nat.le_of_ble_eq_true rfl) ⟨Nat.zero_le _, Nat.zero_le _⟩ dX4_brokenWishes_20 ?_
        refine n_beq S (tgt := 29) dX4_brokenWishes_23 (by decide) (fun c23 => ?_) (fun c23 => ?_)
        · refine lv_iinc (v := (nI (d + 1))) (lv' := [(2, .int (nI (d + 1))), (0, .ref h0), (1, .int (nI f))]) S.1 S.2.1 dX4_brokenWishes_29 hl (k := 2) rfl (nI_1 _) (by decide) rfl (fun ls hl => ?_)
          refine lv_goto (tgt := 4) S.1 S.2.1 dX4_brokenWishes_32 (by decide) ?_
          exact ih4 f (d + 1) (by omega) (by first | rw [hf, brc_0 c23] | rw [hf, brc_1 c23]) (by omega) ls (lv_sub hl [1, 2, 0] rfl)
        · refine lv_iinc (v := (nI (f + 1))) (lv' := [(1, .int (nI (f + 1))), (0, .ref h0), (2, .int (nI d))]) S.1 S.2.1 dX4_brokenWishes_26 hl (k := 1) rfl (nI_1 _) (by decide) rfl (fun ls hl => ?_)
          refine lv_iinc (v := (nI (d + 1))) (lv' := [(2, .int (nI (d + 1))), (1, .int (nI (f + 1))), (0, .ref h0)]) S.1 S.2.1 dX4_brokenWishes_29 hl (k := 2) rfl (nI_1 _) (by decide) rfl (fun ls hl => ?_)
          refine lv_goto (tgt := 4) S.1 S.2.1 dX4_brokenWishes_32 (by decide) ?_
          exact ih4 (f + 1) (d + 1) (by omega) (by first | rw [hf, brc_0 c23] | rw [hf, brc_1 c23]) (by omega) ls (lv_sub hl [2, 1, 0] rfl)
  exact lp4 _ 0 0 (Nat.zero_le _) (rfl) (Nat.lt_succ_self _) ls (lv_sub hl [2, 1, 0] rfl)
end
