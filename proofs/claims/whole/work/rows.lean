section
-- ===== PART A: goes FIRST, ahead of the names: the tables' words, and 'selects' of the private methods out of them =====
/-- a private method of a class that the tables say can be made, by its rows of tables_1 -/
def lw_okq (q : MethodName × Nat) : Prop := (q.1.cls ≠ "java/lang/invoke/MethodHandle" ∧ q.1.cls ≠ "java/lang/invoke/VarHandle") ∧ Cond.instantiable q.1.cls q.2 ∈ tables_1 ∧ Cond.privateMethod q.1 ∈ tables_1 ∧ Cond.instanceMethod q.1 ∈ tables_1
theorem lw_p0 : lw_okq (⟨"CoverSheet", "planRound", "()Z"⟩, 9) := ⟨⟨by decide +kernel, by decide +kernel⟩, List.mem_of_getElem? (i := 20) (by decide +kernel), List.mem_of_getElem? (i := 124) (by decide +kernel), List.mem_of_getElem? (i := 125) (by decide +kernel)⟩
theorem lw_p1 : lw_okq (⟨"CoverSheet", "chosenWeek", "(LCoverSheet$Person;)I"⟩, 9) := ⟨⟨by decide +kernel, by decide +kernel⟩, List.mem_of_getElem? (i := 20) (by decide +kernel), List.mem_of_getElem? (i := 128) (by decide +kernel), List.mem_of_getElem? (i := 129) (by decide +kernel)⟩
theorem lw_p2 : lw_okq (⟨"CoverSheet", "gapWithout", "(LCoverSheet$Person;II)I"⟩, 9) := ⟨⟨by decide +kernel, by decide +kernel⟩, List.mem_of_getElem? (i := 20) (by decide +kernel), List.mem_of_getElem? (i := 132) (by decide +kernel), List.mem_of_getElem? (i := 133) (by decide +kernel)⟩
theorem lw_p3 : lw_okq (⟨"CoverSheet$DayTable", "goOn", "(LCoverSheet$Person;LCoverSheet$Rules;LCoverSheet$Measure;I)V"⟩, 2) := ⟨⟨by decide +kernel, by decide +kernel⟩, List.mem_of_getElem? (i := 58) (by decide +kernel), List.mem_of_getElem? (i := 199) (by decide +kernel), List.mem_of_getElem? (i := 200) (by decide +kernel)⟩
theorem lw_p4 : lw_okq (⟨"CoverSheet", "allGaps", "()I"⟩, 9) := ⟨⟨by decide +kernel, by decide +kernel⟩, List.mem_of_getElem? (i := 20) (by decide +kernel), List.mem_of_getElem? (i := 240) (by decide +kernel), List.mem_of_getElem? (i := 241) (by decide +kernel)⟩
theorem lw_p5 : lw_okq (⟨"CoverSheet", "leastGapsOf", "(I)I"⟩, 9) := ⟨⟨by decide +kernel, by decide +kernel⟩, List.mem_of_getElem? (i := 20) (by decide +kernel), List.mem_of_getElem? (i := 273) (by decide +kernel), List.mem_of_getElem? (i := 274) (by decide +kernel)⟩
theorem lw_p6 : lw_okq (⟨"CoverSheet", "peopleWithOneOf", "(I)I"⟩, 9) := ⟨⟨by decide +kernel, by decide +kernel⟩, List.mem_of_getElem? (i := 20) (by decide +kernel), List.mem_of_getElem? (i := 277) (by decide +kernel), List.mem_of_getElem? (i := 278) (by decide +kernel)⟩
theorem lw_p7 : lw_okq (⟨"java/lang/Throwable", "fillInStackTrace", "(I)Ljava/lang/Throwable;"⟩, 6) := ⟨⟨by decide +kernel, by decide +kernel⟩, List.mem_of_getElem? (i := 328) (by decide +kernel), List.mem_of_getElem? (i := 326) (by decide +kernel), List.mem_of_getElem? (i := 327) (by decide +kernel)⟩
theorem lw_p8 : lw_okq (⟨"CoverSheet", "personAt", "(I)LCoverSheet$Person;"⟩, 9) := ⟨⟨by decide +kernel, by decide +kernel⟩, List.mem_of_getElem? (i := 20) (by decide +kernel), List.mem_of_getElem? (i := 475) (by decide +kernel), List.mem_of_getElem? (i := 476) (by decide +kernel)⟩
theorem lw_p9 : lw_okq (⟨"CoverSheet", "couldSwap", "(LCoverSheet$Person;LCoverSheet$Person;I)Z"⟩, 9) := ⟨⟨by decide +kernel, by decide +kernel⟩, List.mem_of_getElem? (i := 20) (by decide +kernel), List.mem_of_getElem? (i := 524) (by decide +kernel), List.mem_of_getElem? (i := 525) (by decide +kernel)⟩
theorem lw_p10 : lw_okq (⟨"CoverSheetModel", "fails", "(I)I"⟩, 15) := ⟨⟨by decide +kernel, by decide +kernel⟩, List.mem_of_getElem? (i := 613) (by decide +kernel), List.mem_of_getElem? (i := 676) (by decide +kernel), List.mem_of_getElem? (i := 677) (by decide +kernel)⟩
theorem lw_p11 : lw_okq (⟨"CoverSheetModel", "isPerson", "(I)Z"⟩, 15) := ⟨⟨by decide +kernel, by decide +kernel⟩, List.mem_of_getElem? (i := 613) (by decide +kernel), List.mem_of_getElem? (i := 702) (by decide +kernel), List.mem_of_getElem? (i := 703) (by decide +kernel)⟩
theorem lw_p12 : lw_okq (⟨"CoverSheetModel", "choice", "(I)I"⟩, 15) := ⟨⟨by decide +kernel, by decide +kernel⟩, List.mem_of_getElem? (i := 613) (by decide +kernel), List.mem_of_getElem? (i := 714) (by decide +kernel), List.mem_of_getElem? (i := 715) (by decide +kernel)⟩
theorem lw_p13 : lw_okq (⟨"CoverSheetModel", "fills", "(I)I"⟩, 15) := ⟨⟨by decide +kernel, by decide +kernel⟩, List.mem_of_getElem? (i := 613) (by decide +kernel), List.mem_of_getElem? (i := 718) (by decide +kernel), List.mem_of_getElem? (i := 719) (by decide +kernel)⟩
theorem lw_p14 : lw_okq (⟨"CoverSheetModel", "gapOf", "(III)I"⟩, 15) := ⟨⟨by decide +kernel, by decide +kernel⟩, List.mem_of_getElem? (i := 613) (by decide +kernel), List.mem_of_getElem? (i := 722) (by decide +kernel), List.mem_of_getElem? (i := 723) (by decide +kernel)⟩
theorem lw_p15 : lw_okq (⟨"CoverSheetModel", "countEntries", "(III)I"⟩, 15) := ⟨⟨by decide +kernel, by decide +kernel⟩, List.mem_of_getElem? (i := 613) (by decide +kernel), List.mem_of_getElem? (i := 726) (by decide +kernel), List.mem_of_getElem? (i := 727) (by decide +kernel)⟩
def lw_privs_1 : List (MethodName × Nat) := [(⟨"CoverSheet", "planRound", "()Z"⟩, 9), (⟨"CoverSheet", "chosenWeek", "(LCoverSheet$Person;)I"⟩, 9), (⟨"CoverSheet", "gapWithout", "(LCoverSheet$Person;II)I"⟩, 9), (⟨"CoverSheet$DayTable", "goOn", "(LCoverSheet$Person;LCoverSheet$Rules;LCoverSheet$Measure;I)V"⟩, 2), (⟨"CoverSheet", "allGaps", "()I"⟩, 9), (⟨"CoverSheet", "leastGapsOf", "(I)I"⟩, 9), (⟨"CoverSheet", "peopleWithOneOf", "(I)I"⟩, 9), (⟨"java/lang/Throwable", "fillInStackTrace", "(I)Ljava/lang/Throwable;"⟩, 6), (⟨"CoverSheet", "personAt", "(I)LCoverSheet$Person;"⟩, 9), (⟨"CoverSheet", "couldSwap", "(LCoverSheet$Person;LCoverSheet$Person;I)Z"⟩, 9), (⟨"CoverSheetModel", "fails", "(I)I"⟩, 15), (⟨"CoverSheetModel", "isPerson", "(I)Z"⟩, 15), (⟨"CoverSheetModel", "choice", "(I)I"⟩, 15), (⟨"CoverSheetModel", "fills", "(I)I"⟩, 15), (⟨"CoverSheetModel", "gapOf", "(III)I"⟩, 15), (⟨"CoverSheetModel", "countEntries", "(III)I"⟩, 15)]
theorem lw_r1 : ∀ q ∈ lw_privs_1, lw_okq q := List.forall_mem_cons.mpr ⟨lw_p0, List.forall_mem_cons.mpr ⟨lw_p1, List.forall_mem_cons.mpr ⟨lw_p2, List.forall_mem_cons.mpr ⟨lw_p3, List.forall_mem_cons.mpr ⟨lw_p4, List.forall_mem_cons.mpr ⟨lw_p5, List.forall_mem_cons.mpr ⟨lw_p6, List.forall_mem_cons.mpr ⟨lw_p7, List.forall_mem_cons.mpr ⟨lw_p8, List.forall_mem_cons.mpr ⟨lw_p9, List.forall_mem_cons.mpr ⟨lw_p10, List.forall_mem_cons.mpr ⟨lw_p11, List.forall_mem_cons.mpr ⟨lw_p12, List.forall_mem_cons.mpr ⟨lw_p13, List.forall_mem_cons.mpr ⟨lw_p14, List.forall_mem_cons.mpr ⟨lw_p15, fun _ h => absurd h List.not_mem_nil⟩⟩⟩⟩⟩⟩⟩⟩⟩⟩⟩⟩⟩⟩⟩⟩
theorem lw_p16 : lw_okq (⟨"CoverSheetModel", "isPossible", "(II)Z"⟩, 15) := ⟨⟨by decide +kernel, by decide +kernel⟩, List.mem_of_getElem? (i := 613) (by decide +kernel), List.mem_of_getElem? (i := 730) (by decide +kernel), List.mem_of_getElem? (i := 731) (by decide +kernel)⟩
theorem lw_p17 : lw_okq (⟨"CoverSheetModel", "price", "(III)I"⟩, 15) := ⟨⟨by decide +kernel, by decide +kernel⟩, List.mem_of_getElem? (i := 613) (by decide +kernel), List.mem_of_getElem? (i := 740) (by decide +kernel), List.mem_of_getElem? (i := 741) (by decide +kernel)⟩
theorem lw_p18 : lw_okq (⟨"CoverSheetModel", "brokenBy", "(II)I"⟩, 15) := ⟨⟨by decide +kernel, by decide +kernel⟩, List.mem_of_getElem? (i := 613) (by decide +kernel), List.mem_of_getElem? (i := 748) (by decide +kernel), List.mem_of_getElem? (i := 749) (by decide +kernel)⟩
theorem lw_p19 : lw_okq (⟨"CoverSheetModel", "weekOf", "(I)I"⟩, 15) := ⟨⟨by decide +kernel, by decide +kernel⟩, List.mem_of_getElem? (i := 613) (by decide +kernel), List.mem_of_getElem? (i := 752) (by decide +kernel), List.mem_of_getElem? (i := 753) (by decide +kernel)⟩
theorem lw_p20 : lw_okq (⟨"CoverSheetModel", "enter", "(II)V"⟩, 15) := ⟨⟨by decide +kernel, by decide +kernel⟩, List.mem_of_getElem? (i := 613) (by decide +kernel), List.mem_of_getElem? (i := 756) (by decide +kernel), List.mem_of_getElem? (i := 757) (by decide +kernel)⟩
theorem lw_p21 : lw_okq (⟨"CoverSheetModel", "allGaps", "()I"⟩, 15) := ⟨⟨by decide +kernel, by decide +kernel⟩, List.mem_of_getElem? (i := 613) (by decide +kernel), List.mem_of_getElem? (i := 760) (by decide +kernel), List.mem_of_getElem? (i := 761) (by decide +kernel)⟩
theorem lw_p22 : lw_okq (⟨"CoverSheetModel", "canSwap", "(III)Z"⟩, 15) := ⟨⟨by decide +kernel, by decide +kernel⟩, List.mem_of_getElem? (i := 613) (by decide +kernel), List.mem_of_getElem? (i := 779) (by decide +kernel), List.mem_of_getElem? (i := 780) (by decide +kernel)⟩
theorem lw_p23 : lw_okq (⟨"CoverSheetModel", "isAsked", "(I)Z"⟩, 15) := ⟨⟨by decide +kernel, by decide +kernel⟩, List.mem_of_getElem? (i := 613) (by decide +kernel), List.mem_of_getElem? (i := 807) (by decide +kernel), List.mem_of_getElem? (i := 808) (by decide +kernel)⟩
theorem lw_p24 : lw_okq (⟨"CoverSheetModel", "countWeeks", "(I)I"⟩, 15) := ⟨⟨by decide +kernel, by decide +kernel⟩, List.mem_of_getElem? (i := 613) (by decide +kernel), List.mem_of_getElem? (i := 831) (by decide +kernel), List.mem_of_getElem? (i := 832) (by decide +kernel)⟩
theorem lw_p25 : lw_okq (⟨"CoverSheetModel", "lacking", "(I)I"⟩, 15) := ⟨⟨by decide +kernel, by decide +kernel⟩, List.mem_of_getElem? (i := 613) (by decide +kernel), List.mem_of_getElem? (i := 851) (by decide +kernel), List.mem_of_getElem? (i := 852) (by decide +kernel)⟩
def lw_privs_2 : List (MethodName × Nat) := [(⟨"CoverSheetModel", "isPossible", "(II)Z"⟩, 15), (⟨"CoverSheetModel", "price", "(III)I"⟩, 15), (⟨"CoverSheetModel", "brokenBy", "(II)I"⟩, 15), (⟨"CoverSheetModel", "weekOf", "(I)I"⟩, 15), (⟨"CoverSheetModel", "enter", "(II)V"⟩, 15), (⟨"CoverSheetModel", "allGaps", "()I"⟩, 15), (⟨"CoverSheetModel", "canSwap", "(III)Z"⟩, 15), (⟨"CoverSheetModel", "isAsked", "(I)Z"⟩, 15), (⟨"CoverSheetModel", "countWeeks", "(I)I"⟩, 15), (⟨"CoverSheetModel", "lacking", "(I)I"⟩, 15)]
theorem lw_r2 : ∀ q ∈ lw_privs_2, lw_okq q := List.forall_mem_cons.mpr ⟨lw_p16, List.forall_mem_cons.mpr ⟨lw_p17, List.forall_mem_cons.mpr ⟨lw_p18, List.forall_mem_cons.mpr ⟨lw_p19, List.forall_mem_cons.mpr ⟨lw_p20, List.forall_mem_cons.mpr ⟨lw_p21, List.forall_mem_cons.mpr ⟨lw_p22, List.forall_mem_cons.mpr ⟨lw_p23, List.forall_mem_cons.mpr ⟨lw_p24, List.forall_mem_cons.mpr ⟨lw_p25, fun _ h => absurd h List.not_mem_nil⟩⟩⟩⟩⟩⟩⟩⟩⟩⟩
def lw_privs : List (MethodName × Nat) := lw_privs_1 ++ (lw_privs_2)
def lw_tbl : List Cond := k2_sels lw_privs ++ tables_1
theorem lw_privs_ok : ∀ q ∈ lw_privs, lw_okq q := by
  show ∀ q ∈ lw_privs_1 ++ (lw_privs_2), lw_okq q
  exact List.forall_mem_append.mpr ⟨lw_r1, lw_r2⟩
-- ===== end of PART A; then your names; then what follows =====
end
section
/-! ===== BEGIN words of one list among another's, by their places ===== -/
theorem goodIn_r {big : List Cond} (ws : List Cond) (ps : List Nat) (hp : ws = ps.filterMap (fun i => big[i]?)) (h : ws.all goodWord = true) : GoodIn big ws := by
  intro w hw
  have h1 := List.all_eq_true.mp h w hw
  rw [hp] at hw
  obtain ⟨i, -, hi⟩ := List.mem_filterMap.mp hw
  have hm : w ∈ big := by first | exact List.mem_of_getElem? hi | exact List.getElem?_mem hi
  exact ⟨hm, good_of_word h1⟩
theorem goodIn_app {big a b : List Cond} (ha : GoodIn big a) (hb : GoodIn big b) : GoodIn big (a ++ b) := fun w h => (List.mem_append.mp h).elim (ha w) (hb w)
theorem goodIn_ca {big a b : List Cond} {c : Cond} (ha : GoodIn big (c :: a)) (hb : GoodIn big b) : GoodIn big (c :: (a ++ b)) := fun w h => (List.mem_cons.mp h).elim (fun e => ha w (List.mem_cons.mpr (Or.inl e))) (fun h => (List.mem_append.mp h).elim (fun h => ha w (List.mem_cons.mpr (Or.inr h))) (hb w))
theorem goodIn_sub {big ws : List Cond} (hm : ∀ w ∈ ws, w ∈ big) (h : ws.all goodWord = true) : GoodIn big ws := fun w hw => ⟨hm w hw, good_of_word (List.all_eq_true.mp h w hw)⟩
/-! ===== END ===== -/

/-! ===== BEGIN exceptions that leave a method, and their catching by the caller (launches without stack traces) ===== -/
section VXA
/-! The laws vx_back, vx_callV, vx_callS, vx_callSW, vx_throw0, vx_throwS follow proofs of the library, with one case more: JvmDerived/Free/Laws.lean (Back.of_free), Shelf42/LK1.lean (callV, callS), Shelf/KitTraced.lean (throwNew0V, throwNewS). -/
/-- where a method has thrown q: the class by its name, the cell, what was written, the world -/
def vx_T (XC : String → State → State → Prop) (st : State) (q : Addr) (t : State) (mc ms : Nat) (free : Addr → Prop) : Prop :=
  ∃ (E : String) (ce : Cell) (L : List Loc), XC E st t ∧ t.heap[q]? = some ce ∧ ce.vm = .none ∧ st.vm.findClass E = some ce.cls ∧ st.WarmedH t.vm ∧ st.sameButNew ({ t with vm := st.vm } : State) L mc ms ∧ ∀ z ∈ L, free z.base
def vx_Q (Qc : Array Value → State → Outcome → State → Prop) (XC : String → State → State → Prop) (mc ms : Nat) (free : Addr → Prop) : Array Value → State → Outcome → State → Prop := fun a st o t =>
  (Qc a st o t ∧ ∃ L, FrameEnd st o t L mc ms ∧ ∀ q ∈ L, free q.base) ∨ ∃ q, o = .threw q ∧ vx_T XC st q t mc ms free
/-- a callee that returns or throws -/
def vx_Met (l : Launch) (y : MethodName) (ws : List Cond) (rm : Room) (Pc : Array Value → State → Prop) (Qc : Array Value → State → Outcome → State → Prop) (XC : String → State → State → Prop) (mc ms : Nat) (free : Addr → Prop) : Prop :=
  MetFree l y (headSpec ws rm) Pc (fun _ _ _ _ _ => True) (vx_Q Qc XC mc ms free)
def vx_Post (XC : String → State → State → Prop) (mc ms : Nat) (free : Addr → Prop) : Pt → Array Value → Addr → Pt → Prop := fun A a q B =>
  ∃ (g : JFrame) (mk : MethodId) (t : State) (L : List Loc) (E : String) (ce : Cell), B.U.heap = t.heap ∧ B.U.vm = t.vm ∧ XC E (A.U.calling g mk a) t ∧ t.heap[q]? = some ce ∧ ce.vm = .none ∧ A.U.vm.findClass E = some ce.cls ∧ B.locs = A.locs ++ L ∧ (∀ z ∈ L, free z.base) ∧ B.cells = A.cells + mc ∧ B.slots = A.slots + ms
def vx_Back (l : Launch) (R : Room) (p : Program) (e : Env) (below : List Frame) (s : State) (sargs : Array Value) (y : MethodName) (len W9 : Nat)
    (Pre : Pt → Array Value → Prop) (Post : Pt → Array Value → Option Value → Pt → Prop) (PostX : Pt → Array Value → Addr → Pt → Prop) : Prop :=
  ∀ (m : MethodId) (meth : Method) (c : Code) (A : Pt) (g : JFrame) (ig : Instr) (mk : MethodId) (a : Array Value),
    Stand p l e R s m sargs below meth c A.U A.locs A.cells A.slots → g.method = m → g.locals.size = c.maxLocals → decode c.code g.pc = .ok (ig, len) →
    2 * g.monitorRoom + (g.stack.map fun v => v.category).sum ≤ W9 → A.U.methodNamed? y = some mk → Pre A a →
    (∃ (v : Option Value) (B : Pt), Stand p l e R s m sargs below meth c B.U B.locs B.cells B.slots ∧ Post A a v B ∧
      Steps p.tables e below (doInvoke e (A.U.setTop g) [] mk a).1 (B.U.setTop { g with pc := g.pc + len, stack := v.toList ++ g.stack })) ∨
    (∃ (q : Addr) (B : Pt), Stand p l e R s m sargs below meth c B.U B.locs B.cells B.slots ∧ PostX A a q B ∧
      Steps p.tables e below (doInvoke e (A.U.setTop g) [] mk a).1 ((B.U.setTop g).pushFrame (.throwing q)))
section Payer
variable {l : Launch} {R : Room} {p : Program} {e : Env} {below : List Frame} {s : State} {sargs : Array Value} {y : MethodName} {len W9 : Nat}
theorem vx_back {ws : List Cond} {rm : Room} {Pc : Array Value → State → Prop} {Qc : Array Value → State → Outcome → State → Prop} {XC : String → State → State → Prop} {mc ms : Nat} {free : Addr → Prop} {bytes : ByteArray} {maxL : Nat} {ret : Option FieldType}
    (hM : vx_Met l y ws rm Pc Qc XC mc ms free) (hblind : FrameBlind Pc) (hrc : rm.cells = mc) (hrs : rm.slots = ms)
    (hframes : rm.frames + 1 ≤ R.frames) (hlocals : W9 + (maxL + 11) + rm.locals ≤ R.locals)
    (hws : ∀ w ∈ ws, ∀ a' U, s.WarmedH U.vm → w.before a' U = true) (hcode : Cond.code y bytes maxL ret ∈ ws) (hinit : ∀ a' U, s.WarmedH U.vm → (Cond.initialized y.cls).before a' U = true) :
    vx_Back l R p e below s sargs y len W9 (PreOf R mc ms Pc) (PostOf Qc mc ms free) (vx_Post XC mc ms free) := by
  intro m meth c A g ig mk a X hg hsize hdg hW hn hp
  have h1 : (headSpec ws rm).pre.before a A.U = true := atoms_intro fun w hw => hws w hw _ _ X.warmed
  have h2 : (Cond.code y bytes maxL ret).before a A.U = true := hws _ hcode _ _ X.warmed
  have h3 : (Cond.initialized y.cls).before a A.U = true := hinit _ _ X.warmed
  have h4 : A.cells + (headSpec ws rm).room.cells ≤ R.cells := by rw [show (headSpec ws rm).room.cells = mc from hrc]; exact hp.1
  have h5 : A.slots + (headSpec ws rm).room.slots ≤ R.slots := by rw [show (headSpec ws rm).room.slots = ms from hrs]; exact hp.2.1
  have hPc : Pc a (A.U.calling g mk a) := hblind _ _ _ _ hp.2.2
  obtain ⟨U, Ls, c0, s0⟩ := A
  dsimp only [Pt.U, Pt.locs, Pt.cells, Pt.slots] at h1 h2 h3 h4 h5 X hn hPc ⊢
  obtain ⟨methY, cY, hmY, hcY, -, hlY, -, -, -, -⟩ := Cond.code_spec hn h2
  obtain ⟨kY, hkY, -⟩ := className_of_methodNamed hn
  have hinitY : kY.init = .initialized := Cond.initialized_spec (findClass_of_methodNamed hn) hkY h3
  have h : At U g.method c below := by rw [hg]; exact X.here
  have hlocals9 : W9 + (maxL + 11) + (headSpec ws rm).room.locals ≤ R.locals := hlocals
  have happ : (headSpec ws rm).appliesLoose y e.platform (U.calling g mk a) = true :=
    Spec.appliesLoose_calling (g := g) h hdg hn hkY hinitY
      (X.room_calling (g := g) (R' := (headSpec ws rm).room) hsize hmY hcY hframes (by rw [hlY]; omega) h4 h5) h1
  obtain ⟨mid, hmid⟩ := h.above
  have hfr : (U.setTop g).frames = (.java g :: mid) ++ below := by rw [State.frames_setTop' g h.top, hmid]; rfl
  obtain ⟨o, s₂, hsteps, -, hend, hq⟩ := Steps.callFree hM p X.admits X.cas X.clock (acts := []) hfr happ hPc trivial
  have hq' : vx_Q Qc XC mc ms free a (U.calling g mk a) o s₂ := hq
  rw [State.frames_setTop' g h.top] at hend
  obtain ⟨g₀, hg0⟩ := Option.isSome_iff_exists.mp h.top
  obtain ⟨r, hr⟩ := State.topJava?_eq_some.mp hg0
  have hr' : (({ U with heap := s₂.heap, slotsUsed := s₂.slotsUsed } : State).setVm s₂.vm).frames = .java g₀ :: r := hr
  rcases hq' with ⟨hqc, L, hfe, hL⟩ | ⟨q, rfl, E, ce, L, hx, hce, hcv, hcl, hW₂, hsm, hL⟩
  · obtain ⟨⟨v, rfl⟩, hW₂, e2, q2, q3, q4, q5, q6⟩ := id hfe
    have e3 : s₂ = ({ (U.calling g mk a).setFrames s₂.frames with heap := s₂.heap, slotsUsed := s₂.slotsUsed } : State).setVm s₂.vm := by
      have : s₂ = ({ s₂ with vm := (U.calling g mk a).vm } : State).setVm s₂.vm := rfl
      rw [e2] at this
      exact this
    obtain ⟨c₂, i₂, len₂, hc₂, hd₂, hf₂⟩ := hend
    have hW' : U.WarmedH s₂.vm := hW₂
    have hcc : c₂ = c := by
      have h1 : s₂.code? g.method = U.code? g.method := by
        rw [State.code?_eq, State.code?_eq, hW'.alike.method?]
      exact Option.some.inj (hc₂.symm.trans (h1.trans h.code))
    subst hcc
    have hlen : len₂ = len := by rw [hdg] at hd₂; cases hd₂; rfl
    subst hlen
    have hs₂ : s₂ = (({ U with heap := s₂.heap, slotsUsed := s₂.slotsUsed } : State).setVm s₂.vm).setTop { g with pc := g.pc + len₂, stack := v.toList ++ g.stack } := by
      refine e3.trans ?_
      rw [hf₂, State.calling_eq h.top, State.setFrames_setFrames, State.setTop_of_frames _ hr', hr]
      rfl
    have hsame : U.sameButNew ({ U with heap := s₂.heap, slotsUsed := s₂.slotsUsed } : State) L mc ms := by
      refine ⟨?_, q2, q3, q4, q5, q6⟩
      obtain ⟨t, ht, -⟩ := State.frames_cons hr
      show ({ U with heap := s₂.heap, slotsUsed := s₂.slotsUsed } : State) = { U.setFrames U.frames with heap := s₂.heap, slotsUsed := s₂.slotsUsed }
      rw [State.setFrames_self ht]
    subst hg
    refine Or.inl ⟨v, ⟨(({ U with heap := s₂.heap, slotsUsed := s₂.slotsUsed } : State).setVm s₂.vm), Ls ++ L, c0 + mc, s0 + ms⟩,
      ⟨X.admits, X.cas, X.clock, X.frames, X.room, X.hears, X.method, X.code, (X.here.setHeapUsed s₂.heap s₂.slotsUsed).setVm hW'.alike, X.tail, State.WarmedH.trans X.warmed hW', X.limits, X.bytes, X.same.trans (hsame.setVm s.vm)⟩,
      ⟨g, mk, s₂, L, rfl, rfl, hqc, rfl, hL, rfl, rfl⟩, ?_⟩
    show Steps p.tables e below _ ((({ U with heap := s₂.heap, slotsUsed := s₂.slotsUsed } : State).setVm s₂.vm).setTop { g with pc := g.pc + len₂, stack := v.toList ++ g.stack })
    rw [← hs₂]
    exact hsteps
  · obtain ⟨e2, q2, q3, q4, q5, q6⟩ := id hsm
    have e3 : s₂ = ({ (U.calling g mk a).setFrames s₂.frames with heap := s₂.heap, slotsUsed := s₂.slotsUsed } : State).setVm s₂.vm := by
      have : s₂ = ({ s₂ with vm := (U.calling g mk a).vm } : State).setVm s₂.vm := rfl
      rw [e2] at this
      exact this
    have hf₂ : s₂.frames = .throwing q :: .java g :: U.frames.tail := hend
    have hW' : U.WarmedH s₂.vm := hW₂
    have hs₂ : s₂ = ((({ U with heap := s₂.heap, slotsUsed := s₂.slotsUsed } : State).setVm s₂.vm).setTop g).pushFrame (.throwing q) := by
      refine e3.trans ?_
      rw [hf₂, State.calling_eq h.top, State.setFrames_setFrames, State.pushFrame, State.frames_setTop _ hr', State.setTop_of_frames _ hr', State.setFrames_setFrames, hr]
      rfl
    have hsame : U.sameButNew ({ U with heap := s₂.heap, slotsUsed := s₂.slotsUsed } : State) L mc ms := by
      refine ⟨?_, q2, q3, q4, q5, q6⟩
      obtain ⟨t, ht, -⟩ := State.frames_cons hr
      show ({ U with heap := s₂.heap, slotsUsed := s₂.slotsUsed } : State) = { U.setFrames U.frames with heap := s₂.heap, slotsUsed := s₂.slotsUsed }
      rw [State.setFrames_self ht]
    subst hg
    refine Or.inr ⟨q, ⟨(({ U with heap := s₂.heap, slotsUsed := s₂.slotsUsed } : State).setVm s₂.vm), Ls ++ L, c0 + mc, s0 + ms⟩,
      ⟨X.admits, X.cas, X.clock, X.frames, X.room, X.hears, X.method, X.code, (X.here.setHeapUsed s₂.heap s₂.slotsUsed).setVm hW'.alike, X.tail, State.WarmedH.trans X.warmed hW', X.limits, X.bytes, X.same.trans (hsame.setVm s.vm)⟩,
      ⟨g, mk, s₂, L, E, ce, rfl, rfl, hx, hce, hcv, hcl, rfl, hL, rfl, rfl⟩, ?_⟩
    show Steps p.tables e below _ (((({ U with heap := s₂.heap, slotsUsed := s₂.slotsUsed } : State).setVm s₂.vm).setTop g).pushFrame (.throwing q))
    rw [← hs₂]
    exact hsteps
end Payer
section Calls
variable {p : Program} {l : Launch} {e : Env} {R : Room} {s : State} {m : MethodId} {args : Array Value} {below : List Frame} {meth : Method} {c : Code} {T : State} {locs : List Loc} {cells slots : Nat}
theorem vx_callV (X : Stand p l e R s m args below meth c T locs cells slots) (hexec : p.tables.exec = Jvm.exec) {own C : String} {index : Nat} {y : MethodName} {bytes : ByteArray} {maxL : Nat} {ret : Option FieldType}
    (hown : s.vm.findClass own = some m.cls) (hlink : (Cond.methodLink own index y).before args s = true) (hinst : (Cond.instanceMethod y).before args s = true) (hsel : (Cond.selects C y y).before args s = true)
    (hcode : (Cond.code y bytes maxL ret).before args s = true) (hy : y.cls ≠ "java/lang/invoke/MethodHandle" ∧ y.cls ≠ "java/lang/invoke/VarHandle")
    {W9 : Nat} {Pre : Pt → Array Value → Prop} {Post : Pt → Array Value → Option Value → Pt → Prop} {PostX : Pt → Array Value → Addr → Pt → Prop} (hK : vx_Back l R p e below s args y 3 W9 Pre Post PostX)
    {b : Addr} {cellB : Cell} (hcell : T.heap[b]? = some cellB) (hobj : cellB.vm.isStatics = false) (hcls : s.vm.findClass C = some cellB.cls)
    {g : JFrame} (hg : g.method = m) (hsize : g.locals.size = c.maxLocals) {argsL rest : List Value} (hlen : ∀ sig, parseMethodDescriptor y.desc = some sig → argsL.length = sig.parameters.length)
    (hstack : g.stack = argsL.reverse ++ .ref b :: rest) (hW : 2 * g.monitorRoom + (rest.map fun v => v.category).sum ≤ W9) (hdg : decode c.code g.pc = .ok (.invokevirtual index, 3))
    (hpre : ∀ vm₁, s.WarmedH vm₁ → Pre ⟨T.setVm vm₁, locs, cells, slots⟩ (Value.ref b :: argsL).toArray) :
    (∃ (v : Option Value) (vm₁ : Vm) (B : Pt), s.WarmedH vm₁ ∧ Stand p l e R s m args below meth c B.U B.locs B.cells B.slots ∧ Post ⟨T.setVm vm₁, locs, cells, slots⟩ (Value.ref b :: argsL).toArray v B ∧
      ∀ target, Steps p.tables e below (B.U.setTop { g with pc := g.pc + 3, stack := v.toList ++ rest }) target → Steps p.tables e below (T.setTop g) target) ∨
    (∃ (q : Addr) (vm₁ : Vm) (B : Pt), s.WarmedH vm₁ ∧ Stand p l e R s m args below meth c B.U B.locs B.cells B.slots ∧ PostX ⟨T.setVm vm₁, locs, cells, slots⟩ (Value.ref b :: argsL).toArray q B ∧
      Steps p.tables e below (T.setTop g) ((B.U.setTop { g with stack := rest }).pushFrame (.throwing q))) := by
  obtain ⟨mk, methM, hnamed, hmethM, hstM, habM⟩ := Cond.instanceMethod_spec hinst
  obtain ⟨methM', cM, hmethM', -, -, -, -, -, -, hsigM⟩ := Cond.code_spec hnamed hcode
  cases hmethM.symm.trans hmethM'
  obtain ⟨c2, r2, m2, q1, q2, q3, q4, kP, hkP, hkPi⟩ := Cond.selects_spec hsel
  cases hcls.symm.trans q1
  cases (State.methodFound?_of_named hnamed hy).symm.trans q2
  cases hnamed.symm.trans q3
  have hselP : selectMethod e.platform s.vm cellB.cls mk = .method mk := by rw [Launch.admits_selectMethod X.admits]; exact q4
  obtain ⟨vm₁, X₁, hstep₁⟩ := X.invokevirtual hexec hown hlink hnamed hmethM hstM hkP hkPi hy (a := b) (cell := cellB) hcell
    (fun z h => by rw [h] at hobj; cases hobj) hselP hmethM habM hkP hkPi (g := g) hg (argsL := argsL) (rest := rest) (hlen _ hsigM) hstack hdg
  rcases hK m meth c ⟨T.setVm vm₁, locs, cells, slots⟩ { g with stack := rest } (.invokevirtual index) mk (Value.ref b :: argsL).toArray X₁ hg hsize hdg hW (X₁.named hnamed) (hpre vm₁ X₁.warmed) with ⟨v, B, X', hpost, hsteps⟩ | ⟨q, B, X', hpost, hsteps⟩
  · exact Or.inl ⟨v, vm₁, B, X₁.warmed, X', hpost, fun target h => hstep₁ _ fun acts => by rw [doInvoke_state]; exact hsteps.trans h⟩
  · exact Or.inr ⟨q, vm₁, B, X₁.warmed, X', hpost, hstep₁ _ fun acts => by rw [doInvoke_state]; exact hsteps⟩
theorem vx_callS (X : Stand p l e R s m args below meth c T locs cells slots) (hexec : p.tables.exec = Jvm.exec) {own : String} {index : Nat} {y : MethodName} {bytes : ByteArray} {maxL : Nat} {ret : Option FieldType}
    (hown : s.vm.findClass own = some m.cls) (hlink : (Cond.methodLink own index y).before args s = true) (hstat : (Cond.static y).before args s = true) (hinit : (Cond.initialized y.cls).before args s = true)
    (hcode : (Cond.code y bytes maxL ret).before args s = true) (hy : y.cls ≠ "java/lang/invoke/MethodHandle" ∧ y.cls ≠ "java/lang/invoke/VarHandle")
    {W9 : Nat} {Pre : Pt → Array Value → Prop} {Post : Pt → Array Value → Option Value → Pt → Prop} {PostX : Pt → Array Value → Addr → Pt → Prop} (hK : vx_Back l R p e below s args y 3 W9 Pre Post PostX)
    {g : JFrame} (hg : g.method = m) (hsize : g.locals.size = c.maxLocals) {argsL rest : List Value} (hlen : ∀ sig, parseMethodDescriptor y.desc = some sig → argsL.length = sig.parameters.length)
    (hstack : g.stack = argsL.reverse ++ rest) (hW : 2 * g.monitorRoom + (rest.map fun v => v.category).sum ≤ W9) (hdg : decode c.code g.pc = .ok (.invokestatic index, 3))
    (hpre : ∀ vm₁, s.WarmedH vm₁ → Pre ⟨T.setVm vm₁, locs, cells, slots⟩ argsL.toArray) :
    (∃ (v : Option Value) (vm₁ : Vm) (B : Pt), s.WarmedH vm₁ ∧ Stand p l e R s m args below meth c B.U B.locs B.cells B.slots ∧ Post ⟨T.setVm vm₁, locs, cells, slots⟩ argsL.toArray v B ∧
      ∀ target, Steps p.tables e below (B.U.setTop { g with pc := g.pc + 3, stack := v.toList ++ rest }) target → Steps p.tables e below (T.setTop g) target) ∨
    (∃ (q : Addr) (vm₁ : Vm) (B : Pt), s.WarmedH vm₁ ∧ Stand p l e R s m args below meth c B.U B.locs B.cells B.slots ∧ PostX ⟨T.setVm vm₁, locs, cells, slots⟩ argsL.toArray q B ∧
      Steps p.tables e below (T.setTop g) ((B.U.setTop { g with stack := rest }).pushFrame (.throwing q))) := by
  obtain ⟨mk, hnamed⟩ := Cond.code_named hcode
  obtain ⟨methM, cM, hmethM, -, -, -, -, -, -, hsigM⟩ := Cond.code_spec hnamed hcode
  have hstatic : methM.isStatic = true := Cond.static_spec hnamed hmethM hstat
  obtain ⟨kP, hkP, -⟩ := className_of_methodNamed hnamed
  have hinitP : kP.init = .initialized := Cond.initialized_spec (findClass_of_methodNamed hnamed) hkP hinit
  obtain ⟨vm₁, X₁, hstep₁⟩ := X.invokestatic hexec hown hlink hnamed hmethM hstatic hkP hinitP hy (g := g) hg (argsL := argsL) (rest := rest) (hlen _ hsigM) hstack hdg
  rcases hK m meth c ⟨T.setVm vm₁, locs, cells, slots⟩ { g with stack := rest } (.invokestatic index) mk argsL.toArray X₁ hg hsize hdg hW (X₁.named hnamed) (hpre vm₁ X₁.warmed) with ⟨v, B, X', hpost, hsteps⟩ | ⟨q, B, X', hpost, hsteps⟩
  · exact Or.inl ⟨v, vm₁, B, X₁.warmed, X', hpost, fun target h => hstep₁ _ fun acts => by rw [doInvoke_state]; exact hsteps.trans h⟩
  · exact Or.inr ⟨q, vm₁, B, X₁.warmed, X', hpost, hstep₁ _ fun acts => by rw [doInvoke_state]; exact hsteps⟩
end Calls
theorem vx_cls {s : State} {T : State} {vm₁ : Vm} {E : String} {k : ClassId} (hW : s.WarmedH vm₁) (h : (T.setVm vm₁).vm.findClass E = some k) : s.vm.findClass E = some k := by
  have h1 : vm₁.findClass E = some k := h
  rw [hW.alike.findClass] at h1
  exact h1
/-- the method's frame g, with q thrown over it -/
def vx_W (p : Program) (l : Launch) (e : Env) (R : Room) (s : State) (m : MethodId) (args : Array Value) (below : List Frame) (meth : Method) (c : Code) (H : Heap) (locs : List Loc) (cells slots : Nat) (Q : State → Prop) (g : JFrame) (q : Addr) : Prop :=
  ∀ T : State, T.heap = H → Stand p l e R s m args below meth c T locs cells slots → ∃ t, Steps p.tables e below ((T.setTop g).pushFrame (.throwing q)) t ∧ Q t
def vx_Run (p : Program) (l : Launch) (e : Env) (R : Room) (s : State) (m : MethodId) (args : Array Value) (below : List Frame) (meth : Method) (c : Code) (H : Heap) (locs : List Loc) (cells slots mc ms : Nat) (g : JFrame) (rest : List Value) (Qa : State → Outcome → State → Prop) (XC : String → State → State → Prop) (free : Addr → Prop) : Prop :=
  ∀ T : State, T.heap = H → Stand p l e R s m args below meth c T locs cells slots →
    (∃ (v : Option Value) (st₀ t T' : State) (L : List Loc), st₀.heap = H ∧ Stand p l e R s m args below meth c T' (locs ++ L) (cells + mc) (slots + ms) ∧ (∀ q ∈ L, free q.base) ∧ T'.heap = t.heap ∧ T'.vm = t.vm ∧ Qa st₀ (.returned v) t ∧
      Goes p e below T g T' { g with pc := g.pc + 3, stack := v.toList ++ rest }) ∨
    (∃ (q : Addr) (st₀ t T' : State) (L : List Loc) (E : String) (ce : Cell), st₀.heap = H ∧ Stand p l e R s m args below meth c T' (locs ++ L) (cells + mc) (slots + ms) ∧ (∀ z ∈ L, free z.base) ∧ T'.heap = t.heap ∧ T'.vm = t.vm ∧ XC E st₀ t ∧ t.heap[q]? = some ce ∧ ce.vm = .none ∧ s.vm.findClass E = some ce.cls ∧
      Steps p.tables e below (T.setTop g) ((T'.setTop { g with stack := rest }).pushFrame (.throwing q)))
def vx_X {S : Type} (px : S → Prop) (B : String → S → State → Prop) (A : Nat → Prop) : String → State → State → Prop := fun E st t => ∃ u : S, px u ∧ B E u t ∧ va_F A st t
section Runs
variable {p : Program} {l : Launch} {e : Env} {R : Room} {s : State} {m : MethodId} {args : Array Value} {below : List Frame} {meth : Method} {c : Code} {H : Heap} {locs : List Loc} {cells slots : Nat}
variable {y : MethodName} {bytes cc : ByteArray} {maxL nL mc ms n index : Nat} {ret : Option FieldType} {ws : List Cond} {rm : Room} {Pc : Array Value → State → Prop} {Qc : Array Value → State → Outcome → State → Prop} {XC : String → State → State → Prop} {free : Addr → Prop} {Ts : List Cond} {own C : String} {b : Addr} {As rest : List Value} {g : JFrame}
theorem vx_callBack (cb : CallB R s args own index y bytes maxL ret ws rm mc ms n) (hM : vx_Met l y ws rm Pc Qc XC mc ms free) (hbl : FrameBlind Pc) : vx_Back l R p e below s args y 3 8 (PreOf R mc ms Pc) (PostOf Qc mc ms free) (vx_Post XC mc ms free) := by
  obtain ⟨hrc, hrs, hfr, hlo, hws, hcw, -, hini, -⟩ := cb
  exact vx_back (bytes := bytes) (maxL := maxL) (ret := ret) hM hbl hrc hrs hfr hlo hws hcw (fun a' U hW => word_at hW (Or.inl (by first | rfl | simp [Cond.onTables, Cond.keeps, Cond.steady])) hini)
theorem vx_runV (S : CallFix p m c cc nL s args Ts own) (hM : vx_Met l y ws rm Pc Qc XC mc ms free) (cw : CallW R s args own C index y bytes maxL ret ws rm mc ms n) (hp : PreV s H C b Pc As)
    (hg : g.method = m) (hn : As.length = n) (hsize : g.locals.size = nL) (hstack : g.stack = As.reverse ++ .ref b :: rest) (hW : 2 * g.monitorRoom + (rest.map fun v => v.category).sum ≤ 8) (hdg : decode cc g.pc = .ok (.invokevirtual index, 3)) (hf : cells + mc ≤ R.cells ∧ slots + ms ≤ R.slots) :
    vx_Run p l e R s m args below meth c H locs cells slots mc ms g rest (Qc (Value.ref b :: As).toArray) XC free := by
  have hK : vx_Back l R p e below s args y 3 8 (PreOf R mc ms Pc) (PostOf Qc mc ms free) (vx_Post XC mc ms free) := vx_callBack cw.1 hM hp.1
  obtain ⟨⟨-, -, -, -, -, -, hcode, -, hy, hlen, hl⟩, hin, hse⟩ := cw
  obtain ⟨hx, hb, hml, ho, -⟩ := S
  obtain ⟨-, ⟨cellB, hcB, hoB, hclB⟩, hPc⟩ := hp
  intro T hT X
  rcases vx_callV X hx (C := C) (bytes := bytes) (maxL := maxL) (ret := ret) ho hl hin hse hcode hy hK (by rw [hT]; exact hcB) hoB hclB hg (hsize.trans hml.symm) (argsL := As) (rest := rest) (fun sig h => hn.trans (hlen sig h)) hstack hW (by rw [hb]; exact hdg)
    (fun vm₁ hW₁ => ⟨hf.1, hf.2, hPc (T.setVm vm₁) hT hW₁⟩) with ⟨v, vm₁, ⟨U', l2, c2, s2⟩, hW₁, X', ⟨g', mk, t, L, e1, e2, hq, h1, hL, h2, h3⟩, st⟩ | ⟨q, vm₁, ⟨U', l2, c2, s2⟩, hW₁, X', ⟨g', mk, t, L, E, ce, e1, e2, hq, hce, hcv, hcl, h1, hL, h2, h3⟩, st⟩
  · dsimp only [Pt.U, Pt.locs, Pt.cells, Pt.slots] at X' e1 e2 h1 h2 h3 st
    subst h1; subst h2; subst h3
    exact Or.inl ⟨v, (T.setVm vm₁).calling g' mk (Value.ref b :: As).toArray, t, U', L, hT, X', hL, e1, e2, hq, st⟩
  · dsimp only [Pt.U, Pt.locs, Pt.cells, Pt.slots] at X' e1 e2 h1 h2 h3 st hcl
    subst h1; subst h2; subst h3
    exact Or.inr ⟨q, (T.setVm vm₁).calling g' mk (Value.ref b :: As).toArray, t, U', L, E, ce, hT, X', hL, e1, e2, hq, hce, hcv, vx_cls hW₁ hcl, st⟩
theorem vx_runS (S : CallFix p m c cc nL s args Ts own) (hM : vx_Met l y ws rm Pc Qc XC mc ms free) (cw : CallB R s args own index y bytes maxL ret ws rm mc ms n ∧ (Cond.static y).before args s = true) (hp : PreS s H Pc As)
    (hg : g.method = m) (hn : As.length = n) (hsize : g.locals.size = nL) (hstack : g.stack = As.reverse ++ rest) (hW : 2 * g.monitorRoom + (rest.map fun v => v.category).sum ≤ 8) (hdg : decode cc g.pc = .ok (.invokestatic index, 3)) (hf : cells + mc ≤ R.cells ∧ slots + ms ≤ R.slots) :
    vx_Run p l e R s m args below meth c H locs cells slots mc ms g rest (Qc As.toArray) XC free := by
  have hK : vx_Back l R p e below s args y 3 8 (PreOf R mc ms Pc) (PostOf Qc mc ms free) (vx_Post XC mc ms free) := vx_callBack cw.1 hM hp.1
  obtain ⟨⟨-, -, -, -, -, -, hcode, hini, hy, hlen, hl⟩, hstt⟩ := cw
  obtain ⟨hx, hb, hml, ho, -⟩ := S
  intro T hT X
  rcases vx_callS X hx (bytes := bytes) (maxL := maxL) (ret := ret) ho hl hstt hini hcode hy hK hg (hsize.trans hml.symm) (argsL := As) (rest := rest) (fun sig h => hn.trans (hlen sig h)) hstack hW (by rw [hb]; exact hdg)
    (fun vm₁ hW₁ => ⟨hf.1, hf.2, hp.2 (T.setVm vm₁) hT hW₁⟩) with ⟨v, vm₁, ⟨U', l2, c2, s2⟩, hW₁, X', ⟨g', mk, t, L, e1, e2, hq, h1, hL, h2, h3⟩, st⟩ | ⟨q, vm₁, ⟨U', l2, c2, s2⟩, hW₁, X', ⟨g', mk, t, L, E, ce, e1, e2, hq, hce, hcv, hcl, h1, hL, h2, h3⟩, st⟩
  · dsimp only [Pt.U, Pt.locs, Pt.cells, Pt.slots] at X' e1 e2 h1 h2 h3 st
    subst h1; subst h2; subst h3
    exact Or.inl ⟨v, (T.setVm vm₁).calling g' mk As.toArray, t, U', L, hT, X', hL, e1, e2, hq, st⟩
  · dsimp only [Pt.U, Pt.locs, Pt.cells, Pt.slots] at X' e1 e2 h1 h2 h3 st hcl
    subst h1; subst h2; subst h3
    exact Or.inr ⟨q, (T.setVm vm₁).calling g' mk As.toArray, t, U', L, E, ce, hT, X', hL, e1, e2, hq, hce, hcv, vx_cls hW₁ hcl, st⟩
end Runs
section Rows
variable {p : Program} {l : Launch} {e : Env} {R : Room} {s : State} {m : MethodId} {args : Array Value} {below : List Frame} {meth : Method} {c : Code} {H : Heap} {locs : List Loc} {cells slots : Nat} {Q : State → Prop}
variable {mc ms : Nat} {free : Addr → Prop} {A0 A1 : Nat → Prop} {H0 : Heap} {a : Array Value} {pc : Nat} {ls : Array Slot} {st0 rest : List Value}
theorem vx_keep {st₀ t T' : State} {L : List Loc} (h0 : st₀.heap = H) (e1 : T'.heap = t.heap) (hS : va_S A0 H0 H locs) (hA : ∀ q, q < H.size → A1 q → A0 q) (hf : ∀ q, free q → A0 q) (hL : ∀ q ∈ L, free q.base) (hF : va_F A1 st₀ t) :
    H.size ≤ T'.heap.size ∧ (∀ q : Nat, q < H.size → ¬ A1 q → T'.heap[q]? = H[q]?) ∧ va_S A0 H0 T'.heap (locs ++ L) := by
  obtain ⟨hz, hk⟩ := hF
  rw [h0] at hz hk
  exact ⟨by rw [e1]; exact hz, fun q h1 h2 => by rw [e1]; exact hk q h1 h2,
    ⟨Nat.le_trans hS.1 (by rw [e1]; exact hz), fun q h1 h2 => by rw [e1, hk q (Nat.lt_of_lt_of_le h1 hS.1) (fun z => h2 (hA q (Nat.lt_of_lt_of_le h1 hS.1) z))]; exact hS.2.1 q h1 h2, fun q hq => by
      rcases List.mem_append.mp hq with h | h
      · exact hS.2.2 q h
      · exact hf _ (hL q h)⟩⟩
theorem vx_calli {S SX : Type} {post : Int32 → S → Prop} {px : SX → Prop} {B : S → State → Prop} {BX : String → SX → State → Prop} {AX : Nat → Prop} (hr : vx_Run p l e R s m args below meth c H locs cells slots mc ms (F0 m pc ls st0) rest (va_Qi post B A1 a) (vx_X px BX AX) free) (hS : va_S A0 H0 H locs) (hA : ∀ q, q < H.size → A1 q → A0 q) (hf : ∀ q, free q → A0 q) (hAX : ∀ q, q < H.size → AX q → A0 q)
    (kx : ∀ (E : String) (ce : Cell) (q9 : Addr) (u : SX) (t : State) (H1 : Heap) (locs1 : List Loc), t.heap = H1 → s.vm.Alike t.vm → px u → BX E u t → H.size ≤ H1.size → (∀ q : Nat, q < H.size → ¬ AX q → H1[q]? = H[q]?) → va_S A0 H0 H1 locs1 → H1[q9]? = some ce → ce.vm = .none → s.vm.findClass E = some ce.cls → vx_W p l e R s m args below meth c H1 locs1 (cells + mc) (slots + ms) Q (F0 m pc ls rest) q9)
    (kk : ∀ (r : Int32) (u : S) (t : State) (H1 : Heap) (locs1 : List Loc), t.heap = H1 → s.vm.Alike t.vm → post r u → B u t → H.size ≤ H1.size → (∀ q : Nat, q < H.size → ¬ A1 q → H1[q]? = H[q]?) → va_S A0 H0 H1 locs1 → W p l e R s m args below meth c H1 locs1 (cells + mc) (slots + ms) Q (F0 m (pc + 3) ls (.int r :: rest))) : W p l e R s m args below meth c H locs cells slots Q (F0 m pc ls st0) := by
  intro T hT X
  rcases hr T hT X with ⟨v, st₀, t, T', L, h0, X', hL, e1, e2, ⟨⟨r, u, hv, hp, hb⟩, hF⟩, st⟩ | ⟨q, st₀, t, T', L, E, ce, h0, X', hL, e1, e2, ⟨u, hp, hb, hF⟩, hce, hcv, hcl, st⟩
  · cases hv
    obtain ⟨k1, k2, k3⟩ := vx_keep h0 e1 hS hA hf hL hF
    obtain ⟨t2, a1, b1⟩ := kk r u t T'.heap (locs ++ L) e1.symm (by rw [← e2]; exact X'.warmed.alike) hp hb k1 k2 k3 T' rfl X'
    exact ⟨t2, st t2 a1, b1⟩
  · obtain ⟨k1, k2, k3⟩ := vx_keep h0 e1 hS hAX hf hL hF
    obtain ⟨t2, a1, b1⟩ := kx E ce q u t T'.heap (locs ++ L) e1.symm (by rw [← e2]; exact X'.warmed.alike) hp hb k1 k2 k3 (by rw [e1]; exact hce) hcv hcl T' rfl X'
    exact ⟨t2, st.trans a1, b1⟩
theorem vx_calll {S SX : Type} {post : Int64 → S → Prop} {px : SX → Prop} {B : S → State → Prop} {BX : String → SX → State → Prop} {AX : Nat → Prop} (hr : vx_Run p l e R s m args below meth c H locs cells slots mc ms (F0 m pc ls st0) rest (va_Ql post B A1 a) (vx_X px BX AX) free) (hS : va_S A0 H0 H locs) (hA : ∀ q, q < H.size → A1 q → A0 q) (hf : ∀ q, free q → A0 q) (hAX : ∀ q, q < H.size → AX q → A0 q)
    (kx : ∀ (E : String) (ce : Cell) (q9 : Addr) (u : SX) (t : State) (H1 : Heap) (locs1 : List Loc), t.heap = H1 → s.vm.Alike t.vm → px u → BX E u t → H.size ≤ H1.size → (∀ q : Nat, q < H.size → ¬ AX q → H1[q]? = H[q]?) → va_S A0 H0 H1 locs1 → H1[q9]? = some ce → ce.vm = .none → s.vm.findClass E = some ce.cls → vx_W p l e R s m args below meth c H1 locs1 (cells + mc) (slots + ms) Q (F0 m pc ls rest) q9)
    (kk : ∀ (r : Int64) (u : S) (t : State) (H1 : Heap) (locs1 : List Loc), t.heap = H1 → s.vm.Alike t.vm → post r u → B u t → H.size ≤ H1.size → (∀ q : Nat, q < H.size → ¬ A1 q → H1[q]? = H[q]?) → va_S A0 H0 H1 locs1 → W p l e R s m args below meth c H1 locs1 (cells + mc) (slots + ms) Q (F0 m (pc + 3) ls (.long r :: rest))) : W p l e R s m args below meth c H locs cells slots Q (F0 m pc ls st0) := by
  intro T hT X
  rcases hr T hT X with ⟨v, st₀, t, T', L, h0, X', hL, e1, e2, ⟨⟨r, u, hv, hp, hb⟩, hF⟩, st⟩ | ⟨q, st₀, t, T', L, E, ce, h0, X', hL, e1, e2, ⟨u, hp, hb, hF⟩, hce, hcv, hcl, st⟩
  · cases hv
    obtain ⟨k1, k2, k3⟩ := vx_keep h0 e1 hS hA hf hL hF
    obtain ⟨t2, a1, b1⟩ := kk r u t T'.heap (locs ++ L) e1.symm (by rw [← e2]; exact X'.warmed.alike) hp hb k1 k2 k3 T' rfl X'
    exact ⟨t2, st t2 a1, b1⟩
  · obtain ⟨k1, k2, k3⟩ := vx_keep h0 e1 hS hAX hf hL hF
    obtain ⟨t2, a1, b1⟩ := kx E ce q u t T'.heap (locs ++ L) e1.symm (by rw [← e2]; exact X'.warmed.alike) hp hb k1 k2 k3 (by rw [e1]; exact hce) hcv hcl T' rfl X'
    exact ⟨t2, st.trans a1, b1⟩
theorem vx_callf {S SX : Type} {post : UInt32 → S → Prop} {px : SX → Prop} {B : S → State → Prop} {BX : String → SX → State → Prop} {AX : Nat → Prop} (hr : vx_Run p l e R s m args below meth c H locs cells slots mc ms (F0 m pc ls st0) rest (va_Qf post B A1 a) (vx_X px BX AX) free) (hS : va_S A0 H0 H locs) (hA : ∀ q, q < H.size → A1 q → A0 q) (hf : ∀ q, free q → A0 q) (hAX : ∀ q, q < H.size → AX q → A0 q)
    (kx : ∀ (E : String) (ce : Cell) (q9 : Addr) (u : SX) (t : State) (H1 : Heap) (locs1 : List Loc), t.heap = H1 → s.vm.Alike t.vm → px u → BX E u t → H.size ≤ H1.size → (∀ q : Nat, q < H.size → ¬ AX q → H1[q]? = H[q]?) → va_S A0 H0 H1 locs1 → H1[q9]? = some ce → ce.vm = .none → s.vm.findClass E = some ce.cls → vx_W p l e R s m args below meth c H1 locs1 (cells + mc) (slots + ms) Q (F0 m pc ls rest) q9)
    (kk : ∀ (r : UInt32) (u : S) (t : State) (H1 : Heap) (locs1 : List Loc), t.heap = H1 → s.vm.Alike t.vm → post r u → B u t → H.size ≤ H1.size → (∀ q : Nat, q < H.size → ¬ A1 q → H1[q]? = H[q]?) → va_S A0 H0 H1 locs1 → W p l e R s m args below meth c H1 locs1 (cells + mc) (slots + ms) Q (F0 m (pc + 3) ls (.float r :: rest))) : W p l e R s m args below meth c H locs cells slots Q (F0 m pc ls st0) := by
  intro T hT X
  rcases hr T hT X with ⟨v, st₀, t, T', L, h0, X', hL, e1, e2, ⟨⟨r, u, hv, hp, hb⟩, hF⟩, st⟩ | ⟨q, st₀, t, T', L, E, ce, h0, X', hL, e1, e2, ⟨u, hp, hb, hF⟩, hce, hcv, hcl, st⟩
  · cases hv
    obtain ⟨k1, k2, k3⟩ := vx_keep h0 e1 hS hA hf hL hF
    obtain ⟨t2, a1, b1⟩ := kk r u t T'.heap (locs ++ L) e1.symm (by rw [← e2]; exact X'.warmed.alike) hp hb k1 k2 k3 T' rfl X'
    exact ⟨t2, st t2 a1, b1⟩
  · obtain ⟨k1, k2, k3⟩ := vx_keep h0 e1 hS hAX hf hL hF
    obtain ⟨t2, a1, b1⟩ := kx E ce q u t T'.heap (locs ++ L) e1.symm (by rw [← e2]; exact X'.warmed.alike) hp hb k1 k2 k3 (by rw [e1]; exact hce) hcv hcl T' rfl X'
    exact ⟨t2, st.trans a1, b1⟩
theorem vx_calld {S SX : Type} {post : UInt64 → S → Prop} {px : SX → Prop} {B : S → State → Prop} {BX : String → SX → State → Prop} {AX : Nat → Prop} (hr : vx_Run p l e R s m args below meth c H locs cells slots mc ms (F0 m pc ls st0) rest (va_Qd post B A1 a) (vx_X px BX AX) free) (hS : va_S A0 H0 H locs) (hA : ∀ q, q < H.size → A1 q → A0 q) (hf : ∀ q, free q → A0 q) (hAX : ∀ q, q < H.size → AX q → A0 q)
    (kx : ∀ (E : String) (ce : Cell) (q9 : Addr) (u : SX) (t : State) (H1 : Heap) (locs1 : List Loc), t.heap = H1 → s.vm.Alike t.vm → px u → BX E u t → H.size ≤ H1.size → (∀ q : Nat, q < H.size → ¬ AX q → H1[q]? = H[q]?) → va_S A0 H0 H1 locs1 → H1[q9]? = some ce → ce.vm = .none → s.vm.findClass E = some ce.cls → vx_W p l e R s m args below meth c H1 locs1 (cells + mc) (slots + ms) Q (F0 m pc ls rest) q9)
    (kk : ∀ (r : UInt64) (u : S) (t : State) (H1 : Heap) (locs1 : List Loc), t.heap = H1 → s.vm.Alike t.vm → post r u → B u t → H.size ≤ H1.size → (∀ q : Nat, q < H.size → ¬ A1 q → H1[q]? = H[q]?) → va_S A0 H0 H1 locs1 → W p l e R s m args below meth c H1 locs1 (cells + mc) (slots + ms) Q (F0 m (pc + 3) ls (.double r :: rest))) : W p l e R s m args below meth c H locs cells slots Q (F0 m pc ls st0) := by
  intro T hT X
  rcases hr T hT X with ⟨v, st₀, t, T', L, h0, X', hL, e1, e2, ⟨⟨r, u, hv, hp, hb⟩, hF⟩, st⟩ | ⟨q, st₀, t, T', L, E, ce, h0, X', hL, e1, e2, ⟨u, hp, hb, hF⟩, hce, hcv, hcl, st⟩
  · cases hv
    obtain ⟨k1, k2, k3⟩ := vx_keep h0 e1 hS hA hf hL hF
    obtain ⟨t2, a1, b1⟩ := kk r u t T'.heap (locs ++ L) e1.symm (by rw [← e2]; exact X'.warmed.alike) hp hb k1 k2 k3 T' rfl X'
    exact ⟨t2, st t2 a1, b1⟩
  · obtain ⟨k1, k2, k3⟩ := vx_keep h0 e1 hS hAX hf hL hF
    obtain ⟨t2, a1, b1⟩ := kx E ce q u t T'.heap (locs ++ L) e1.symm (by rw [← e2]; exact X'.warmed.alike) hp hb k1 k2 k3 (by rw [e1]; exact hce) hcv hcl T' rfl X'
    exact ⟨t2, st.trans a1, b1⟩
theorem vx_callv {S SX : Type} {post : S → Prop} {px : SX → Prop} {B : S → State → Prop} {BX : String → SX → State → Prop} {AX : Nat → Prop} (hr : vx_Run p l e R s m args below meth c H locs cells slots mc ms (F0 m pc ls st0) rest (va_Qv post B A1 a) (vx_X px BX AX) free) (hS : va_S A0 H0 H locs) (hA : ∀ q, q < H.size → A1 q → A0 q) (hf : ∀ q, free q → A0 q) (hAX : ∀ q, q < H.size → AX q → A0 q)
    (kx : ∀ (E : String) (ce : Cell) (q9 : Addr) (u : SX) (t : State) (H1 : Heap) (locs1 : List Loc), t.heap = H1 → s.vm.Alike t.vm → px u → BX E u t → H.size ≤ H1.size → (∀ q : Nat, q < H.size → ¬ AX q → H1[q]? = H[q]?) → va_S A0 H0 H1 locs1 → H1[q9]? = some ce → ce.vm = .none → s.vm.findClass E = some ce.cls → vx_W p l e R s m args below meth c H1 locs1 (cells + mc) (slots + ms) Q (F0 m pc ls rest) q9)
    (kk : ∀ (u : S) (t : State) (H1 : Heap) (locs1 : List Loc), t.heap = H1 → s.vm.Alike t.vm → post u → B u t → H.size ≤ H1.size → (∀ q : Nat, q < H.size → ¬ A1 q → H1[q]? = H[q]?) → va_S A0 H0 H1 locs1 → W p l e R s m args below meth c H1 locs1 (cells + mc) (slots + ms) Q (F0 m (pc + 3) ls (rest))) : W p l e R s m args below meth c H locs cells slots Q (F0 m pc ls st0) := by
  intro T hT X
  rcases hr T hT X with ⟨v, st₀, t, T', L, h0, X', hL, e1, e2, ⟨⟨u, hv, hp, hb⟩, hF⟩, st⟩ | ⟨q, st₀, t, T', L, E, ce, h0, X', hL, e1, e2, ⟨u, hp, hb, hF⟩, hce, hcv, hcl, st⟩
  · cases hv
    obtain ⟨k1, k2, k3⟩ := vx_keep h0 e1 hS hA hf hL hF
    obtain ⟨t2, a1, b1⟩ := kk u t T'.heap (locs ++ L) e1.symm (by rw [← e2]; exact X'.warmed.alike) hp hb k1 k2 k3 T' rfl X'
    exact ⟨t2, st t2 a1, b1⟩
  · obtain ⟨k1, k2, k3⟩ := vx_keep h0 e1 hS hAX hf hL hF
    obtain ⟨t2, a1, b1⟩ := kx E ce q u t T'.heap (locs ++ L) e1.symm (by rw [← e2]; exact X'.warmed.alike) hp hb k1 k2 k3 (by rw [e1]; exact hce) hcv hcl T' rfl X'
    exact ⟨t2, st.trans a1, b1⟩
/-- caught by the row x of this method's table; the rows ahead don't take it -/
theorem vx_catch {own name : String} {E : String} {ce : Cell} {q : Addr} (hown : s.vm.findClass own = some m.cls) (pre : List ExceptionTableEntry) (x : ExceptionTableEntry) (suf : List ExceptionTableEntry) (hsplit : c.exceptionTable.toList = pre ++ x :: suf)
    (hpass : ∀ z ∈ pre, covers z pc = false ∨ (z.catchType ≠ 0 ∧ ∃ nm : String, (Cond.classLink own z.catchType nm).before args s = true ∧ va_Nc E nm s)) (hx : covers x pc = true) (h0 : x.catchType ≠ 0)
    (hlink : (Cond.classLink own x.catchType name).before args s = true) (hcast : (Cond.castable E name).before args s = true) (hcell : H[q]? = some ce) (hv : ce.vm = .none) (hcl : s.vm.findClass E = some ce.cls)
    (kk : W p l e R s m args below meth c H locs cells slots Q (F0 m x.handlerPc ls [.ref q])) : vx_W p l e R s m args below meth c H locs cells slots Q (F0 m pc ls rest) q := by
  intro T hT X
  have hpl : e.platform.magicAccessors = ({} : Platform).magicAccessors := by rw [X.admits.platform]
  obtain ⟨c3, c4, hc3, hc4, hasg⟩ := Cond.castable_spec hcast
  cases Option.some.inj (hc3.symm.trans hcl)
  obtain ⟨c5, hc5, hcl5⟩ := Cond.classLink_spec hown hlink e.platform hpl
  cases Option.some.inj (hc4.symm.trans hc5)
  obtain ⟨vm', X', st⟩ := X.thenCaughtThrough q (g := F0 m pc ls rest) rfl (Steps.refl _) (by rw [hT]; exact hcell) (by rw [hv]; rfl) (by obtain ⟨k9, h9, -⟩ := Vm.findClass_spec hcl; exact ⟨k9, h9⟩) pre x suf hsplit
    (fun z hz => by
      rcases hpass z hz with h | ⟨hz0, nm, hl1, hn1⟩
      · exact Or.inl h
      · obtain ⟨c6, hc6, hcl6⟩ := Cond.classLink_spec hown hl1 e.platform hpl
        obtain ⟨a8, b8, h1, h2, h3⟩ := hn1
        cases Option.some.inj (h1.symm.trans hcl)
        cases Option.some.inj (h2.symm.trans hc6)
        exact Or.inr ⟨hz0, _, hcl6, h3⟩) hx (Or.inr ⟨h0, c4, hcl5, hasg⟩)
  obtain ⟨t, a1, b1⟩ := kk (T.setVm vm') hT X'
  exact ⟨t, st.trans a1, b1⟩
end Rows
section Ends
variable {p : Program} {l : Launch} {e : Env} {R : Room} {s : State} {m : MethodId} {args : Array Value} {below : List Frame} {meth : Method} {c : Code} {H : Heap} {locs : List Loc} {cells slots : Nat} {Q : State → Prop}
variable {mc ms : Nat} {free : Addr → Prop} {A0 A1 : Nat → Prop} {H0 : Heap} {a : Array Value} {ls : Array Slot} {st0 rest : List Value}
variable {Qc : Array Value → State → Outcome → State → Prop} {XC : String → State → State → Prop}
/-- what a body that may throw owes at its end -/
def vx_MQ (below : List Frame) (Qc : Array Value → State → Outcome → State → Prop) (XC : String → State → State → Prop) (a : Array Value) (s : State) (mc ms : Nat) (free : Addr → Prop) : State → Prop := fun t =>
  ∃ o, t.status = .running ∧ Ended t below o ∧ vx_Q Qc XC mc ms free a s o t
theorem vx_ret {g : JFrame} {mc ms : Nat} (k : W p l e R s m args below meth c H locs cells slots (MQ below Qc args s mc ms free) g) : W p l e R s m args below meth c H locs cells slots (vx_MQ below Qc XC args s mc ms free) g := by
  intro T hT X
  obtain ⟨t, a1, o, b1, b2, b3, b4⟩ := k T hT X
  exact ⟨t, a1, o, b1, b2, Or.inl ⟨b3, b4⟩⟩
/-- not caught here: it goes on to the caller -/
theorem vx_widen {g : JFrame} {q : Addr} {k n : Nat} (h1 : cells ≤ k) (h2 : slots ≤ n) (kk : vx_W p l e R s m args below meth c H locs k n Q g q) : vx_W p l e R s m args below meth c H locs cells slots Q g q := fun T hT X => kk T hT (stand_widen X h1 h2)
theorem vx_out {pc : Nat} {E : String} {ce : Cell} {q : Addr} {mc ms : Nat} (hout : ∀ x ∈ c.exceptionTable.toList, covers x pc = false) (hlocks : meth.locks = false) (hcell : H[q]? = some ce) (hv : ce.vm = .none) (hcl : s.vm.findClass E = some ce.cls)
    (hx : ∀ t : State, t.heap = H → s.vm.Alike t.vm → XC E s t) (hf : ∀ z ∈ locs, free z.base) (hc : cells ≤ mc) (hs : slots ≤ ms) :
    vx_W p l e R s m args below meth c H locs cells slots (vx_MQ below Qc XC args s mc ms free) (F0 m pc ls rest) q := by
  intro T hT X
  obtain ⟨st1, hrun, hend, hW, hsm⟩ := X.leaveThrown q (g := F0 m pc ls rest) rfl rfl rfl hout hlocks
  have hcell9 : (T.setFrames (.throwing q :: below)).heap[q]? = some ce := by
    show T.heap[q]? = some ce
    rw [hT]; exact hcell
  exact ⟨_, st1, .threw q, hrun, hend, Or.inr ⟨q, rfl, E, ce, locs, hx _ hT hW.alike, hcell9, hv, hcl, hW, hsm.mono hc hs, hf⟩⟩
theorem vx_frame {U : State} {k n : Nat} (h : s.sameButNew ({ U with vm := s.vm } : State) locs k n) : s.heap.size ≤ U.heap.size ∧ ∀ q : Nat, q < s.heap.size → (∀ z ∈ locs, z.base ≠ q) → U.heap[q]? = s.heap[q]? := by
  obtain ⟨-, h2, -, -, -, h6⟩ := h
  refine ⟨h2, fun q hq hz => ?_⟩
  obtain ⟨c9, e1, e2, e3, e4⟩ := h6 q _ (Array.getElem?_eq_getElem hq)
  have hs : c9.slots = (s.heap[q]).slots := Array.ext_getElem? fun i => e4 i fun hm => hz _ hm rfl
  have h9 : c9 = s.heap[q] := by
    rw [hs] at e2
    exact e2
  have e5 : U.heap[q]? = some c9 := e1
  rw [e5, h9, Array.getElem?_eq_getElem hq]
/-- the words of a throw but the four that speak of the heap -/
def vx_no (w : Cond) : Bool := decide (w ≠ .isRef (.static Bundle.tN "UNASSIGNED_STACK" Bundle.steD)) && decide (w ≠ .isRef (.static Bundle.tN "SUPPRESSED_SENTINEL" Bundle.listD)) && decide (w ≠ .laysStatic Bundle.tN "UNASSIGNED_STACK" Bundle.steD) && decide (w ≠ .laysStatic Bundle.tN "SUPPRESSED_SENTINEL" Bundle.listD)
def vx_at0 (own : String) (ic : Nat) (X : String) (names : List String) : List Cond := (Bundle.ownAtoms0 own ic X names).filter vx_no
def vx_atS (own : String) (ic : Nat) (X : String) (names : List String) : List Cond := (Bundle.ownAtoms own ic X names).filter vx_no
/-- a word that the tables alone decide, or a good one -/
def vx_ot (w : Cond) : Bool := w.onTables || goodWord w
theorem vx_ot_at {args a' : Array Value} {s U : State} {w : Cond} (hW : s.WarmedH U.vm) (hvm : s.vm = U.vm) (hg : vx_ot w = true) (h : w.before args s = true) : w.before a' U = true := by
  simp only [vx_ot, Bool.or_eq_true] at hg
  rcases hg with hg | hg
  · exact va_tabs hg hvm h
  · exact word_at hW (good_of_word hg) h
/-- a list's words: the good ones out of the method's own list, the others by premises of their own -/
theorem vx_hat {args : Array Value} {s : State} {L B : List Cond} (h1 : ∀ w ∈ L.filter goodWord, w.before args s = true) (h2 : ∀ w ∈ L.filter (fun w => !goodWord w), w ∈ B) (h3 : ∀ w ∈ B, w.before args s = true) : ∀ w ∈ L, w.before args s = true := by
  intro w hw
  by_cases g : goodWord w = true
  · exact h1 w (List.mem_filter.mpr ⟨hw, g⟩)
  · refine h3 w (h2 w (List.mem_filter.mpr ⟨hw, ?_⟩))
    show (!goodWord w) = true
    cases hgw : goodWord w
    · rfl
    · exact absurd hgw g
theorem vx_c {args : Array Value} {s : State} {w : Cond} {B : List Cond} (h : w.before args s = true) (t : ∀ w ∈ B, w.before args s = true) : ∀ w' ∈ w :: B, w'.before args s = true := fun w' h' => (List.mem_cons.mp h').elim (fun e => by rw [e]; exact h) (t w')
theorem vx_n {args : Array Value} {s : State} : ∀ w ∈ ([] : List Cond), w.before args s = true := fun _ h => nomatch h
theorem vx_own {args : Array Value} {s : State} {L : List Cond} (h1 : ∀ w ∈ L.filter vx_no, w.before args s = true)
    (hU : (Cond.isRef (.static Bundle.tN "UNASSIGNED_STACK" Bundle.steD)).before args s = true) (hN : (Cond.isRef (.static Bundle.tN "SUPPRESSED_SENTINEL" Bundle.listD)).before args s = true)
    (lU : (Cond.laysStatic Bundle.tN "UNASSIGNED_STACK" Bundle.steD).before args s = true) (lN : (Cond.laysStatic Bundle.tN "SUPPRESSED_SENTINEL" Bundle.listD).before args s = true) : ∀ w ∈ L, w.before args s = true := by
  intro w hw
  by_cases e1 : w = .isRef (.static Bundle.tN "UNASSIGNED_STACK" Bundle.steD)
  · rw [e1]; exact hU
  · by_cases e2 : w = .isRef (.static Bundle.tN "SUPPRESSED_SENTINEL" Bundle.listD)
    · rw [e2]; exact hN
    · by_cases e3 : w = .laysStatic Bundle.tN "UNASSIGNED_STACK" Bundle.steD
      · rw [e3]; exact lU
      · by_cases e4 : w = .laysStatic Bundle.tN "SUPPRESSED_SENTINEL" Bundle.listD
        · rw [e4]; exact lN
        · exact h1 w (List.mem_filter.mpr ⟨hw, by unfold vx_no; rw [decide_eq_true e1, decide_eq_true e2, decide_eq_true e3, decide_eq_true e4]; rfl⟩)
/-- where a static field lies, its class's statics cell in H -/
def vx_L (C n d : String) (A : Nat → Prop) (U : State) (H : Heap) : Prop := ∃ (c : ClassId) (k : Class) (i : Nat) (f : Field) (a : Nat) (cell : Cell), U.vm.findClass C = some c ∧ U.fieldFound? C n d = some (c, k, i, f) ∧ f.isStatic = true ∧ k.statics = some a ∧ H[a]? = some cell ∧ cell.vm.isStatics = true ∧ cell.cls = c ∧ f.slot < cell.slots.size ∧ k.staticTypes[f.slot]? = some f.type ∧ ¬ A a
theorem vx_L.moved {C n d : String} {A : Nat → Prop} {u U : State} {H : Heap} (hvm : u.vm.Alike U.vm) (h : vx_L C n d A u H) : vx_L C n d A U H := by
  obtain ⟨c, k, i, f, a, cell, h1, h2, h3, h4, h5, h6, h7, h8, h9, h10⟩ := h
  obtain ⟨k', hi', he⟩ := State.fieldFound?_setVm hvm h2
  exact ⟨c, k', i, f, a, cell, by rw [hvm.findClass]; exact h1, hi', h3, by rw [he]; exact h4, h5, h6, h7, h8, by rw [he]; exact h9, h10⟩
theorem vx_L.kept {C n d : String} {A : Nat → Prop} {U : State} {H H1 : Heap} (h : vx_L C n d A U H) (hq : ∀ a : Nat, a < H.size → ¬ A a → H1[a]? = H[a]?) : vx_L C n d A U H1 := by
  obtain ⟨c, k, i, f, a, cell, h1, h2, h3, h4, h5, h6, h7, h8, h9, h10⟩ := h
  exact ⟨c, k, i, f, a, cell, h1, h2, h3, h4, by rw [hq a (Array.getElem?_eq_some_iff.mp h5).1 h10]; exact h5, h6, h7, h8, h9, h10⟩
theorem vx_L.narrow {C n d : String} {A B : Nat → Prop} {U : State} {H : Heap} (h : vx_L C n d A U H) (hAB : ∀ q, B q → A q) : vx_L C n d B U H := by
  obtain ⟨c, k, i, f, a, cell, h1, h2, h3, h4, h5, h6, h7, h8, h9, h10⟩ := h
  exact ⟨c, k, i, f, a, cell, h1, h2, h3, h4, h5, h6, h7, h8, h9, fun z => h10 (hAB _ z)⟩
theorem vx_L.word {C n d : String} {A : Nat → Prop} {s : State} {args : Array Value} (h : vx_L C n d A s s.heap) : (Cond.laysStatic C n d).before args s = true := by
  obtain ⟨c, k, i, f, a, cell, h1, h2, h3, h4, h5, h6, h7, h8, h9, -⟩ := h
  show (Cond.laysStatic C n d).holds args s none s [] = true
  exact Cond.laysStatic_of h1 h2 h3 h4 h5 h6 h7 h8 h9
/-- .. and what it holds: null or some reference -/
def vx_Zq (C n d : String) (A : Nat → Prop) (U : State) (H : Heap) : Prop := va_Zq C n d A U H ∧ vx_L C n d A U H
theorem vx_Zq.moved {C n d : String} {A : Nat → Prop} {u U : State} {H : Heap} (hvm : u.vm.Alike U.vm) (h : vx_Zq C n d A u H) : vx_Zq C n d A U H := ⟨va_Zq.moved hvm h.1, vx_L.moved hvm h.2⟩
theorem vx_Zq.kept {C n d : String} {A : Nat → Prop} {U : State} {H H1 : Heap} (h : vx_Zq C n d A U H) (hq : ∀ a : Nat, a < H.size → ¬ A a → H1[a]? = H[a]?) : vx_Zq C n d A U H1 := ⟨va_Zq.kept h.1 hq, vx_L.kept h.2 hq⟩
theorem vx_Zq.narrow {C n d : String} {A B : Nat → Prop} {U : State} {H : Heap} (h : vx_Zq C n d A U H) (hAB : ∀ q, B q → A q) : vx_Zq C n d B U H := ⟨va_Zq.narrow h.1 hAB, vx_L.narrow h.2 hAB⟩
theorem vx_Zqof {args : Array Value} {s : State} {C n d : String} {A : Nat → Prop} (hl : (Cond.laysStatic C n d).before args s = true) (hini : (Cond.initialized C).before args s = true) (h : (Cond.isRef (.static C n d)).before args s = true) (hA : ∀ a : Nat, a < s.heap.size → ¬ A a) : vx_Zq C n d A s s.heap := by
  refine ⟨va_Zqof hl hini h hA, ?_⟩
  obtain ⟨c, k, i, f, a, cell, h1, h2, h3, h4, h5, h6, h7, h8, h9⟩ := Cond.laysStatic_spec hl
  exact ⟨c, k, i, f, a, cell, h1, h2, h3, h4, h5, h6, h7, h8, h9, hA a (Array.getElem?_eq_some_iff.mp h5).1⟩
theorem vx_isRef {C n d : String} {v : Value} {A : Nat → Prop} {s : State} {args : Array Value} (h : va_Z C n d v A s s.heap) (hv : v.isRef = true) : (Cond.isRef (.static C n d)).before args s = true := by
  obtain ⟨cf, kf, fi, f, a, cell, h1, h2, h3, h4, h5, h6, h7, -⟩ := h
  have he : (Term.static C n d).eval args s none [] s = some v := by
    simp [Term.eval, State.fieldNamed?, h1, h2, h4, h5, h6, h7]
  simp only [Cond.before, Cond.holds, Cond.value, he]
  cases v <;> simp_all [Value.isRef]
theorem vx_isRefq {C n d : String} {A : Nat → Prop} {s : State} {args : Array Value} (h : va_Zq C n d A s s.heap) : (Cond.isRef (.static C n d)).before args s = true := by
  rcases h with h | ⟨t, h⟩
  · exact vx_isRef h rfl
  · exact vx_isRef h rfl
/-- the same frame, seen from here: as if the method were called anew in this heap -/
theorem vx_rebase {T : State} (X : Stand p l e R s m args below meth c T locs cells slots) {R' : Room} (hf : R'.frames ≤ R.frames) (hl : R'.locals ≤ R.locals) (hc : cells + R'.cells ≤ R.cells) (hs : slots + R'.slots ≤ R.slots) :
    Stand p l e R' ((T.setVm s.vm).setFrames (.invoking m args :: below)) m args below meth c T [] 0 0 := by
  have htop : (T.setVm s.vm).topJava?.isSome := X.here.top
  have hF : ((T.setVm s.vm).setFrames (.invoking m args :: below)).frames = .invoking m args :: below := State.frames_setFrames _ (State.cur_lt_of_top htop)
  obtain ⟨g₀, hg0⟩ := Option.isSome_iff_exists.mp htop
  obtain ⟨r, hr⟩ := State.topJava?_eq_some.mp hg0
  have hl9 : e.platform.stackLimits (T.setVm s.vm).me = e.platform.stackLimits s.me := X.limits
  have hb9 : (T.setVm s.vm).me.stackBytes = s.me.stackBytes := X.bytes
  refine ⟨X.admits, X.cas, X.clock, hF, ?_, X.hears, X.method, X.code, X.here, X.tail, X.warmed, ?_, ?_, ?_⟩
  · have h := X.room
    have hU : ((T.setVm s.vm).setFrames (.invoking m args :: below)).localsInUse = s.localsInUse := by
      rw [State.localsInUse_invoking hF (meth := meth) (c := c) X.method X.code, State.localsInUse_invoking X.frames X.method X.code]
    simp only [State.hasRoom, Bool.and_eq_true, decide_eq_true_eq] at h ⊢
    obtain ⟨⟨⟨⟨h1, h2, h3, h4, h5, h6⟩, h7⟩, h8⟩, h9⟩ := h
    rw [X.frames, List.length_cons] at h2 h3
    have q1 := X.heapSize
    have q2 := X.used
    simp only [hF, hU, List.length_cons, State.stackLimits_setFrames, State.stackBytes_setFrames, hl9, hb9]
    refine ⟨⟨⟨⟨by omega, by omega, by omega, by omega, by omega, h6⟩, ?_⟩, ?_⟩, X.book⟩
    · show T.heap.size + R'.cells ≤ e.platform.maxCells
      omega
    · show T.slotsUsed + R'.slots ≤ e.platform.maxSlots
      omega
  · rw [State.stackLimits_setFrames]; rfl
  · rw [State.stackBytes_setFrames]; rfl
  · refine ⟨?_, Nat.le_refl _, Nat.le_refl _, ?_, ?_, fun a c9 h9 => ⟨c9, h9, rfl, rfl, fun _ _ => rfl⟩⟩
    · obtain ⟨t, ht, -⟩ := State.frames_cons hr
      show T.setVm s.vm = { ((T.setVm s.vm).setFrames (.invoking m args :: below)).setFrames (T.setVm s.vm).frames with heap := T.heap, slotsUsed := T.slotsUsed }
      rw [State.setFrames_setFrames, State.setFrames_self ht]
      rfl
    · show T.slotsUsed = T.slotsUsed + ((T.heap.toList.drop T.heap.size).map (·.slots.size)).sum
      rw [List.drop_eq_nil_of_le (Nat.le_of_eq Array.length_toList)]
      rfl
    · show ((T.heap.toList.drop T.heap.size).map (·.slots.size)).sum ≤ 0
      rw [List.drop_eq_nil_of_le (Nat.le_of_eq Array.length_toList)]
      exact Nat.le_refl _
/-- 'throw new E()': new; dup; invokespecial; athrow -/
theorem vx_throw0 {cc : ByteArray} {pc : Nat} (hexec : p.tables.exec = Jvm.exec) (hb : c.code = cc) (hl : l.stackTraces = false) {own cls : String} {names : List String} {ik ic mc ms : Nat} {A : Nat → Prop}
    (hown : s.vm.findClass own = some m.cls) (hcls : Bundle.fit cls = true) (hnames : ∀ n ∈ names, Bundle.fit n = true)
    (hk : (Cond.classLink own ik cls).before args s = true) (hini : (Cond.initialized cls).before args s = true) (hat : ∀ w ∈ vx_at0 own ic cls names, w.before args s = true)
    (hgood : ∀ w ∈ Cond.classLink own ik cls :: Cond.initialized cls :: vx_at0 own ic cls names, vx_ot w = true)
    (hU : vx_Zq Bundle.tN "UNASSIGNED_STACK" Bundle.steD A s s.heap) (hN : vx_Zq Bundle.tN "SUPPRESSED_SENTINEL" Bundle.listD A s s.heap) (hS : va_S A s.heap H locs) (hsize : ls.size = c.maxLocals)
    (d0 : decode cc pc = .ok (.new ik, 3)) (d3 : decode cc (pc + 3) = .ok (.dup, 1)) (d4 : decode cc (pc + 4) = .ok (.invokespecial ic, 3)) (d7 : decode cc (pc + 7) = .ok (.athrow, 1))
    (hout : ∀ x ∈ c.exceptionTable.toList, covers x (pc + 7) = false)
    (hRframes : names.length + 3 < R.frames) (hRlocals : (rest.map fun v => v.category).sum + (13 * (names.length + 1) + 42) ≤ R.locals) (hRcells : cells + 1 ≤ R.cells) (hRslots : slots + 6 ≤ R.slots) (hlocks : meth.locks = false)
    (hx : ∀ t : State, s.vm.Alike t.vm → H.size ≤ t.heap.size → (∀ q : Nat, q < H.size → t.heap[q]? = H[q]?) → XC cls s t)
    (hf : ∀ z ∈ locs, free z.base) (hc : cells + 1 ≤ mc) (hs : slots + 6 ≤ ms) :
    W p l e R s m args below meth c H locs cells slots (vx_MQ below Qc XC args s mc ms free) (F0 m pc ls rest) := by
  intro T hT X
  have htr : e.platform.stackTraces = false := (show e.platform.stackTraces = l.stackTraces by rw [X.admits.platform]).trans hl
  have Y := vx_rebase X (R' := { frames := R.frames, locals := R.locals, cells := 1, slots := 6 }) (Nat.le_refl _) (Nat.le_refl _) hRcells hRslots
  obtain ⟨s', hA⟩ : ∃ z, z = (T.setVm s.vm).setFrames (.invoking m args :: below) := ⟨_, rfl⟩
  rw [← hA] at Y
  have hvm : s'.vm = s.vm := by rw [hA]; rfl
  have hhp : s'.heap = H := by rw [hA]; exact hT
  have hW0 : s.WarmedH s'.vm := by rw [hvm]; exact State.WarmedH.refl s
  have hat' : ∀ w ∈ vx_at0 own ic cls names, w.before args s' = true := fun w hw => vx_ot_at hW0 hvm.symm (hgood w (List.mem_cons_of_mem _ (List.mem_cons_of_mem _ hw))) (hat w hw)
  have hk' : (Cond.classLink own ik cls).before args s' = true := vx_ot_at hW0 hvm.symm (hgood _ List.mem_cons_self) hk
  have hini' : (Cond.initialized cls).before args s' = true := vx_ot_at hW0 hvm.symm (hgood _ (List.mem_cons_of_mem _ List.mem_cons_self)) hini
  have hU' : vx_Zq Bundle.tN "UNASSIGNED_STACK" Bundle.steD A s' s'.heap := by rw [hhp]; exact vx_Zq.moved hW0.alike (hU.kept hS.2.1)
  have hN' : vx_Zq Bundle.tN "SUPPRESSED_SENTINEL" Bundle.listD A s' s'.heap := by rw [hhp]; exact vx_Zq.moved hW0.alike (hN.kept hS.2.1)
  have h : ∀ w ∈ Bundle.ownAtoms0 own ic cls names, w.before args s' = true := vx_own hat' (vx_isRefq hU'.1) (vx_isRefq hN'.1) hU'.2.word hN'.2.word
  have hown' : s'.vm.findClass own = some m.cls := by rw [hvm]; exact hown
  have hins : (Cond.instantiable cls 6).before args s' = true := h _ (by simp [Bundle.ownAtoms0])
  obtain ⟨vm₁, cX, kX, hfX, hkX, -, -, X₁, st1⟩ := Y.newCold hexec (own := own) (C := cls) (index := ik) (n := 6) hown' hk' hins hini'
    (g := F0 m pc ls rest) rfl (by rw [hb]; exact d0) (Nat.le_refl _) (Nat.le_refl _)
  generalize hT1 : (T.setVm vm₁).pushCell { cls := cX, slots := kX.instanceTypes.map defaultValue, vm := .none } = T1 at X₁ st1
  have hcat : (Value.ref T.heap.size).category = 1 := rfl
  have hcellA : T1.heap[T.heap.size]? = some (freshCell cX kX) := by rw [← hT1]; exact State.heap_pushCell_size _ _
  have d3' : decode c.code (pc + 3) = .ok (.dup, 1) := by rw [hb]; exact d3
  obtain ⟨U, hsteps, hrun, hend, hW, hsame, ce, hce, hO⟩ := X₁.ctorThrow0 hexec htr (own := own) (cls := cls) (names := names) (ic := ic) hown' hcls hnames h (fun x hx => nomatch hx) hfX hkX hcellA (by rw [hhp, hT]; exact Nat.le_refl _)
    (g := { method := m, pc := pc + 4, locals := ls, stack := .ref T.heap.size :: .ref T.heap.size :: rest, locked := none }) rfl hsize rfl rfl (rest := rest) rfl
    (by rw [hb]; exact d4) (by rw [hb]; exact d7) hout hRframes (by simp only [List.map_cons, List.sum_cons, hcat]; omega) hlocks
  obtain ⟨f1, f2⟩ := vx_frame hsame
  rw [hhp] at f1 f2
  have hWs : s.WarmedH U.vm := State.WarmedH.trans hW0 hW
  have hcl : s.vm.findClass cls = some ce.cls := by
    have h9 := hO.cls
    rw [hvm] at h9
    exact h9
  have hall : s.sameButNew ({ U with vm := s.vm } : State) locs mc ms := by
    subst hA
    obtain ⟨e1, e2⟩ := hsame
    rw [State.setFrames_setFrames] at e1
    have h2 : (T.setVm s.vm).sameButNew ({ U with vm := s.vm } : State) [] (0 + 1) (0 + 6) := ⟨e1, e2⟩
    have h3 := X.same.trans h2
    rw [List.append_nil] at h3
    exact h3.mono hc hs
  refine ⟨U, ?_, .threw T.heap.size, hrun, hend, Or.inr ⟨T.heap.size, rfl, cls, ce, locs, hx U hWs.alike f1 (fun q hq => f2 q hq (fun z hz => nomatch hz)), hce, hO.vm, hcl, hWs, hall, hf⟩⟩
  refine st1 _ ?_
  show Steps p.tables e below (T1.setTop { method := m, pc := pc + 3, locals := ls, stack := .ref T.heap.size :: rest, locked := none }) _
  jvm_step X₁.here [X₁.here.top, hexec, d3', Value.category]
  exact hsteps
/-- 'throw new E("text")': new; dup; ldc; invokespecial; athrow -/
theorem vx_throwS {cc : ByteArray} {pc : Nat} (hexec : p.tables.exec = Jvm.exec) (hb : c.code = cc) (hl : l.stackTraces = false) {own cls text : String} {names : List String} {ik is ic mc ms sa : Nat} {A : Nat → Prop}
    (hown : s.vm.findClass own = some m.cls) (hcls : Bundle.fit cls = true) (hnames : ∀ n ∈ names, Bundle.fit n = true)
    (hk : (Cond.classLink own ik cls).before args s = true) (hini : (Cond.initialized cls).before args s = true) (hstr : vk_R own is text sa s) (hat : ∀ w ∈ vx_atS own ic cls names, w.before args s = true)
    (hgood : ∀ w ∈ Cond.classLink own ik cls :: Cond.initialized cls :: vx_atS own ic cls names, vx_ot w = true)
    (hU : vx_Zq Bundle.tN "UNASSIGNED_STACK" Bundle.steD A s s.heap) (hN : vx_Zq Bundle.tN "SUPPRESSED_SENTINEL" Bundle.listD A s s.heap) (hS : va_S A s.heap H locs) (hsize : ls.size = c.maxLocals)
    (d0 : decode cc pc = .ok (.new ik, 3)) (d3 : decode cc (pc + 3) = .ok (.dup, 1)) (d4 : decode cc (pc + 4) = .ok (.ldc is, 2)) (d6 : decode cc (pc + 6) = .ok (.invokespecial ic, 3)) (d9 : decode cc (pc + 9) = .ok (.athrow, 1))
    (hout : ∀ x ∈ c.exceptionTable.toList, covers x (pc + 9) = false)
    (hRframes : names.length + 3 < R.frames) (hRlocals : (rest.map fun v => v.category).sum + (13 * (names.length + 1) + 43) ≤ R.locals) (hRcells : cells + 1 ≤ R.cells) (hRslots : slots + 6 ≤ R.slots) (hlocks : meth.locks = false)
    (hx : ∀ t : State, s.vm.Alike t.vm → H.size ≤ t.heap.size → (∀ q : Nat, q < H.size → t.heap[q]? = H[q]?) → XC cls s t)
    (hf : ∀ z ∈ locs, free z.base) (hc : cells + 1 ≤ mc) (hs : slots + 6 ≤ ms) :
    W p l e R s m args below meth c H locs cells slots (vx_MQ below Qc XC args s mc ms free) (F0 m pc ls rest) := by
  intro T hT X
  have htr : e.platform.stackTraces = false := (show e.platform.stackTraces = l.stackTraces by rw [X.admits.platform]).trans hl
  have Y := vx_rebase X (R' := { frames := R.frames, locals := R.locals, cells := 1, slots := 6 }) (Nat.le_refl _) (Nat.le_refl _) hRcells hRslots
  obtain ⟨s', hA⟩ : ∃ z, z = (T.setVm s.vm).setFrames (.invoking m args :: below) := ⟨_, rfl⟩
  rw [← hA] at Y
  have hvm : s'.vm = s.vm := by rw [hA]; rfl
  have hhp : s'.heap = H := by rw [hA]; exact hT
  have hW0 : s.WarmedH s'.vm := by rw [hvm]; exact State.WarmedH.refl s
  have hat' : ∀ w ∈ vx_atS own ic cls names, w.before args s' = true := fun w hw => vx_ot_at hW0 hvm.symm (hgood w (List.mem_cons_of_mem _ (List.mem_cons_of_mem _ hw))) (hat w hw)
  have hk' : (Cond.classLink own ik cls).before args s' = true := vx_ot_at hW0 hvm.symm (hgood _ List.mem_cons_self) hk
  have hini' : (Cond.initialized cls).before args s' = true := vx_ot_at hW0 hvm.symm (hgood _ (List.mem_cons_of_mem _ List.mem_cons_self)) hini
  have hU' : vx_Zq Bundle.tN "UNASSIGNED_STACK" Bundle.steD A s' s'.heap := by rw [hhp]; exact vx_Zq.moved hW0.alike (hU.kept hS.2.1)
  have hN' : vx_Zq Bundle.tN "SUPPRESSED_SENTINEL" Bundle.listD A s' s'.heap := by rw [hhp]; exact vx_Zq.moved hW0.alike (hN.kept hS.2.1)
  have h : ∀ w ∈ Bundle.ownAtoms own ic cls names, w.before args s' = true := vx_own hat' (vx_isRefq hU'.1) (vx_isRefq hN'.1) hU'.2.word hN'.2.word
  have hown' : s'.vm.findClass own = some m.cls := by rw [hvm]; exact hown
  have hins : (Cond.instantiable cls 6).before args s' = true := h _ (by simp [Bundle.ownAtoms])
  obtain ⟨vm₁, cX, kX, hfX, hkX, -, -, X₁, st1⟩ := Y.newCold hexec (own := own) (C := cls) (index := ik) (n := 6) hown' hk' hins hini'
    (g := F0 m pc ls rest) rfl (by rw [hb]; exact d0) (Nat.le_refl _) (Nat.le_refl _)
  generalize hT1 : (T.setVm vm₁).pushCell { cls := cX, slots := kX.instanceTypes.map defaultValue, vm := .none } = T1 at X₁ st1
  have hcat : (Value.ref T.heap.size).category = 1 := rfl
  have hcellA : T1.heap[T.heap.size]? = some (freshCell cX kX) := by rw [← hT1]; exact State.heap_pushCell_size _ _
  have d3' : decode c.code (pc + 3) = .ok (.dup, 1) := by rw [hb]; exact d3
  have d4' : decode c.code (pc + 4) = .ok (.ldc is, 2) := by rw [hb]; exact d4
  have hstr' : vk_R own is text sa s' := vk_R.warm hW0 hstr
  obtain ⟨U, hsteps, hrun, hend, hW, hsame, ce, hce, hO⟩ := X₁.ctorThrowS hexec htr (own := own) (cls := cls) (names := names) (ic := ic) hown' hcls hnames h (fun x hx => nomatch hx) hfX hkX hcellA (by rw [hhp, hT]; exact Nat.le_refl _) (msg := .ref sa) rfl
    (g := { method := m, pc := pc + 6, locals := ls, stack := .ref sa :: .ref T.heap.size :: .ref T.heap.size :: rest, locked := none }) rfl hsize rfl rfl (rest := rest) rfl
    (by rw [hb]; exact d6) (by rw [hb]; exact d9) hout hRframes (by simp only [List.map_cons, List.sum_cons, hcat]; omega) hlocks
  obtain ⟨f1, f2⟩ := vx_frame hsame
  rw [hhp] at f1 f2
  have hWs : s.WarmedH U.vm := State.WarmedH.trans hW0 hW
  have hcl : s.vm.findClass cls = some ce.cls := by
    have h9 := hO.cls
    rw [hvm] at h9
    exact h9
  have hall : s.sameButNew ({ U with vm := s.vm } : State) locs mc ms := by
    subst hA
    obtain ⟨e1, e2⟩ := hsame
    rw [State.setFrames_setFrames] at e1
    have h2 : (T.setVm s.vm).sameButNew ({ U with vm := s.vm } : State) [] (0 + 1) (0 + 6) := ⟨e1, e2⟩
    have h3 := X.same.trans h2
    rw [List.append_nil] at h3
    exact h3.mono hc hs
  refine ⟨U, ?_, .threw T.heap.size, hrun, hend, Or.inr ⟨T.heap.size, rfl, cls, ce, locs, hx U hWs.alike f1 (fun q hq => f2 q hq (fun z hz => nomatch hz)), hce, hO.vm, hcl, hWs, hall, hf⟩⟩
  refine st1 _ ?_
  show Steps p.tables e below (T1.setTop { method := m, pc := pc + 3, locals := ls, stack := .ref T.heap.size :: rest, locked := none }) _
  jvm_step X₁.here [X₁.here.top, hexec, d3', Value.category]
  exact X₁.ldcString hexec (own := own) (text := text) (index := is) (a := sa) hown' hstr'.1 hstr'.2
    (g := { method := m, pc := pc + 4, locals := ls, stack := .ref T.heap.size :: .ref T.heap.size :: rest, locked := none }) rfl d4' _ hsteps
/-- 'throw new E("text")', the text by a wide index -/
theorem vx_throwSW {cc : ByteArray} {pc : Nat} (hexec : p.tables.exec = Jvm.exec) (hb : c.code = cc) (hl : l.stackTraces = false) {own cls text : String} {names : List String} {ik is ic mc ms sa : Nat} {A : Nat → Prop}
    (hown : s.vm.findClass own = some m.cls) (hcls : Bundle.fit cls = true) (hnames : ∀ n ∈ names, Bundle.fit n = true)
    (hk : (Cond.classLink own ik cls).before args s = true) (hini : (Cond.initialized cls).before args s = true) (hstr : vk_R own is text sa s) (hat : ∀ w ∈ vx_atS own ic cls names, w.before args s = true)
    (hgood : ∀ w ∈ Cond.classLink own ik cls :: Cond.initialized cls :: vx_atS own ic cls names, vx_ot w = true)
    (hU : vx_Zq Bundle.tN "UNASSIGNED_STACK" Bundle.steD A s s.heap) (hN : vx_Zq Bundle.tN "SUPPRESSED_SENTINEL" Bundle.listD A s s.heap) (hS : va_S A s.heap H locs) (hsize : ls.size = c.maxLocals)
    (d0 : decode cc pc = .ok (.new ik, 3)) (d3 : decode cc (pc + 3) = .ok (.dup, 1)) (d4 : decode cc (pc + 4) = .ok (.ldc_w is, 3)) (d7 : decode cc (pc + 7) = .ok (.invokespecial ic, 3)) (d10 : decode cc (pc + 10) = .ok (.athrow, 1))
    (hout : ∀ x ∈ c.exceptionTable.toList, covers x (pc + 10) = false)
    (hRframes : names.length + 3 < R.frames) (hRlocals : (rest.map fun v => v.category).sum + (13 * (names.length + 1) + 43) ≤ R.locals) (hRcells : cells + 1 ≤ R.cells) (hRslots : slots + 6 ≤ R.slots) (hlocks : meth.locks = false)
    (hx : ∀ t : State, s.vm.Alike t.vm → H.size ≤ t.heap.size → (∀ q : Nat, q < H.size → t.heap[q]? = H[q]?) → XC cls s t)
    (hf : ∀ z ∈ locs, free z.base) (hc : cells + 1 ≤ mc) (hs : slots + 6 ≤ ms) :
    W p l e R s m args below meth c H locs cells slots (vx_MQ below Qc XC args s mc ms free) (F0 m pc ls rest) := by
  intro T hT X
  have htr : e.platform.stackTraces = false := (show e.platform.stackTraces = l.stackTraces by rw [X.admits.platform]).trans hl
  have Y := vx_rebase X (R' := { frames := R.frames, locals := R.locals, cells := 1, slots := 6 }) (Nat.le_refl _) (Nat.le_refl _) hRcells hRslots
  obtain ⟨s', hA⟩ : ∃ z, z = (T.setVm s.vm).setFrames (.invoking m args :: below) := ⟨_, rfl⟩
  rw [← hA] at Y
  have hvm : s'.vm = s.vm := by rw [hA]; rfl
  have hhp : s'.heap = H := by rw [hA]; exact hT
  have hW0 : s.WarmedH s'.vm := by rw [hvm]; exact State.WarmedH.refl s
  have hat' : ∀ w ∈ vx_atS own ic cls names, w.before args s' = true := fun w hw => vx_ot_at hW0 hvm.symm (hgood w (List.mem_cons_of_mem _ (List.mem_cons_of_mem _ hw))) (hat w hw)
  have hk' : (Cond.classLink own ik cls).before args s' = true := vx_ot_at hW0 hvm.symm (hgood _ List.mem_cons_self) hk
  have hini' : (Cond.initialized cls).before args s' = true := vx_ot_at hW0 hvm.symm (hgood _ (List.mem_cons_of_mem _ List.mem_cons_self)) hini
  have hU' : vx_Zq Bundle.tN "UNASSIGNED_STACK" Bundle.steD A s' s'.heap := by rw [hhp]; exact vx_Zq.moved hW0.alike (hU.kept hS.2.1)
  have hN' : vx_Zq Bundle.tN "SUPPRESSED_SENTINEL" Bundle.listD A s' s'.heap := by rw [hhp]; exact vx_Zq.moved hW0.alike (hN.kept hS.2.1)
  have h : ∀ w ∈ Bundle.ownAtoms own ic cls names, w.before args s' = true := vx_own hat' (vx_isRefq hU'.1) (vx_isRefq hN'.1) hU'.2.word hN'.2.word
  have hown' : s'.vm.findClass own = some m.cls := by rw [hvm]; exact hown
  have hins : (Cond.instantiable cls 6).before args s' = true := h _ (by simp [Bundle.ownAtoms])
  obtain ⟨vm₁, cX, kX, hfX, hkX, -, -, X₁, st1⟩ := Y.newCold hexec (own := own) (C := cls) (index := ik) (n := 6) hown' hk' hins hini'
    (g := F0 m pc ls rest) rfl (by rw [hb]; exact d0) (Nat.le_refl _) (Nat.le_refl _)
  generalize hT1 : (T.setVm vm₁).pushCell { cls := cX, slots := kX.instanceTypes.map defaultValue, vm := .none } = T1 at X₁ st1
  have hcat : (Value.ref T.heap.size).category = 1 := rfl
  have hcellA : T1.heap[T.heap.size]? = some (freshCell cX kX) := by rw [← hT1]; exact State.heap_pushCell_size _ _
  have d3' : decode c.code (pc + 3) = .ok (.dup, 1) := by rw [hb]; exact d3
  have d4' : decode c.code (pc + 4) = .ok (.ldc_w is, 3) := by rw [hb]; exact d4
  have hstr' : vk_R own is text sa s' := vk_R.warm hW0 hstr
  obtain ⟨U, hsteps, hrun, hend, hW, hsame, ce, hce, hO⟩ := X₁.ctorThrowS hexec htr (own := own) (cls := cls) (names := names) (ic := ic) hown' hcls hnames h (fun x hx => nomatch hx) hfX hkX hcellA (by rw [hhp, hT]; exact Nat.le_refl _) (msg := .ref sa) rfl
    (g := { method := m, pc := pc + 7, locals := ls, stack := .ref sa :: .ref T.heap.size :: .ref T.heap.size :: rest, locked := none }) rfl hsize rfl rfl (rest := rest) rfl
    (by rw [hb]; exact d7) (by rw [hb]; exact d10) hout hRframes (by simp only [List.map_cons, List.sum_cons, hcat]; omega) hlocks
  obtain ⟨f1, f2⟩ := vx_frame hsame
  rw [hhp] at f1 f2
  have hWs : s.WarmedH U.vm := State.WarmedH.trans hW0 hW
  have hcl : s.vm.findClass cls = some ce.cls := by
    have h9 := hO.cls
    rw [hvm] at h9
    exact h9
  have hall : s.sameButNew ({ U with vm := s.vm } : State) locs mc ms := by
    subst hA
    obtain ⟨e1, e2⟩ := hsame
    rw [State.setFrames_setFrames] at e1
    have h2 : (T.setVm s.vm).sameButNew ({ U with vm := s.vm } : State) [] (0 + 1) (0 + 6) := ⟨e1, e2⟩
    have h3 := X.same.trans h2
    rw [List.append_nil] at h3
    exact h3.mono hc hs
  refine ⟨U, ?_, .threw T.heap.size, hrun, hend, Or.inr ⟨T.heap.size, rfl, cls, ce, locs, hx U hWs.alike f1 (fun q hq => f2 q hq (fun z hz => nomatch hz)), hce, hO.vm, hcl, hWs, hall, hf⟩⟩
  refine st1 _ ?_
  show Steps p.tables e below (T1.setTop { method := m, pc := pc + 3, locals := ls, stack := .ref T.heap.size :: rest, locked := none }) _
  jvm_step X₁.here [X₁.here.top, hexec, d3', Value.category]
  exact X₁.ldcStringW hexec (own := own) (text := text) (index := is) (a := sa) hown' hstr'.1 hstr'.2
    (g := { method := m, pc := pc + 4, locals := ls, stack := .ref T.heap.size :: .ref T.heap.size :: rest, locked := none }) rfl d4' _ hsteps
end Ends
section Bodies
variable {l : Launch}
theorem vx_ofW {y : MethodName} {ws ws' : List Cond} {rm : Room} {Pc : Array Value → State → Prop} {Qc : Array Value → State → Outcome → State → Prop} {XC : String → State → State → Prop} {mc ms : Nat} {free : Addr → Prop} {cc : ByteArray} {maxL : Nat} {ret : Option FieldType}
    (hy : plainName y.cls = true) (hw : ws = Cond.code y cc maxL ret :: ws')
    (body : ∀ p e s m args below meth c s₁, BodyLoose p l y (headSpec ws rm) cc maxL ret e s m args below meth c s₁ → c.maxLocals = maxL → (∀ x ∈ c.exceptionTable.toList, False) → Pc args s →
      W p l e (headSpec ws rm).room s m args below meth c s.heap [] 0 0 (vx_MQ below Qc XC args s mc ms free) (entryFrame m args maxL)) : vx_Met l y ws rm Pc Qc XC mc ms free := by
  refine MetFree.of_bodyS (code := cc) (maxLocals := maxL) (ret := ret) hy ?_ ?_
  · intro args s m h hn
    obtain ⟨meth, c, h1, h2, h3, h4, h5, h6, -, -⟩ := Cond.code_spec hn (atoms_spec (ws := ws) h _ (by rw [hw]; exact List.mem_cons_self))
    exact ⟨meth, c, h1, h2, h3, h4, h5, h6⟩
  · intro p e s m args below meth c s₁ B hml hP _
    have hh0 : s₁.heap = s.heap := by rw [B.state]; rfl
    have ht : ∀ x ∈ c.exceptionTable.toList, False := by
      obtain ⟨meth9, c9, h1, h2, -, -, -, -, h7, -⟩ := Cond.code_spec B.named (atoms_spec (ws := ws) B.pre _ (by rw [hw]; exact List.mem_cons_self))
      cases Option.some.inj (h1.symm.trans B.method)
      cases Option.some.inj (h2.symm.trans (Stand.of_body B).code)
      intro x hx
      rw [Array.isEmpty_iff.mp h7] at hx
      cases hx
    obtain ⟨t, a1, o, b1, b2, b3⟩ := body p e s m args below meth c s₁ B hml ht hP s₁ hh0 (Stand.of_body B)
    exact ⟨t, o, a1, b1, b2, b3⟩
/-- the table of a body with handlers -/
theorem vx_table {p : Program} {x y : MethodName} {S : Spec} {cc bytes : ByteArray} {maxL maxL' : Nat} {ret ret' : Option FieldType} {e : Env} {s s₁ : State} {m : MethodId} {args : Array Value} {below : List Frame} {meth : Method} {c : Code} {hh : List (Nat × Nat × Nat × Nat)}
    (B : BodyLoose p l y S cc maxL ret e s m args below meth c s₁) (h : (Cond.codeWith y bytes maxL' ret' hh).before args s = true) : c.exceptionTable.toList = tableOf hh := by
  obtain ⟨m9, meth9, c9, hn9, h1, h2, -, -, h6, -⟩ := Cond.codeWith_spec h
  cases Option.some.inj (hn9.symm.trans B.named)
  cases Option.some.inj (h1.symm.trans B.method)
  cases Option.some.inj (h2.symm.trans (Stand.of_body B).code)
  rw [← h6, table_eq]
end Bodies
end VXA
/-! ===== END ===== -/
/-! ===== BEGIN a static call of a method with an exception table ===== -/
section VXS
variable {p : Program} {l : Launch} {e : Env} {R : Room} {s : State} {m : MethodId} {args : Array Value} {below : List Frame} {meth : Method} {c : Code} {T : State} {H : Heap} {locs : List Loc} {cells slots : Nat}
abbrev vx_CSW (R : Room) (s : State) (args : Array Value) (own : String) (index : Nat) (y : MethodName) (bytes : ByteArray) (maxL : Nat) (ret : Option FieldType) (hh : List (Nat × Nat × Nat × Nat)) (ws : List Cond) (rm : Room) (mc ms n : Nat) : Prop :=
  (rm.cells = mc ∧ rm.slots = ms ∧ rm.frames + 1 ≤ R.frames ∧ 8 + (maxL + 11) + rm.locals ≤ R.locals ∧ (∀ w ∈ ws, ∀ (a' : Array Value) (U : State), s.WarmedH U.vm → w.before a' U = true) ∧ Cond.codeWith y bytes maxL ret hh ∈ ws) ∧
  (Cond.codeWith y bytes maxL ret hh).before args s = true ∧ (Cond.initialized y.cls).before args s = true ∧ (y.cls ≠ "java/lang/invoke/MethodHandle" ∧ y.cls ≠ "java/lang/invoke/VarHandle") ∧
  (∀ sig, parseMethodDescriptor y.desc = some sig → n = sig.parameters.length) ∧ (Cond.methodLink own index y).before args s = true ∧ (Cond.static y).before args s = true
theorem vx_cwSW {own : String} {index maxL mc ms : Nat} {y : MethodName} {bytes : ByteArray} {ret : Option FieldType} {hh : List (Nat × Nat × Nat × Nat)} {Ts ws ws' : List Cond} {rm : Room} (n : Nat) (ht : ∀ w ∈ Ts, w.before args s = true) (hT : GoodIn Ts (va_wsS own index y ws)) (hw : ws = Cond.codeWith y bytes maxL ret hh :: ws') (hrc : rm.cells = mc) (hrs : rm.slots = ms)
    (hd : y.cls ≠ "java/lang/invoke/MethodHandle" ∧ y.cls ≠ "java/lang/invoke/VarHandle" ∧ (parseMethodDescriptor y.desc).map (fun d => d.parameters.length) = some n) (hR : rm.frames + 1 ≤ R.frames ∧ 8 + (maxL + 11) + rm.locals ≤ R.locals) :
    vx_CSW R s args own index y bytes maxL ret hh ws rm mc ms n := by
  have ok : ∀ w ∈ va_wsS own index y ws, w.before args s = true := fun w h => ht w (hT w h).1
  have hG : GoodIn Ts ws := fun w h => hT w (by unfold va_wsS; exact List.mem_append_right _ h)
  have hc : Cond.codeWith y bytes maxL ret hh ∈ ws := by rw [hw]; exact List.mem_cons_self
  refine ⟨⟨hrc, hrs, hR.1, hR.2, pay_in ht hG, hc⟩, ht _ (hG _ hc).1, ok _ (by simp [va_wsS]), ⟨hd.1, hd.2.1⟩, fun sig h => ?_, ok _ (by simp [va_wsS]), ok _ (by simp [va_wsS])⟩
  have h2 := hd.2.2
  rw [h] at h2
  exact (Option.some.inj h2).symm
theorem vx_callSW (X : Stand p l e R s m args below meth c T locs cells slots) (hexec : p.tables.exec = Jvm.exec) {own : String} {index : Nat} {y : MethodName} {bytes : ByteArray} {maxL : Nat} {ret : Option FieldType} {hh : List (Nat × Nat × Nat × Nat)}
    (hown : s.vm.findClass own = some m.cls) (hlink : (Cond.methodLink own index y).before args s = true) (hstat : (Cond.static y).before args s = true) (hinit : (Cond.initialized y.cls).before args s = true)
    (hcode : (Cond.codeWith y bytes maxL ret hh).before args s = true) (hy : y.cls ≠ "java/lang/invoke/MethodHandle" ∧ y.cls ≠ "java/lang/invoke/VarHandle")
    {W9 : Nat} {Pre : Pt → Array Value → Prop} {Post : Pt → Array Value → Option Value → Pt → Prop} (hK : Back l R p e below s args y 3 W9 Pre Post)
    {g : JFrame} (hg : g.method = m) (hsize : g.locals.size = c.maxLocals) {argsL rest : List Value} (hlen : ∀ sig, parseMethodDescriptor y.desc = some sig → argsL.length = sig.parameters.length)
    (hstack : g.stack = argsL.reverse ++ rest) (hW : 2 * g.monitorRoom + (rest.map fun v => v.category).sum ≤ W9) (hdg : decode c.code g.pc = .ok (.invokestatic index, 3))
    (hpre : ∀ vm₁, s.WarmedH vm₁ → Pre ⟨T.setVm vm₁, locs, cells, slots⟩ argsL.toArray) :
    ∃ (v : Option Value) (vm₁ : Vm) (B : Pt), s.WarmedH vm₁ ∧ Stand p l e R s m args below meth c B.U B.locs B.cells B.slots ∧ Post ⟨T.setVm vm₁, locs, cells, slots⟩ argsL.toArray v B ∧
      ∀ target, Steps p.tables e below (B.U.setTop { g with pc := g.pc + 3, stack := v.toList ++ rest }) target → Steps p.tables e below (T.setTop g) target := by
  obtain ⟨mk, methM, cM, hnamed, hmethM, -, -, -, -, -, -, hsigM⟩ := Cond.codeWith_spec hcode
  have hstatic : methM.isStatic = true := Cond.static_spec hnamed hmethM hstat
  obtain ⟨kP, hkP, -⟩ := className_of_methodNamed hnamed
  have hinitP : kP.init = .initialized := Cond.initialized_spec (findClass_of_methodNamed hnamed) hkP hinit
  obtain ⟨vm₁, X₁, hstep₁⟩ := X.invokestatic hexec hown hlink hnamed hmethM hstatic hkP hinitP hy (g := g) hg (argsL := argsL) (rest := rest) (hlen _ hsigM) hstack hdg
  obtain ⟨v, B, X', hpost, hsteps⟩ := hK m meth c ⟨T.setVm vm₁, locs, cells, slots⟩ { g with stack := rest } (.invokestatic index) mk argsL.toArray X₁ hg hsize hdg hW (X₁.named hnamed) (hpre vm₁ X₁.warmed)
  exact ⟨v, vm₁, B, X₁.warmed, X', hpost, fun target h => hstep₁ _ fun acts => by rw [doInvoke_state]; exact hsteps.trans h⟩
theorem vx_runSW {y : MethodName} {bytes cc : ByteArray} {maxL nL mc ms n index : Nat} {ret : Option FieldType} {hh : List (Nat × Nat × Nat × Nat)} {ws : List Cond} {rm : Room} {Pc : Array Value → State → Prop} {Qc : Array Value → State → Outcome → State → Prop} {free : Addr → Prop} {Ts : List Cond} {own : String} {As rest : List Value} {g : JFrame}
    (S : CallFix p m c cc nL s args Ts own) (hM : Met l y ws rm Pc Qc mc ms free) (cw : vx_CSW R s args own index y bytes maxL ret hh ws rm mc ms n) (hp : PreS s H Pc As)
    (hg : g.method = m) (hn : As.length = n) (hsize : g.locals.size = nL) (hstack : g.stack = As.reverse ++ rest) (hW : 2 * g.monitorRoom + (rest.map fun v => v.category).sum ≤ 8) (hdg : decode cc g.pc = .ok (.invokestatic index, 3)) (hf : cells + mc ≤ R.cells ∧ slots + ms ≤ R.slots) :
    va_Run p l e R s m args below meth c H locs cells slots mc ms g rest (Qc As.toArray) (free) := by
  obtain ⟨⟨hrc, hrs, hfr, hlo, hws, hcw⟩, hcode, hini, hy, hlen, hl, hstt⟩ := cw
  have hK : Back l R p e below s args y 3 8 (PreOf R mc ms Pc) (PostOf Qc mc ms free) := va_backW (hh := hh) (bytes := bytes) (maxL := maxL) (ret := ret) hM hp.1 hrc hrs hfr hlo hws hcw (fun a' U hW => word_at hW (Or.inl (by first | rfl | simp [Cond.onTables, Cond.keeps, Cond.steady])) hini)
  obtain ⟨hx, hb, hml, ho, -⟩ := S
  intro T hT X
  obtain ⟨v, vm₁, ⟨U', l2, c2, s2⟩, hW₁, X', ⟨g', mk, t, L, e1, e2, hq, h1, hL, h2, h3⟩, st⟩ := vx_callSW X hx (hh := hh) (bytes := bytes) (maxL := maxL) (ret := ret) ho hl hstt hini hcode hy hK hg (hsize.trans hml.symm) (argsL := As) (rest := rest) (fun sig h => hn.trans (hlen sig h)) hstack hW (by rw [hb]; exact hdg)
    (fun vm₁ hW₁ => ⟨hf.1, hf.2, hp.2 (T.setVm vm₁) hT hW₁⟩)
  dsimp only [Pt.U, Pt.locs, Pt.cells, Pt.slots] at X' e1 e2 h1 h2 h3 st
  subst h1; subst h2; subst h3
  exact ⟨v, (T.setVm vm₁).calling g' mk As.toArray, t, U', L, hT, X', hL, e1, e2, hq, st⟩
/-- not caught here, past rows that name other classes: it goes on to the caller -/
theorem vx_outP {p : Program} {l : Launch} {e : Env} {R : Room} {s : State} {m : MethodId} {args : Array Value} {below : List Frame} {meth : Method} {c : Code} {H : Heap} {locs : List Loc} {cells slots : Nat} {free : Addr → Prop} {ls : Array Slot} {rest : List Value} {Qc : Array Value → State → Outcome → State → Prop} {XC : String → State → State → Prop}
    {pc : Nat} {own E : String} {ce : Cell} {q : Addr} {mc ms : Nat} (hown : s.vm.findClass own = some m.cls) (hlocks : meth.locks = false)
    (hpass : ∀ z ∈ c.exceptionTable.toList, covers z pc = false ∨ (z.catchType ≠ 0 ∧ ∃ nm : String, (Cond.classLink own z.catchType nm).before args s = true ∧ va_Nc E nm s)) (hcell : H[q]? = some ce) (hv : ce.vm = .none) (hcl : s.vm.findClass E = some ce.cls)
    (hx : ∀ t : State, t.heap = H → s.vm.Alike t.vm → XC E s t) (hf : ∀ z ∈ locs, free z.base) (hc : cells ≤ mc) (hs : slots ≤ ms) :
    vx_W p l e R s m args below meth c H locs cells slots (vx_MQ below Qc XC args s mc ms free) (F0 m pc ls rest) q := by
  intro T hT X
  have hpl : e.platform.magicAccessors = ({} : Platform).magicAccessors := by rw [X.admits.platform]
  obtain ⟨vm', hW', X', st⟩ := X.outThrough hlocks q (g := F0 m pc ls rest) rfl rfl rfl (cell := ce) (by rw [hT]; exact hcell) (by rw [hv]; rfl)
    (by obtain ⟨k9, h9, -⟩ := Vm.findClass_spec hcl; exact ⟨k9, h9⟩) (fun z hz => by
      rcases hpass z hz with h | ⟨hz0, nm, hl1, hn1⟩
      · exact Or.inl h
      · obtain ⟨c6, hc6, hcl6⟩ := Cond.classLink_spec hown hl1 e.platform hpl
        obtain ⟨a8, b8, h1, h2, h3⟩ := hn1
        cases Option.some.inj (h1.symm.trans hcl)
        cases Option.some.inj (h2.symm.trans hc6)
        exact Or.inr ⟨hz0, _, hcl6, h3⟩)
  obtain ⟨g₀, hfr⟩ := X'.frames_eq
  have hcell9 : ((T.setVm vm').setFrames (.throwing q :: below)).heap[q]? = some ce := by
    show T.heap[q]? = some ce
    rw [hT]; exact hcell
  have hend : Ended ((T.setVm vm').setFrames (.throwing q :: below)) below (.threw q) := State.frames_setFrames _ (State.cur_lt_of_frames hfr)
  refine ⟨(T.setVm vm').setFrames (.throwing q :: below), ?_, .threw q, X'.here.running, hend, Or.inr ⟨q, rfl, E, ce, locs, hx _ hT (X'.ends _).1.alike, hcell9, hv, hcl, (X'.ends _).1, (X'.ends _).2.mono hc hs, hf⟩⟩
  rw [X.pushThrowing_eq]
  exact st
/-- a thing of a world lies in the heap -/
theorem vx_lt {D : va_G} {cl : List vw_C} {ws : va_W} {H1 : Heap} (h : va_P D cl ws H1) {k : Nat} {q : Nat × va_E} (hk : ws[k]? = some q) : q.1 < H1.size := (h k q hk).lt
end VXS
/-! ===== END ===== -/
/-! ===== BEGIN methods with a table of their own: called by a name, returning or throwing ===== -/
section VXH
/-! vx_backW, vx_callVX, vx_callSX, vx_callVW, vx_runVW, vx_runVX, vx_runSX, vx_ofWH follow the same proofs as their sisters above (Free/Laws.lean, Shelf42/LK1.lean); vx_outP calls Shelf42/NT130.lean (outThrough). -/
section
variable {l : Launch} {R : Room} {p : Program} {e : Env} {below : List Frame} {s : State} {sargs : Array Value} {y : MethodName} {len W9 : Nat}
theorem vx_backW {ws : List Cond} {rm : Room} {Pc : Array Value → State → Prop} {Qc : Array Value → State → Outcome → State → Prop} {XC : String → State → State → Prop} {mc ms : Nat} {free : Addr → Prop} {bytes : ByteArray} {maxL : Nat} {ret : Option FieldType} {hh : List (Nat × Nat × Nat × Nat)}
    (hM : vx_Met l y ws rm Pc Qc XC mc ms free) (hblind : FrameBlind Pc) (hrc : rm.cells = mc) (hrs : rm.slots = ms)
    (hframes : rm.frames + 1 ≤ R.frames) (hlocals : W9 + (maxL + 11) + rm.locals ≤ R.locals)
    (hws : ∀ w ∈ ws, ∀ a' U, s.WarmedH U.vm → w.before a' U = true) (hcode : Cond.codeWith y bytes maxL ret hh ∈ ws) (hinit : ∀ a' U, s.WarmedH U.vm → (Cond.initialized y.cls).before a' U = true) :
    vx_Back l R p e below s sargs y len W9 (PreOf R mc ms Pc) (PostOf Qc mc ms free) (vx_Post XC mc ms free) := by
  intro m meth c A g ig mk a X hg hsize hdg hW hn hp
  have h1 : (headSpec ws rm).pre.before a A.U = true := atoms_intro fun w hw => hws w hw _ _ X.warmed
  have h2 : (Cond.codeWith y bytes maxL ret hh).before a A.U = true := hws _ hcode _ _ X.warmed
  have h3 : (Cond.initialized y.cls).before a A.U = true := hinit _ _ X.warmed
  have h4 : A.cells + (headSpec ws rm).room.cells ≤ R.cells := by rw [show (headSpec ws rm).room.cells = mc from hrc]; exact hp.1
  have h5 : A.slots + (headSpec ws rm).room.slots ≤ R.slots := by rw [show (headSpec ws rm).room.slots = ms from hrs]; exact hp.2.1
  have hPc : Pc a (A.U.calling g mk a) := hblind _ _ _ _ hp.2.2
  obtain ⟨U, Ls, c0, s0⟩ := A
  dsimp only [Pt.U, Pt.locs, Pt.cells, Pt.slots] at h1 h2 h3 h4 h5 X hn hPc ⊢
  obtain ⟨m9, methY, cY, hn9, hmY, hcY, -, hlY, -⟩ := Cond.codeWith_spec h2
  cases Option.some.inj (hn9.symm.trans hn)
  obtain ⟨kY, hkY, -⟩ := className_of_methodNamed hn
  have hinitY : kY.init = .initialized := Cond.initialized_spec (findClass_of_methodNamed hn) hkY h3
  have h : At U g.method c below := by rw [hg]; exact X.here
  have hlocals9 : W9 + (maxL + 11) + (headSpec ws rm).room.locals ≤ R.locals := hlocals
  have happ : (headSpec ws rm).appliesLoose y e.platform (U.calling g mk a) = true :=
    Spec.appliesLoose_calling (g := g) h hdg hn hkY hinitY
      (X.room_calling (g := g) (R' := (headSpec ws rm).room) hsize hmY hcY hframes (by rw [hlY]; omega) h4 h5) h1
  obtain ⟨mid, hmid⟩ := h.above
  have hfr : (U.setTop g).frames = (.java g :: mid) ++ below := by rw [State.frames_setTop' g h.top, hmid]; rfl
  obtain ⟨o, s₂, hsteps, -, hend, hq⟩ := Steps.callFree hM p X.admits X.cas X.clock (acts := []) hfr happ hPc trivial
  have hq' : vx_Q Qc XC mc ms free a (U.calling g mk a) o s₂ := hq
  rw [State.frames_setTop' g h.top] at hend
  obtain ⟨g₀, hg0⟩ := Option.isSome_iff_exists.mp h.top
  obtain ⟨r, hr⟩ := State.topJava?_eq_some.mp hg0
  have hr' : (({ U with heap := s₂.heap, slotsUsed := s₂.slotsUsed } : State).setVm s₂.vm).frames = .java g₀ :: r := hr
  rcases hq' with ⟨hqc, L, hfe, hL⟩ | ⟨q, rfl, E, ce, L, hx, hce, hcv, hcl, hW₂, hsm, hL⟩
  · obtain ⟨⟨v, rfl⟩, hW₂, e2, q2, q3, q4, q5, q6⟩ := id hfe
    have e3 : s₂ = ({ (U.calling g mk a).setFrames s₂.frames with heap := s₂.heap, slotsUsed := s₂.slotsUsed } : State).setVm s₂.vm := by
      have : s₂ = ({ s₂ with vm := (U.calling g mk a).vm } : State).setVm s₂.vm := rfl
      rw [e2] at this
      exact this
    obtain ⟨c₂, i₂, len₂, hc₂, hd₂, hf₂⟩ := hend
    have hW' : U.WarmedH s₂.vm := hW₂
    have hcc : c₂ = c := by
      have h1 : s₂.code? g.method = U.code? g.method := by
        rw [State.code?_eq, State.code?_eq, hW'.alike.method?]
      exact Option.some.inj (hc₂.symm.trans (h1.trans h.code))
    subst hcc
    have hlen : len₂ = len := by rw [hdg] at hd₂; cases hd₂; rfl
    subst hlen
    have hs₂ : s₂ = (({ U with heap := s₂.heap, slotsUsed := s₂.slotsUsed } : State).setVm s₂.vm).setTop { g with pc := g.pc + len₂, stack := v.toList ++ g.stack } := by
      refine e3.trans ?_
      rw [hf₂, State.calling_eq h.top, State.setFrames_setFrames, State.setTop_of_frames _ hr', hr]
      rfl
    have hsame : U.sameButNew ({ U with heap := s₂.heap, slotsUsed := s₂.slotsUsed } : State) L mc ms := by
      refine ⟨?_, q2, q3, q4, q5, q6⟩
      obtain ⟨t, ht, -⟩ := State.frames_cons hr
      show ({ U with heap := s₂.heap, slotsUsed := s₂.slotsUsed } : State) = { U.setFrames U.frames with heap := s₂.heap, slotsUsed := s₂.slotsUsed }
      rw [State.setFrames_self ht]
    subst hg
    refine Or.inl ⟨v, ⟨(({ U with heap := s₂.heap, slotsUsed := s₂.slotsUsed } : State).setVm s₂.vm), Ls ++ L, c0 + mc, s0 + ms⟩,
      ⟨X.admits, X.cas, X.clock, X.frames, X.room, X.hears, X.method, X.code, (X.here.setHeapUsed s₂.heap s₂.slotsUsed).setVm hW'.alike, X.tail, State.WarmedH.trans X.warmed hW', X.limits, X.bytes, X.same.trans (hsame.setVm s.vm)⟩,
      ⟨g, mk, s₂, L, rfl, rfl, hqc, rfl, hL, rfl, rfl⟩, ?_⟩
    show Steps p.tables e below _ ((({ U with heap := s₂.heap, slotsUsed := s₂.slotsUsed } : State).setVm s₂.vm).setTop { g with pc := g.pc + len₂, stack := v.toList ++ g.stack })
    rw [← hs₂]
    exact hsteps
  · obtain ⟨e2, q2, q3, q4, q5, q6⟩ := id hsm
    have e3 : s₂ = ({ (U.calling g mk a).setFrames s₂.frames with heap := s₂.heap, slotsUsed := s₂.slotsUsed } : State).setVm s₂.vm := by
      have : s₂ = ({ s₂ with vm := (U.calling g mk a).vm } : State).setVm s₂.vm := rfl
      rw [e2] at this
      exact this
    have hf₂ : s₂.frames = .throwing q :: .java g :: U.frames.tail := hend
    have hW' : U.WarmedH s₂.vm := hW₂
    have hs₂ : s₂ = ((({ U with heap := s₂.heap, slotsUsed := s₂.slotsUsed } : State).setVm s₂.vm).setTop g).pushFrame (.throwing q) := by
      refine e3.trans ?_
      rw [hf₂, State.calling_eq h.top, State.setFrames_setFrames, State.pushFrame, State.frames_setTop _ hr', State.setTop_of_frames _ hr', State.setFrames_setFrames, hr]
      rfl
    have hsame : U.sameButNew ({ U with heap := s₂.heap, slotsUsed := s₂.slotsUsed } : State) L mc ms := by
      refine ⟨?_, q2, q3, q4, q5, q6⟩
      obtain ⟨t, ht, -⟩ := State.frames_cons hr
      show ({ U with heap := s₂.heap, slotsUsed := s₂.slotsUsed } : State) = { U.setFrames U.frames with heap := s₂.heap, slotsUsed := s₂.slotsUsed }
      rw [State.setFrames_self ht]
    subst hg
    refine Or.inr ⟨q, ⟨(({ U with heap := s₂.heap, slotsUsed := s₂.slotsUsed } : State).setVm s₂.vm), Ls ++ L, c0 + mc, s0 + ms⟩,
      ⟨X.admits, X.cas, X.clock, X.frames, X.room, X.hears, X.method, X.code, (X.here.setHeapUsed s₂.heap s₂.slotsUsed).setVm hW'.alike, X.tail, State.WarmedH.trans X.warmed hW', X.limits, X.bytes, X.same.trans (hsame.setVm s.vm)⟩,
      ⟨g, mk, s₂, L, E, ce, rfl, rfl, hx, hce, hcv, hcl, rfl, hL, rfl, rfl⟩, ?_⟩
    show Steps p.tables e below _ (((({ U with heap := s₂.heap, slotsUsed := s₂.slotsUsed } : State).setVm s₂.vm).setTop g).pushFrame (.throwing q))
    rw [← hs₂]
    exact hsteps
end
variable {p : Program} {l : Launch} {e : Env} {R : Room} {s : State} {m : MethodId} {args : Array Value} {below : List Frame} {meth : Method} {c : Code} {T : State} {H : Heap} {locs : List Loc} {cells slots : Nat}
theorem vx_callVX (X : Stand p l e R s m args below meth c T locs cells slots) (hexec : p.tables.exec = Jvm.exec) {own C : String} {index : Nat} {y : MethodName} {bytes : ByteArray} {maxL : Nat} {ret : Option FieldType} {hh : List (Nat × Nat × Nat × Nat)}
    (hown : s.vm.findClass own = some m.cls) (hlink : (Cond.methodLink own index y).before args s = true) (hinst : (Cond.instanceMethod y).before args s = true) (hsel : (Cond.selects C y y).before args s = true)
    (hcode : (Cond.codeWith y bytes maxL ret hh).before args s = true) (hy : y.cls ≠ "java/lang/invoke/MethodHandle" ∧ y.cls ≠ "java/lang/invoke/VarHandle")
    {W9 : Nat} {Pre : Pt → Array Value → Prop} {Post : Pt → Array Value → Option Value → Pt → Prop} {PostX : Pt → Array Value → Addr → Pt → Prop} (hK : vx_Back l R p e below s args y 3 W9 Pre Post PostX)
    {b : Addr} {cellB : Cell} (hcell : T.heap[b]? = some cellB) (hobj : cellB.vm.isStatics = false) (hcls : s.vm.findClass C = some cellB.cls)
    {g : JFrame} (hg : g.method = m) (hsize : g.locals.size = c.maxLocals) {argsL rest : List Value} (hlen : ∀ sig, parseMethodDescriptor y.desc = some sig → argsL.length = sig.parameters.length)
    (hstack : g.stack = argsL.reverse ++ .ref b :: rest) (hW : 2 * g.monitorRoom + (rest.map fun v => v.category).sum ≤ W9) (hdg : decode c.code g.pc = .ok (.invokevirtual index, 3))
    (hpre : ∀ vm₁, s.WarmedH vm₁ → Pre ⟨T.setVm vm₁, locs, cells, slots⟩ (Value.ref b :: argsL).toArray) :
    (∃ (v : Option Value) (vm₁ : Vm) (B : Pt), s.WarmedH vm₁ ∧ Stand p l e R s m args below meth c B.U B.locs B.cells B.slots ∧ Post ⟨T.setVm vm₁, locs, cells, slots⟩ (Value.ref b :: argsL).toArray v B ∧
      ∀ target, Steps p.tables e below (B.U.setTop { g with pc := g.pc + 3, stack := v.toList ++ rest }) target → Steps p.tables e below (T.setTop g) target) ∨
    (∃ (q : Addr) (vm₁ : Vm) (B : Pt), s.WarmedH vm₁ ∧ Stand p l e R s m args below meth c B.U B.locs B.cells B.slots ∧ PostX ⟨T.setVm vm₁, locs, cells, slots⟩ (Value.ref b :: argsL).toArray q B ∧
      Steps p.tables e below (T.setTop g) ((B.U.setTop { g with stack := rest }).pushFrame (.throwing q))) := by
  obtain ⟨mk, methM, hnamed, hmethM, hstM, habM⟩ := Cond.instanceMethod_spec hinst
  obtain ⟨m8, methM', cM, hn8, hmethM', -, -, -, -, -, -, hsigM⟩ := Cond.codeWith_spec hcode
  cases Option.some.inj (hn8.symm.trans hnamed)
  cases hmethM.symm.trans hmethM'
  obtain ⟨c2, r2, m2, q1, q2, q3, q4, kP, hkP, hkPi⟩ := Cond.selects_spec hsel
  cases hcls.symm.trans q1
  cases (State.methodFound?_of_named hnamed hy).symm.trans q2
  cases hnamed.symm.trans q3
  have hselP : selectMethod e.platform s.vm cellB.cls mk = .method mk := by rw [Launch.admits_selectMethod X.admits]; exact q4
  obtain ⟨vm₁, X₁, hstep₁⟩ := X.invokevirtual hexec hown hlink hnamed hmethM hstM hkP hkPi hy (a := b) (cell := cellB) hcell
    (fun z h => by rw [h] at hobj; cases hobj) hselP hmethM habM hkP hkPi (g := g) hg (argsL := argsL) (rest := rest) (hlen _ hsigM) hstack hdg
  rcases hK m meth c ⟨T.setVm vm₁, locs, cells, slots⟩ { g with stack := rest } (.invokevirtual index) mk (Value.ref b :: argsL).toArray X₁ hg hsize hdg hW (X₁.named hnamed) (hpre vm₁ X₁.warmed) with ⟨v, B, X', hpost, hsteps⟩ | ⟨q, B, X', hpost, hsteps⟩
  · exact Or.inl ⟨v, vm₁, B, X₁.warmed, X', hpost, fun target h => hstep₁ _ fun acts => by rw [doInvoke_state]; exact hsteps.trans h⟩
  · exact Or.inr ⟨q, vm₁, B, X₁.warmed, X', hpost, hstep₁ _ fun acts => by rw [doInvoke_state]; exact hsteps⟩
theorem vx_callSX (X : Stand p l e R s m args below meth c T locs cells slots) (hexec : p.tables.exec = Jvm.exec) {own : String} {index : Nat} {y : MethodName} {bytes : ByteArray} {maxL : Nat} {ret : Option FieldType} {hh : List (Nat × Nat × Nat × Nat)}
    (hown : s.vm.findClass own = some m.cls) (hlink : (Cond.methodLink own index y).before args s = true) (hstat : (Cond.static y).before args s = true) (hinit : (Cond.initialized y.cls).before args s = true)
    (hcode : (Cond.codeWith y bytes maxL ret hh).before args s = true) (hy : y.cls ≠ "java/lang/invoke/MethodHandle" ∧ y.cls ≠ "java/lang/invoke/VarHandle")
    {W9 : Nat} {Pre : Pt → Array Value → Prop} {Post : Pt → Array Value → Option Value → Pt → Prop} {PostX : Pt → Array Value → Addr → Pt → Prop} (hK : vx_Back l R p e below s args y 3 W9 Pre Post PostX)
    {g : JFrame} (hg : g.method = m) (hsize : g.locals.size = c.maxLocals) {argsL rest : List Value} (hlen : ∀ sig, parseMethodDescriptor y.desc = some sig → argsL.length = sig.parameters.length)
    (hstack : g.stack = argsL.reverse ++ rest) (hW : 2 * g.monitorRoom + (rest.map fun v => v.category).sum ≤ W9) (hdg : decode c.code g.pc = .ok (.invokestatic index, 3))
    (hpre : ∀ vm₁, s.WarmedH vm₁ → Pre ⟨T.setVm vm₁, locs, cells, slots⟩ argsL.toArray) :
    (∃ (v : Option Value) (vm₁ : Vm) (B : Pt), s.WarmedH vm₁ ∧ Stand p l e R s m args below meth c B.U B.locs B.cells B.slots ∧ Post ⟨T.setVm vm₁, locs, cells, slots⟩ argsL.toArray v B ∧
      ∀ target, Steps p.tables e below (B.U.setTop { g with pc := g.pc + 3, stack := v.toList ++ rest }) target → Steps p.tables e below (T.setTop g) target) ∨
    (∃ (q : Addr) (vm₁ : Vm) (B : Pt), s.WarmedH vm₁ ∧ Stand p l e R s m args below meth c B.U B.locs B.cells B.slots ∧ PostX ⟨T.setVm vm₁, locs, cells, slots⟩ argsL.toArray q B ∧
      Steps p.tables e below (T.setTop g) ((B.U.setTop { g with stack := rest }).pushFrame (.throwing q))) := by
  obtain ⟨mk, methM, cM, hnamed, hmethM, -, -, -, -, -, -, hsigM⟩ := Cond.codeWith_spec hcode
  have hstatic : methM.isStatic = true := Cond.static_spec hnamed hmethM hstat
  obtain ⟨kP, hkP, -⟩ := className_of_methodNamed hnamed
  have hinitP : kP.init = .initialized := Cond.initialized_spec (findClass_of_methodNamed hnamed) hkP hinit
  obtain ⟨vm₁, X₁, hstep₁⟩ := X.invokestatic hexec hown hlink hnamed hmethM hstatic hkP hinitP hy (g := g) hg (argsL := argsL) (rest := rest) (hlen _ hsigM) hstack hdg
  rcases hK m meth c ⟨T.setVm vm₁, locs, cells, slots⟩ { g with stack := rest } (.invokestatic index) mk argsL.toArray X₁ hg hsize hdg hW (X₁.named hnamed) (hpre vm₁ X₁.warmed) with ⟨v, B, X', hpost, hsteps⟩ | ⟨q, B, X', hpost, hsteps⟩
  · exact Or.inl ⟨v, vm₁, B, X₁.warmed, X', hpost, fun target h => hstep₁ _ fun acts => by rw [doInvoke_state]; exact hsteps.trans h⟩
  · exact Or.inr ⟨q, vm₁, B, X₁.warmed, X', hpost, hstep₁ _ fun acts => by rw [doInvoke_state]; exact hsteps⟩
theorem vx_callVW (X : Stand p l e R s m args below meth c T locs cells slots) (hexec : p.tables.exec = Jvm.exec) {own C : String} {index : Nat} {y : MethodName} {bytes : ByteArray} {maxL : Nat} {ret : Option FieldType} {hh : List (Nat × Nat × Nat × Nat)}
    (hown : s.vm.findClass own = some m.cls) (hlink : (Cond.methodLink own index y).before args s = true) (hinst : (Cond.instanceMethod y).before args s = true) (hsel : (Cond.selects C y y).before args s = true)
    (hcode : (Cond.codeWith y bytes maxL ret hh).before args s = true) (hy : y.cls ≠ "java/lang/invoke/MethodHandle" ∧ y.cls ≠ "java/lang/invoke/VarHandle")
    {W9 : Nat} {Pre : Pt → Array Value → Prop} {Post : Pt → Array Value → Option Value → Pt → Prop} (hK : Back l R p e below s args y 3 W9 Pre Post)
    {b : Addr} {cellB : Cell} (hcell : T.heap[b]? = some cellB) (hobj : cellB.vm.isStatics = false) (hcls : s.vm.findClass C = some cellB.cls)
    {g : JFrame} (hg : g.method = m) (hsize : g.locals.size = c.maxLocals) {argsL rest : List Value} (hlen : ∀ sig, parseMethodDescriptor y.desc = some sig → argsL.length = sig.parameters.length)
    (hstack : g.stack = argsL.reverse ++ .ref b :: rest) (hW : 2 * g.monitorRoom + (rest.map fun v => v.category).sum ≤ W9) (hdg : decode c.code g.pc = .ok (.invokevirtual index, 3))
    (hpre : ∀ vm₁, s.WarmedH vm₁ → Pre ⟨T.setVm vm₁, locs, cells, slots⟩ (Value.ref b :: argsL).toArray) :
    ∃ (v : Option Value) (vm₁ : Vm) (B : Pt), s.WarmedH vm₁ ∧ Stand p l e R s m args below meth c B.U B.locs B.cells B.slots ∧ Post ⟨T.setVm vm₁, locs, cells, slots⟩ (Value.ref b :: argsL).toArray v B ∧
      ∀ target, Steps p.tables e below (B.U.setTop { g with pc := g.pc + 3, stack := v.toList ++ rest }) target → Steps p.tables e below (T.setTop g) target := by
  obtain ⟨mk, methM, hnamed, hmethM, hstM, habM⟩ := Cond.instanceMethod_spec hinst
  obtain ⟨m8, methM', cM, hn8, hmethM', -, -, -, -, -, -, hsigM⟩ := Cond.codeWith_spec hcode
  cases Option.some.inj (hn8.symm.trans hnamed)
  cases hmethM.symm.trans hmethM'
  obtain ⟨c2, r2, m2, q1, q2, q3, q4, kP, hkP, hkPi⟩ := Cond.selects_spec hsel
  cases hcls.symm.trans q1
  cases (State.methodFound?_of_named hnamed hy).symm.trans q2
  cases hnamed.symm.trans q3
  have hselP : selectMethod e.platform s.vm cellB.cls mk = .method mk := by rw [Launch.admits_selectMethod X.admits]; exact q4
  obtain ⟨vm₁, X₁, hstep₁⟩ := X.invokevirtual hexec hown hlink hnamed hmethM hstM hkP hkPi hy (a := b) (cell := cellB) hcell
    (fun z h => by rw [h] at hobj; cases hobj) hselP hmethM habM hkP hkPi (g := g) hg (argsL := argsL) (rest := rest) (hlen _ hsigM) hstack hdg
  obtain ⟨v, B, X', hpost, hsteps⟩ := hK m meth c ⟨T.setVm vm₁, locs, cells, slots⟩ { g with stack := rest } (.invokevirtual index) mk (Value.ref b :: argsL).toArray X₁ hg hsize hdg hW (X₁.named hnamed) (hpre vm₁ X₁.warmed)
  exact ⟨v, vm₁, B, X₁.warmed, X', hpost, fun target h => hstep₁ _ fun acts => by rw [doInvoke_state]; exact hsteps.trans h⟩
abbrev vx_CVW (R : Room) (s : State) (args : Array Value) (own C : String) (index : Nat) (y : MethodName) (bytes : ByteArray) (maxL : Nat) (ret : Option FieldType) (hh : List (Nat × Nat × Nat × Nat)) (ws : List Cond) (rm : Room) (mc ms n : Nat) : Prop :=
  (rm.cells = mc ∧ rm.slots = ms ∧ rm.frames + 1 ≤ R.frames ∧ 8 + (maxL + 11) + rm.locals ≤ R.locals ∧ (∀ w ∈ ws, ∀ (a' : Array Value) (U : State), s.WarmedH U.vm → w.before a' U = true) ∧ Cond.codeWith y bytes maxL ret hh ∈ ws) ∧
  (Cond.codeWith y bytes maxL ret hh).before args s = true ∧ (Cond.initialized y.cls).before args s = true ∧ (y.cls ≠ "java/lang/invoke/MethodHandle" ∧ y.cls ≠ "java/lang/invoke/VarHandle") ∧
  (∀ sig, parseMethodDescriptor y.desc = some sig → n = sig.parameters.length) ∧ (Cond.methodLink own index y).before args s = true ∧ (Cond.instanceMethod y).before args s = true ∧ (Cond.selects C y y).before args s = true
theorem vx_cwVW {own C : String} {index maxL mc ms : Nat} {y : MethodName} {bytes : ByteArray} {ret : Option FieldType} {hh : List (Nat × Nat × Nat × Nat)} {Ts ws ws' : List Cond} {rm : Room} (n : Nat) (ht : ∀ w ∈ Ts, w.before args s = true) (hT : GoodIn Ts (wsV own index C y ws)) (hw : ws = Cond.codeWith y bytes maxL ret hh :: ws') (hrc : rm.cells = mc) (hrs : rm.slots = ms)
    (hd : y.cls = C ∧ y.cls ≠ "java/lang/invoke/MethodHandle" ∧ y.cls ≠ "java/lang/invoke/VarHandle" ∧ (parseMethodDescriptor y.desc).map (fun d => d.parameters.length) = some n) (hR : rm.frames + 1 ≤ R.frames ∧ 8 + (maxL + 11) + rm.locals ≤ R.locals) :
    vx_CVW R s args own C index y bytes maxL ret hh ws rm mc ms n := by
  obtain ⟨hC, hd⟩ := hd
  subst hC
  have ok : ∀ w ∈ wsV own index y.cls y ws, w.before args s = true := fun w h => ht w (hT w h).1
  have hG : GoodIn Ts ws := fun w h => hT w (by unfold wsV; exact List.mem_append_right _ h)
  have hc : Cond.codeWith y bytes maxL ret hh ∈ ws := by rw [hw]; exact List.mem_cons_self
  refine ⟨⟨hrc, hrs, hR.1, hR.2, pay_in ht hG, hc⟩, ht _ (hG _ hc).1, ok _ (by simp [wsV]), ⟨hd.1, hd.2.1⟩, fun sig h => ?_, ok _ (by simp [wsV]), ok _ (by simp [wsV]), ok _ (by simp [wsV])⟩
  have h2 := hd.2.2
  rw [h] at h2
  exact (Option.some.inj h2).symm
theorem vx_runVW {y : MethodName} {bytes cc : ByteArray} {maxL nL mc ms n index : Nat} {ret : Option FieldType} {hh : List (Nat × Nat × Nat × Nat)} {ws : List Cond} {rm : Room} {Pc : Array Value → State → Prop} {Qc : Array Value → State → Outcome → State → Prop} {free : Addr → Prop} {Ts : List Cond} {own C : String} {b : Addr} {As rest : List Value} {g : JFrame}
    (S : CallFix p m c cc nL s args Ts own) (hM : Met l y ws rm Pc Qc mc ms free) (cw : vx_CVW R s args own C index y bytes maxL ret hh ws rm mc ms n) (hp : PreV s H C b Pc As)
    (hg : g.method = m) (hn : As.length = n) (hsize : g.locals.size = nL) (hstack : g.stack = As.reverse ++ .ref b :: rest) (hW : 2 * g.monitorRoom + (rest.map fun v => v.category).sum ≤ 8) (hdg : decode cc g.pc = .ok (.invokevirtual index, 3)) (hf : cells + mc ≤ R.cells ∧ slots + ms ≤ R.slots) :
    va_Run p l e R s m args below meth c H locs cells slots mc ms g rest (Qc (Value.ref b :: As).toArray) free := by
  obtain ⟨⟨hrc, hrs, hfr, hlo, hws, hcw⟩, hcode, hini, hy, hlen, hl, hin, hse⟩ := cw
  have hK : Back l R p e below s args y 3 8 (PreOf R mc ms Pc) (PostOf Qc mc ms free) := va_backW (hh := hh) (bytes := bytes) (maxL := maxL) (ret := ret) hM hp.1 hrc hrs hfr hlo hws hcw (fun a' U hW => word_at hW (Or.inl (by first | rfl | simp [Cond.onTables, Cond.keeps, Cond.steady])) hini)
  obtain ⟨hx, hb, hml, ho, -⟩ := S
  obtain ⟨-, ⟨cellB, hcB, hoB, hclB⟩, hPc⟩ := hp
  intro T hT X
  obtain ⟨v, vm₁, ⟨U', l2, c2, s2⟩, hW₁, X', ⟨g', mk, t, L, e1, e2, hq, h1, hL, h2, h3⟩, st⟩ := vx_callVW X hx (C := C) (hh := hh) (bytes := bytes) (maxL := maxL) (ret := ret) ho hl hin hse hcode hy hK (by rw [hT]; exact hcB) hoB hclB hg (hsize.trans hml.symm) (argsL := As) (rest := rest) (fun sig h => hn.trans (hlen sig h)) hstack hW (by rw [hb]; exact hdg)
    (fun vm₁ hW₁ => ⟨hf.1, hf.2, hPc (T.setVm vm₁) hT hW₁⟩)
  dsimp only [Pt.U, Pt.locs, Pt.cells, Pt.slots] at X' e1 e2 h1 h2 h3 st
  subst h1; subst h2; subst h3
  exact ⟨v, (T.setVm vm₁).calling g' mk (Value.ref b :: As).toArray, t, U', L, hT, X', hL, e1, e2, hq, st⟩
section
variable {y : MethodName} {bytes cc : ByteArray} {maxL nL mc ms n index : Nat} {ret : Option FieldType} {ws : List Cond} {rm : Room} {Pc : Array Value → State → Prop} {Qc : Array Value → State → Outcome → State → Prop} {XC : String → State → State → Prop} {free : Addr → Prop} {Ts : List Cond} {own C : String} {b : Addr} {As rest : List Value} {g : JFrame}
theorem vx_runVX {hh : List (Nat × Nat × Nat × Nat)} (S : CallFix p m c cc nL s args Ts own) (hM : vx_Met l y ws rm Pc Qc XC mc ms free) (cw : vx_CVW R s args own C index y bytes maxL ret hh ws rm mc ms n) (hp : PreV s H C b Pc As)
    (hg : g.method = m) (hn : As.length = n) (hsize : g.locals.size = nL) (hstack : g.stack = As.reverse ++ .ref b :: rest) (hW : 2 * g.monitorRoom + (rest.map fun v => v.category).sum ≤ 8) (hdg : decode cc g.pc = .ok (.invokevirtual index, 3)) (hf : cells + mc ≤ R.cells ∧ slots + ms ≤ R.slots) :
    vx_Run p l e R s m args below meth c H locs cells slots mc ms g rest (Qc (Value.ref b :: As).toArray) XC free := by
  obtain ⟨⟨hrc, hrs, hfr, hlo, hws, hcw⟩, hcode, hini, hy, hlen, hl, hin, hse⟩ := cw
  have hK : vx_Back l R p e below s args y 3 8 (PreOf R mc ms Pc) (PostOf Qc mc ms free) (vx_Post XC mc ms free) := vx_backW (hh := hh) (bytes := bytes) (maxL := maxL) (ret := ret) hM hp.1 hrc hrs hfr hlo hws hcw (fun a' U hW => word_at hW (Or.inl (by first | rfl | simp [Cond.onTables, Cond.keeps, Cond.steady])) hini)
  obtain ⟨hx, hb, hml, ho, -⟩ := S
  obtain ⟨-, ⟨cellB, hcB, hoB, hclB⟩, hPc⟩ := hp
  intro T hT X
  rcases vx_callVX X hx (C := C) (hh := hh) (bytes := bytes) (maxL := maxL) (ret := ret) ho hl hin hse hcode hy hK (by rw [hT]; exact hcB) hoB hclB hg (hsize.trans hml.symm) (argsL := As) (rest := rest) (fun sig h => hn.trans (hlen sig h)) hstack hW (by rw [hb]; exact hdg)
    (fun vm₁ hW₁ => ⟨hf.1, hf.2, hPc (T.setVm vm₁) hT hW₁⟩) with ⟨v, vm₁, ⟨U', l2, c2, s2⟩, hW₁, X', ⟨g', mk, t, L, e1, e2, hq, h1, hL, h2, h3⟩, st⟩ | ⟨q, vm₁, ⟨U', l2, c2, s2⟩, hW₁, X', ⟨g', mk, t, L, E, ce, e1, e2, hq, hce, hcv, hcl, h1, hL, h2, h3⟩, st⟩
  · dsimp only [Pt.U, Pt.locs, Pt.cells, Pt.slots] at X' e1 e2 h1 h2 h3 st
    subst h1; subst h2; subst h3
    exact Or.inl ⟨v, (T.setVm vm₁).calling g' mk (Value.ref b :: As).toArray, t, U', L, hT, X', hL, e1, e2, hq, st⟩
  · dsimp only [Pt.U, Pt.locs, Pt.cells, Pt.slots] at X' e1 e2 h1 h2 h3 st hcl
    subst h1; subst h2; subst h3
    exact Or.inr ⟨q, (T.setVm vm₁).calling g' mk (Value.ref b :: As).toArray, t, U', L, E, ce, hT, X', hL, e1, e2, hq, hce, hcv, vx_cls hW₁ hcl, st⟩
theorem vx_runSX {hh : List (Nat × Nat × Nat × Nat)} (S : CallFix p m c cc nL s args Ts own) (hM : vx_Met l y ws rm Pc Qc XC mc ms free) (cw : vx_CSW R s args own index y bytes maxL ret hh ws rm mc ms n) (hp : PreS s H Pc As)
    (hg : g.method = m) (hn : As.length = n) (hsize : g.locals.size = nL) (hstack : g.stack = As.reverse ++ rest) (hW : 2 * g.monitorRoom + (rest.map fun v => v.category).sum ≤ 8) (hdg : decode cc g.pc = .ok (.invokestatic index, 3)) (hf : cells + mc ≤ R.cells ∧ slots + ms ≤ R.slots) :
    vx_Run p l e R s m args below meth c H locs cells slots mc ms g rest (Qc As.toArray) XC free := by
  obtain ⟨⟨hrc, hrs, hfr, hlo, hws, hcw⟩, hcode, hini, hy, hlen, hl, hstt⟩ := cw
  have hK : vx_Back l R p e below s args y 3 8 (PreOf R mc ms Pc) (PostOf Qc mc ms free) (vx_Post XC mc ms free) := vx_backW (hh := hh) (bytes := bytes) (maxL := maxL) (ret := ret) hM hp.1 hrc hrs hfr hlo hws hcw (fun a' U hW => word_at hW (Or.inl (by first | rfl | simp [Cond.onTables, Cond.keeps, Cond.steady])) hini)
  obtain ⟨hx, hb, hml, ho, -⟩ := S
  intro T hT X
  rcases vx_callSX X hx (hh := hh) (bytes := bytes) (maxL := maxL) (ret := ret) ho hl hstt hini hcode hy hK hg (hsize.trans hml.symm) (argsL := As) (rest := rest) (fun sig h => hn.trans (hlen sig h)) hstack hW (by rw [hb]; exact hdg)
    (fun vm₁ hW₁ => ⟨hf.1, hf.2, hp.2 (T.setVm vm₁) hT hW₁⟩) with ⟨v, vm₁, ⟨U', l2, c2, s2⟩, hW₁, X', ⟨g', mk, t, L, e1, e2, hq, h1, hL, h2, h3⟩, st⟩ | ⟨q, vm₁, ⟨U', l2, c2, s2⟩, hW₁, X', ⟨g', mk, t, L, E, ce, e1, e2, hq, hce, hcv, hcl, h1, hL, h2, h3⟩, st⟩
  · dsimp only [Pt.U, Pt.locs, Pt.cells, Pt.slots] at X' e1 e2 h1 h2 h3 st
    subst h1; subst h2; subst h3
    exact Or.inl ⟨v, (T.setVm vm₁).calling g' mk As.toArray, t, U', L, hT, X', hL, e1, e2, hq, st⟩
  · dsimp only [Pt.U, Pt.locs, Pt.cells, Pt.slots] at X' e1 e2 h1 h2 h3 st hcl
    subst h1; subst h2; subst h3
    exact Or.inr ⟨q, (T.setVm vm₁).calling g' mk As.toArray, t, U', L, E, ce, hT, X', hL, e1, e2, hq, hce, hcv, vx_cls hW₁ hcl, st⟩
end
end VXH
theorem vx_ofWH {l : Launch} {y : MethodName} {ws ws' : List Cond} {rm : Room} {Pc : Array Value → State → Prop} {Qc : Array Value → State → Outcome → State → Prop} {XC : String → State → State → Prop} {mc ms : Nat} {free : Addr → Prop} {cc : ByteArray} {maxL : Nat} {ret : Option FieldType} {hh : List (Nat × Nat × Nat × Nat)}
    (hy : plainName y.cls = true) (hw : ws = Cond.codeWith y cc maxL ret hh :: ws')
    (body : ∀ p e s m args below meth c s₁, BodyLoose p l y (headSpec ws rm) cc maxL ret e s m args below meth c s₁ → c.maxLocals = maxL → Pc args s →
      W p l e (headSpec ws rm).room s m args below meth c s.heap [] 0 0 (vx_MQ below Qc XC args s mc ms free) (entryFrame m args maxL)) : vx_Met l y ws rm Pc Qc XC mc ms free := by
  refine MetFree.of_bodyS (code := cc) (maxLocals := maxL) (ret := ret) hy ?_ ?_
  · intro args s m h hn
    obtain ⟨m9, meth, c, hn9, h1, h2, h3, h4, -, h5, h6, -⟩ := Cond.codeWith_spec (atoms_spec (ws := ws) h _ (by rw [hw]; exact List.mem_cons_self))
    cases hn.symm.trans hn9
    exact ⟨meth, c, h1, h2, h3, h4, h5, h6⟩
  · intro p e s m args below meth c s₁ B hml hP _
    have hh0 : s₁.heap = s.heap := by rw [B.state]; rfl
    obtain ⟨t, a1, o, b1, b2, b3⟩ := body p e s m args below meth c s₁ B hml hP s₁ hh0 (Stand.of_body B)
    exact ⟨t, o, a1, b1, b2, b3⟩
/-! ===== END ===== -/
end
section
/-! ===== BEGIN printed: names, fields, word lists, decode rows ===== -/
def RX0 : String := "CoverSheet$Counting"
def TX0 : u_T := fun k => match k with
  | _ => ("", "", "", false)
def tyX0 : Nat → FieldType := fun k => match k with
  | _ => .int
abbrev wsX00 : List Cond := u_ws RX0 TX0 0
theorem nmX0 : ∀ a, a < 0 → ∀ b, b < 0 → a ≠ b → (TX0 a).2.1 ≠ (TX0 b).2.1 := by decide +kernel
theorem tyX0_ok : ∀ k, k < 0 → parseFieldDescriptor (TX0 k).2.2.1 = some (tyX0 k) := by decide +kernel
abbrev cX0_init : ByteArray := prog_2_method_1_code
def yX0_init : MethodName := ⟨RX0, "<init>", "()V"⟩
abbrev cX0_none : ByteArray := prog_2_method_2_code
def yX0_none : MethodName := ⟨RX0, "none", "()J"⟩
abbrev cX0_start : ByteArray := prog_2_method_3_code
def yX0_start : MethodName := ⟨RX0, "start", "()J"⟩
abbrev cX0_longer : ByteArray := prog_2_method_4_code
def yX0_longer : MethodName := ⟨RX0, "longer", "(JII)J"⟩
abbrev cX0_joined : ByteArray := prog_2_method_5_code
def yX0_joined : MethodName := ⟨RX0, "joined", "(JJ)J"⟩
def RX1 : String := "CoverSheet$DayTable"
def TX1 : u_T := fun k => match k with
  | 0 => ("CoverSheet$DayTable", "values", "[J", false)
  | _ => ("CoverSheet$DayTable", "nextValues", "[J", false)
def tyX1 : Nat → FieldType := fun k => match k with
  | 0 => .array .long
  | _ => .array .long
abbrev wsX10 : List Cond := u_ws RX1 TX1 2
theorem nmX1 : ∀ a, a < 2 → ∀ b, b < 2 → a ≠ b → (TX1 a).2.1 ≠ (TX1 b).2.1 := by decide +kernel
theorem tyX1_ok : ∀ k, k < 2 → parseFieldDescriptor (TX1 k).2.2.1 = some (tyX1 k) := by decide +kernel
abbrev cX1_init : ByteArray := prog_3_method_1_code
def yX1_init : MethodName := ⟨RX1, "<init>", "()V"⟩
abbrev cX1_placeOf : ByteArray := prog_3_method_2_code
def yX1_placeOf : MethodName := ⟨RX1, "placeOf", "(III)I"⟩
abbrev cX1_through : ByteArray := prog_3_method_3_code
def yX1_through : MethodName := ⟨RX1, "through", "(LCoverSheet$Person;LCoverSheet$Rules;LCoverSheet$Measure;)J"⟩
abbrev cX1_goOn : ByteArray := prog_3_method_4_code
def yX1_goOn : MethodName := ⟨RX1, "goOn", "(LCoverSheet$Person;LCoverSheet$Rules;LCoverSheet$Measure;I)V"⟩
def RX2 : String := "CoverSheet$Measure"
def TX2 : u_T := fun k => match k with
  | _ => ("", "", "", false)
def tyX2 : Nat → FieldType := fun k => match k with
  | _ => .int
abbrev wsX20 : List Cond := u_ws RX2 TX2 0
theorem nmX2 : ∀ a, a < 0 → ∀ b, b < 0 → a ≠ b → (TX2 a).2.1 ≠ (TX2 b).2.1 := by decide +kernel
theorem tyX2_ok : ∀ k, k < 0 → parseFieldDescriptor (TX2 k).2.2.1 = some (tyX2 k) := by decide +kernel
abbrev cX2_init : ByteArray := prog_4_method_1_code
def yX2_init : MethodName := ⟨RX2, "<init>", "()V"⟩
def RX3 : String := "CoverSheet$Needs"
def TX3 : u_T := fun k => match k with
  | _ => ("CoverSheet$Needs", "numbers", "[I", true)
def tyX3 : Nat → FieldType := fun k => match k with
  | _ => .array .int
abbrev wsX30 : List Cond := u_ws RX3 TX3 1
theorem nmX3 : ∀ a, a < 1 → ∀ b, b < 1 → a ≠ b → (TX3 a).2.1 ≠ (TX3 b).2.1 := by decide +kernel
theorem tyX3_ok : ∀ k, k < 1 → parseFieldDescriptor (TX3 k).2.2.1 = some (tyX3 k) := by decide +kernel
abbrev cX3_init : ByteArray := prog_5_method_1_code
def yX3_init : MethodName := ⟨RX3, "<init>", "()V"⟩
abbrev cX3_of : ByteArray := prog_5_method_2_code
def yX3_of : MethodName := ⟨RX3, "of", "(II)I"⟩
abbrev cX3_put : ByteArray := prog_5_method_3_code
def yX3_put : MethodName := ⟨RX3, "put", "(III)V"⟩
def RX4 : String := "CoverSheet$Person"
def TX4 : u_T := fun k => match k with
  | 0 => ("CoverSheet$Person", "skills", "I", true)
  | 1 => ("CoverSheet$Person", "most", "I", true)
  | 2 => ("CoverSheet$Person", "week", "I", false)
  | 3 => ("CoverSheet$Person", "fixed", "I", false)
  | 4 => ("CoverSheet$Person", "wishes", "I", false)
  | 5 => ("CoverSheet$Person", "lastEntry", "I", false)
  | 6 => ("CoverSheet$Person", "daysInARow", "I", false)
  | _ => ("CoverSheet$Person", "weekendShifts", "I", false)
def tyX4 : Nat → FieldType := fun k => match k with
  | 0 => .int
  | 1 => .int
  | 2 => .int
  | 3 => .int
  | 4 => .int
  | 5 => .int
  | 6 => .int
  | _ => .int
abbrev wsX40 : List Cond := u_ws RX4 TX4 8
theorem nmX4 : ∀ a, a < 8 → ∀ b, b < 8 → a ≠ b → (TX4 a).2.1 ≠ (TX4 b).2.1 := by decide +kernel
theorem tyX4_ok : ∀ k, k < 8 → parseFieldDescriptor (TX4 k).2.2.1 = some (tyX4 k) := by decide +kernel
abbrev cX4_init : ByteArray := prog_6_method_1_code
def yX4_init : MethodName := ⟨RX4, "<init>", "(II)V"⟩
abbrev cX4_changeWish : ByteArray := prog_6_method_2_code
def yX4_changeWish : MethodName := ⟨RX4, "changeWish", "(IZ)Z"⟩
abbrev cX4_breaksWish : ByteArray := prog_6_method_3_code
def yX4_breaksWish : MethodName := ⟨RX4, "breaksWish", "(II)Z"⟩
abbrev cX4_brokenWishes : ByteArray := prog_6_method_4_code
def yX4_brokenWishes : MethodName := ⟨RX4, "brokenWishes", "()I"⟩
abbrev cX4_fixedAt : ByteArray := prog_6_method_5_code
def yX4_fixedAt : MethodName := ⟨RX4, "fixedAt", "(I)I"⟩
abbrev cX4_changeFixed : ByteArray := prog_6_method_6_code
def yX4_changeFixed : MethodName := ⟨RX4, "changeFixed", "(II)V"⟩
abbrev cX4_mayHave : ByteArray := prog_6_method_7_code
def yX4_mayHave : MethodName := ⟨RX4, "mayHave", "(II)Z"⟩
abbrev cX4_canHave : ByteArray := prog_6_method_8_code
def yX4_canHave : MethodName := ⟨RX4, "canHave", "(ILCoverSheet$Rules;)Z"⟩
abbrev cX4_noteWeek : ByteArray := prog_6_method_9_code
def yX4_noteWeek : MethodName := ⟨RX4, "noteWeek", "()V"⟩
def RX5 : String := "CoverSheet$Pricing"
def TX5 : u_T := fun k => match k with
  | _ => ("CoverSheet$Pricing", "prices", "[J", true)
def tyX5 : Nat → FieldType := fun k => match k with
  | _ => .array .long
abbrev wsX50 : List Cond := u_ws RX5 TX5 1
theorem nmX5 : ∀ a, a < 1 → ∀ b, b < 1 → a ≠ b → (TX5 a).2.1 ≠ (TX5 b).2.1 := by decide +kernel
theorem tyX5_ok : ∀ k, k < 1 → parseFieldDescriptor (TX5 k).2.2.1 = some (tyX5 k) := by decide +kernel
abbrev cX5_init : ByteArray := prog_7_method_1_code
def yX5_init : MethodName := ⟨RX5, "<init>", "()V"⟩
abbrev cX5_priceOf : ByteArray := prog_7_method_2_code
def yX5_priceOf : MethodName := ⟨RX5, "priceOf", "(LCoverSheet$Person;IIZ)J"⟩
abbrev cX5_weekOf : ByteArray := prog_7_method_3_code
def yX5_weekOf : MethodName := ⟨RX5, "weekOf", "(J)I"⟩
abbrev cX5_put : ByteArray := prog_7_method_4_code
def yX5_put : MethodName := ⟨RX5, "put", "(IIJ)V"⟩
abbrev cX5_none : ByteArray := prog_7_method_5_code
def yX5_none : MethodName := ⟨RX5, "none", "()J"⟩
abbrev cX5_start : ByteArray := prog_7_method_6_code
def yX5_start : MethodName := ⟨RX5, "start", "()J"⟩
abbrev cX5_longer : ByteArray := prog_7_method_7_code
def yX5_longer : MethodName := ⟨RX5, "longer", "(JII)J"⟩
abbrev cX5_joined : ByteArray := prog_7_method_8_code
def yX5_joined : MethodName := ⟨RX5, "joined", "(JJ)J"⟩
def RX6 : String := "CoverSheet$Rules"
def TX6 : u_T := fun k => match k with
  | 0 => ("CoverSheet$Rules", "forbidden", "I", false)
  | _ => ("CoverSheet$Rules", "longestRun", "I", false)
def tyX6 : Nat → FieldType := fun k => match k with
  | 0 => .int
  | _ => .int
abbrev wsX60 : List Cond := u_ws RX6 TX6 2
theorem nmX6 : ∀ a, a < 2 → ∀ b, b < 2 → a ≠ b → (TX6 a).2.1 ≠ (TX6 b).2.1 := by decide +kernel
theorem tyX6_ok : ∀ k, k < 2 → parseFieldDescriptor (TX6 k).2.2.1 = some (tyX6 k) := by decide +kernel
abbrev cX6_init : ByteArray := prog_8_method_1_code
def yX6_init : MethodName := ⟨RX6, "<init>", "()V"⟩
abbrev cX6_pairOf : ByteArray := prog_8_method_2_code
def yX6_pairOf : MethodName := ⟨RX6, "pairOf", "(II)I"⟩
abbrev cX6_changeFollowing : ByteArray := prog_8_method_3_code
def yX6_changeFollowing : MethodName := ⟨RX6, "changeFollowing", "(IIZ)Z"⟩
abbrev cX6_allow : ByteArray := prog_8_method_4_code
def yX6_allow : MethodName := ⟨RX6, "allow", "(III)Z"⟩
def RX7 : String := "CoverSheet$Week"
def TX7 : u_T := fun k => match k with
  | _ => ("", "", "", false)
def tyX7 : Nat → FieldType := fun k => match k with
  | _ => .int
abbrev wsX70 : List Cond := u_ws RX7 TX7 0
theorem nmX7 : ∀ a, a < 0 → ∀ b, b < 0 → a ≠ b → (TX7 a).2.1 ≠ (TX7 b).2.1 := by decide +kernel
theorem tyX7_ok : ∀ k, k < 0 → parseFieldDescriptor (TX7 k).2.2.1 = some (tyX7 k) := by decide +kernel
abbrev cX7_placeOf : ByteArray := prog_9_method_2_code
def yX7_placeOf : MethodName := ⟨RX7, "placeOf", "(I)I"⟩
abbrev cX7_at : ByteArray := prog_9_method_3_code
def yX7_at : MethodName := ⟨RX7, "at", "(II)I"⟩
abbrev cX7_with : ByteArray := prog_9_method_4_code
def yX7_with : MethodName := ⟨RX7, "with", "(III)I"⟩
abbrev cX7_shiftsFrom : ByteArray := prog_9_method_5_code
def yX7_shiftsFrom : MethodName := ⟨RX7, "shiftsFrom", "(II)I"⟩
def RX8 : String := "CoverSheet"
def TX8 : u_T := fun k => match k with
  | 0 => ("CoverSheet", "team", "[LCoverSheet$Person;", true)
  | 1 => ("CoverSheet", "needs", "LCoverSheet$Needs;", true)
  | 2 => ("CoverSheet", "rules", "LCoverSheet$Rules;", true)
  | 3 => ("CoverSheet", "table", "LCoverSheet$DayTable;", true)
  | 4 => ("CoverSheet", "counting", "LCoverSheet$Counting;", true)
  | 5 => ("CoverSheet", "pricing", "LCoverSheet$Pricing;", true)
  | 6 => ("CoverSheet", "teamSize", "I", false)
  | 7 => ("CoverSheet", "lastRounds", "I", false)
  | _ => ("CoverSheet", "closedWeeks", "I", false)
def tyX8 : Nat → FieldType := fun k => match k with
  | 0 => .array (.object "CoverSheet$Person")
  | 1 => .object "CoverSheet$Needs"
  | 2 => .object "CoverSheet$Rules"
  | 3 => .object "CoverSheet$DayTable"
  | 4 => .object "CoverSheet$Counting"
  | 5 => .object "CoverSheet$Pricing"
  | 6 => .int
  | 7 => .int
  | _ => .int
abbrev wsX80 : List Cond := u_ws RX8 TX8 9
theorem nmX8 : ∀ a, a < 9 → ∀ b, b < 9 → a ≠ b → (TX8 a).2.1 ≠ (TX8 b).2.1 := by decide +kernel
theorem tyX8_ok : ∀ k, k < 9 → parseFieldDescriptor (TX8 k).2.2.1 = some (tyX8 k) := by decide +kernel
abbrev cX8_init : ByteArray := prog_1_method_1_code
def yX8_init : MethodName := ⟨RX8, "<init>", "()V"⟩
abbrev cX8_addPerson : ByteArray := prog_1_method_2_code
def yX8_addPerson : MethodName := ⟨RX8, "addPerson", "(II)I"⟩
abbrev cX8_setNeed : ByteArray := prog_1_method_3_code
def yX8_setNeed : MethodName := ⟨RX8, "setNeed", "(III)I"⟩
abbrev cX8_forbid : ByteArray := prog_1_method_4_code
def yX8_forbid : MethodName := ⟨RX8, "forbid", "(IIZ)Z"⟩
abbrev cX8_setRun : ByteArray := prog_1_method_5_code
def yX8_setRun : MethodName := ⟨RX8, "setRun", "(I)I"⟩
abbrev cX8_wish : ByteArray := prog_1_method_6_code
def yX8_wish : MethodName := ⟨RX8, "wish", "(IIZ)Z"⟩
abbrev cX8_fix : ByteArray := prog_1_method_7_code
def yX8_fix : MethodName := ⟨RX8, "fix", "(III)I"⟩
abbrev cX8_plan : ByteArray := prog_1_method_8_code
def yX8_plan : MethodName := ⟨RX8, "plan", "()I"⟩
abbrev cX8_rounds : ByteArray := prog_1_method_9_code
def yX8_rounds : MethodName := ⟨RX8, "rounds", "()I"⟩
abbrev cX8_set : ByteArray := prog_1_method_10_code
def yX8_set : MethodName := ⟨RX8, "set", "(III)I"⟩
abbrev cX8_swap : ByteArray := prog_1_method_11_code
def yX8_swap : MethodName := ⟨RX8, "swap", "(III)I"⟩
abbrev cX8_closeWeek : ByteArray := prog_1_method_12_code
def yX8_closeWeek : MethodName := ⟨RX8, "closeWeek", "()I"⟩
abbrev cX8_people : ByteArray := prog_1_method_13_code
def yX8_people : MethodName := ⟨RX8, "people", "()I"⟩
abbrev cX8_entry : ByteArray := prog_1_method_14_code
def yX8_entry : MethodName := ⟨RX8, "entry", "(II)I"⟩
abbrev cX8_gaps : ByteArray := prog_1_method_15_code
def yX8_gaps : MethodName := ⟨RX8, "gaps", "()I"⟩
abbrev cX8_gap : ByteArray := prog_1_method_16_code
def yX8_gap : MethodName := ⟨RX8, "gap", "(II)I"⟩
abbrev cX8_shifts : ByteArray := prog_1_method_17_code
def yX8_shifts : MethodName := ⟨RX8, "shifts", "(I)I"⟩
abbrev cX8_weekends : ByteArray := prog_1_method_18_code
def yX8_weekends : MethodName := ⟨RX8, "weekends", "(I)I"⟩
abbrev cX8_broken : ByteArray := prog_1_method_19_code
def yX8_broken : MethodName := ⟨RX8, "broken", "(I)I"⟩
abbrev cX8_runBefore : ByteArray := prog_1_method_20_code
def yX8_runBefore : MethodName := ⟨RX8, "runBefore", "(I)I"⟩
abbrev cX8_isFeasible : ByteArray := prog_1_method_21_code
def yX8_isFeasible : MethodName := ⟨RX8, "isFeasible", "(I)Z"⟩
abbrev cX8_weeks : ByteArray := prog_1_method_22_code
def yX8_weeks : MethodName := ⟨RX8, "weeks", "(I)I"⟩
abbrev cX8_weeksByDays : ByteArray := prog_1_method_23_code
def yX8_weeksByDays : MethodName := ⟨RX8, "weeksByDays", "(I)I"⟩
abbrev cX8_couldTake : ByteArray := prog_1_method_24_code
def yX8_couldTake : MethodName := ⟨RX8, "couldTake", "(II)I"⟩
abbrev cX8_swapFor : ByteArray := prog_1_method_25_code
def yX8_swapFor : MethodName := ⟨RX8, "swapFor", "(II)I"⟩
abbrev cX8_bound : ByteArray := prog_1_method_26_code
def yX8_bound : MethodName := ⟨RX8, "bound", "()I"⟩
abbrev cX8_isDay : ByteArray := prog_1_method_27_code
def yX8_isDay : MethodName := ⟨RX8, "isDay", "(I)Z"⟩
abbrev cX8_isEntry : ByteArray := prog_1_method_28_code
def yX8_isEntry : MethodName := ⟨RX8, "isEntry", "(I)Z"⟩
abbrev cX8_isKind : ByteArray := prog_1_method_29_code
def yX8_isKind : MethodName := ⟨RX8, "isKind", "(I)Z"⟩
abbrev cX8_personAt : ByteArray := prog_1_method_30_code
def yX8_personAt : MethodName := ⟨RX8, "personAt", "(I)LCoverSheet$Person;"⟩
abbrev cX8_couldSwap : ByteArray := prog_1_method_31_code
def yX8_couldSwap : MethodName := ⟨RX8, "couldSwap", "(LCoverSheet$Person;LCoverSheet$Person;I)Z"⟩
abbrev cX8_allGaps : ByteArray := prog_1_method_32_code
def yX8_allGaps : MethodName := ⟨RX8, "allGaps", "()I"⟩
abbrev cX8_gapWithout : ByteArray := prog_1_method_33_code
def yX8_gapWithout : MethodName := ⟨RX8, "gapWithout", "(LCoverSheet$Person;II)I"⟩
abbrev cX8_leastGapsOf : ByteArray := prog_1_method_34_code
def yX8_leastGapsOf : MethodName := ⟨RX8, "leastGapsOf", "(I)I"⟩
abbrev cX8_peopleWithOneOf : ByteArray := prog_1_method_35_code
def yX8_peopleWithOneOf : MethodName := ⟨RX8, "peopleWithOneOf", "(I)I"⟩
abbrev cX8_planRound : ByteArray := prog_1_method_36_code
def yX8_planRound : MethodName := ⟨RX8, "planRound", "()Z"⟩
abbrev cX8_chosenWeek : ByteArray := prog_1_method_37_code
def yX8_chosenWeek : MethodName := ⟨RX8, "chosenWeek", "(LCoverSheet$Person;)I"⟩
def RX9 : String := "CoverSheetModel"
def TX9 : u_T := fun k => match k with
  | 0 => ("CoverSheetModel", "thrown", "I", false)
  | 1 => ("CoverSheetModel", "many", "I", false)
  | 2 => ("CoverSheetModel", "closed", "I", false)
  | 3 => ("CoverSheetModel", "rounds", "I", false)
  | 4 => ("CoverSheetModel", "run", "I", false)
  | 5 => ("CoverSheetModel", "skills", "[I", true)
  | 6 => ("CoverSheetModel", "most", "[I", true)
  | 7 => ("CoverSheetModel", "need", "[I", true)
  | 8 => ("CoverSheetModel", "barred", "[I", true)
  | 9 => ("CoverSheetModel", "entries", "[I", true)
  | 10 => ("CoverSheetModel", "fixed", "[I", true)
  | 11 => ("CoverSheetModel", "wished", "[I", true)
  | 12 => ("CoverSheetModel", "last", "[I", true)
  | 13 => ("CoverSheetModel", "before", "[I", true)
  | _ => ("CoverSheetModel", "ends", "[I", true)
def tyX9 : Nat → FieldType := fun k => match k with
  | 0 => .int
  | 1 => .int
  | 2 => .int
  | 3 => .int
  | 4 => .int
  | 5 => .array .int
  | 6 => .array .int
  | 7 => .array .int
  | 8 => .array .int
  | 9 => .array .int
  | 10 => .array .int
  | 11 => .array .int
  | 12 => .array .int
  | 13 => .array .int
  | _ => .array .int
abbrev wsX90 : List Cond := u_ws RX9 TX9 15
theorem nmX9 : ∀ a, a < 15 → ∀ b, b < 15 → a ≠ b → (TX9 a).2.1 ≠ (TX9 b).2.1 := by decide +kernel
theorem tyX9_ok : ∀ k, k < 15 → parseFieldDescriptor (TX9 k).2.2.1 = some (tyX9 k) := by decide +kernel
abbrev cX9_init : ByteArray := prog_11_method_1_code
def yX9_init : MethodName := ⟨RX9, "<init>", "()V"⟩
abbrev cX9_thrown : ByteArray := prog_11_method_2_code
def yX9_thrown : MethodName := ⟨RX9, "thrown", "()I"⟩
abbrev cX9_fails : ByteArray := prog_11_method_3_code
def yX9_fails : MethodName := ⟨RX9, "fails", "(I)I"⟩
abbrev cX9_in : ByteArray := prog_11_method_4_code
def yX9_in : MethodName := ⟨RX9, "in", "(III)Z"⟩
abbrev cX9_isPerson : ByteArray := prog_11_method_5_code
def yX9_isPerson : MethodName := ⟨RX9, "isPerson", "(I)Z"⟩
abbrev cX9_isDay : ByteArray := prog_11_method_6_code
def yX9_isDay : MethodName := ⟨RX9, "isDay", "(I)Z"⟩
abbrev cX9_isKind : ByteArray := prog_11_method_7_code
def yX9_isKind : MethodName := ⟨RX9, "isKind", "(I)Z"⟩
abbrev cX9_isAsked : ByteArray := prog_11_method_8_code
def yX9_isAsked : MethodName := ⟨RX9, "isAsked", "(I)Z"⟩
abbrev cX9_entryOf : ByteArray := prog_11_method_9_code
def yX9_entryOf : MethodName := ⟨RX9, "entryOf", "(II)I"⟩
abbrev cX9_with : ByteArray := prog_11_method_10_code
def yX9_with : MethodName := ⟨RX9, "with", "(III)I"⟩
abbrev cX9_weekOf : ByteArray := prog_11_method_11_code
def yX9_weekOf : MethodName := ⟨RX9, "weekOf", "(I)I"⟩
abbrev cX9_enter : ByteArray := prog_11_method_12_code
def yX9_enter : MethodName := ⟨RX9, "enter", "(II)V"⟩
abbrev cX9_countShifts : ByteArray := prog_11_method_13_code
def yX9_countShifts : MethodName := ⟨RX9, "countShifts", "(I)I"⟩
abbrev cX9_isPossible : ByteArray := prog_11_method_14_code
def yX9_isPossible : MethodName := ⟨RX9, "isPossible", "(II)Z"⟩
abbrev cX9_brokenBy : ByteArray := prog_11_method_15_code
def yX9_brokenBy : MethodName := ⟨RX9, "brokenBy", "(II)I"⟩
abbrev cX9_weekendOf : ByteArray := prog_11_method_16_code
def yX9_weekendOf : MethodName := ⟨RX9, "weekendOf", "(I)I"⟩
abbrev cX9_addPerson : ByteArray := prog_11_method_17_code
def yX9_addPerson : MethodName := ⟨RX9, "addPerson", "(II)I"⟩
abbrev cX9_setNeed : ByteArray := prog_11_method_18_code
def yX9_setNeed : MethodName := ⟨RX9, "setNeed", "(III)I"⟩
abbrev cX9_forbid : ByteArray := prog_11_method_19_code
def yX9_forbid : MethodName := ⟨RX9, "forbid", "(IIZ)Z"⟩
abbrev cX9_setRun : ByteArray := prog_11_method_20_code
def yX9_setRun : MethodName := ⟨RX9, "setRun", "(I)I"⟩
abbrev cX9_wish : ByteArray := prog_11_method_21_code
def yX9_wish : MethodName := ⟨RX9, "wish", "(IIZ)Z"⟩
abbrev cX9_fix : ByteArray := prog_11_method_22_code
def yX9_fix : MethodName := ⟨RX9, "fix", "(III)I"⟩
abbrev cX9_countEntries : ByteArray := prog_11_method_23_code
def yX9_countEntries : MethodName := ⟨RX9, "countEntries", "(III)I"⟩
abbrev cX9_gapOf : ByteArray := prog_11_method_24_code
def yX9_gapOf : MethodName := ⟨RX9, "gapOf", "(III)I"⟩
abbrev cX9_allGaps : ByteArray := prog_11_method_25_code
def yX9_allGaps : MethodName := ⟨RX9, "allGaps", "()I"⟩
abbrev cX9_fills : ByteArray := prog_11_method_26_code
def yX9_fills : MethodName := ⟨RX9, "fills", "(I)I"⟩
abbrev cX9_price : ByteArray := prog_11_method_27_code
def yX9_price : MethodName := ⟨RX9, "price", "(III)I"⟩
abbrev cX9_choice : ByteArray := prog_11_method_28_code
def yX9_choice : MethodName := ⟨RX9, "choice", "(I)I"⟩
abbrev cX9_plan : ByteArray := prog_11_method_29_code
def yX9_plan : MethodName := ⟨RX9, "plan", "()I"⟩
abbrev cX9_rounds : ByteArray := prog_11_method_30_code
def yX9_rounds : MethodName := ⟨RX9, "rounds", "()I"⟩
abbrev cX9_set : ByteArray := prog_11_method_31_code
def yX9_set : MethodName := ⟨RX9, "set", "(III)I"⟩
abbrev cX9_canSwap : ByteArray := prog_11_method_32_code
def yX9_canSwap : MethodName := ⟨RX9, "canSwap", "(III)Z"⟩
abbrev cX9_swap : ByteArray := prog_11_method_33_code
def yX9_swap : MethodName := ⟨RX9, "swap", "(III)I"⟩
abbrev cX9_closeWeek : ByteArray := prog_11_method_34_code
def yX9_closeWeek : MethodName := ⟨RX9, "closeWeek", "()I"⟩
abbrev cX9_people : ByteArray := prog_11_method_35_code
def yX9_people : MethodName := ⟨RX9, "people", "()I"⟩
abbrev cX9_entry : ByteArray := prog_11_method_36_code
def yX9_entry : MethodName := ⟨RX9, "entry", "(II)I"⟩
abbrev cX9_gaps : ByteArray := prog_11_method_37_code
def yX9_gaps : MethodName := ⟨RX9, "gaps", "()I"⟩
abbrev cX9_gap : ByteArray := prog_11_method_38_code
def yX9_gap : MethodName := ⟨RX9, "gap", "(II)I"⟩
abbrev cX9_shifts : ByteArray := prog_11_method_39_code
def yX9_shifts : MethodName := ⟨RX9, "shifts", "(I)I"⟩
abbrev cX9_weekends : ByteArray := prog_11_method_40_code
def yX9_weekends : MethodName := ⟨RX9, "weekends", "(I)I"⟩
abbrev cX9_broken : ByteArray := prog_11_method_41_code
def yX9_broken : MethodName := ⟨RX9, "broken", "(I)I"⟩
abbrev cX9_runBefore : ByteArray := prog_11_method_42_code
def yX9_runBefore : MethodName := ⟨RX9, "runBefore", "(I)I"⟩
abbrev cX9_isFeasible : ByteArray := prog_11_method_43_code
def yX9_isFeasible : MethodName := ⟨RX9, "isFeasible", "(I)Z"⟩
abbrev cX9_countWeeks : ByteArray := prog_11_method_44_code
def yX9_countWeeks : MethodName := ⟨RX9, "countWeeks", "(I)I"⟩
abbrev cX9_weeks : ByteArray := prog_11_method_45_code
def yX9_weeks : MethodName := ⟨RX9, "weeks", "(I)I"⟩
abbrev cX9_weeksByDays : ByteArray := prog_11_method_46_code
def yX9_weeksByDays : MethodName := ⟨RX9, "weeksByDays", "(I)I"⟩
abbrev cX9_couldTake : ByteArray := prog_11_method_47_code
def yX9_couldTake : MethodName := ⟨RX9, "couldTake", "(II)I"⟩
abbrev cX9_swapFor : ByteArray := prog_11_method_48_code
def yX9_swapFor : MethodName := ⟨RX9, "swapFor", "(II)I"⟩
abbrev cX9_lacking : ByteArray := prog_11_method_49_code
def yX9_lacking : MethodName := ⟨RX9, "lacking", "(I)I"⟩
abbrev cX9_bound : ByteArray := prog_11_method_50_code
def yX9_bound : MethodName := ⟨RX9, "bound", "()I"⟩
def RJx145de : String := "java/io/Serializable"
def TJx145de : u_T := fun k => match k with
  | _ => ("", "", "", false)
def tyJx145de : Nat → FieldType := fun k => match k with
  | _ => .int
abbrev wsJx145de0 : List Cond := u_ws RJx145de TJx145de 0
theorem nmJx145de : ∀ a, a < 0 → ∀ b, b < 0 → a ≠ b → (TJx145de a).2.1 ≠ (TJx145de b).2.1 := by decide +kernel
theorem tyJx145de_ok : ∀ k, k < 0 → parseFieldDescriptor (TJx145de k).2.2.1 = some (tyJx145de k) := by decide +kernel
def RJ9 : String := "java/lang/Math"
def TJ9 : u_T := fun k => match k with
  | _ => ("", "", "", false)
def tyJ9 : Nat → FieldType := fun k => match k with
  | _ => .int
abbrev wsJ90 : List Cond := u_ws RJ9 TJ9 0
theorem nmJ9 : ∀ a, a < 0 → ∀ b, b < 0 → a ≠ b → (TJ9 a).2.1 ≠ (TJ9 b).2.1 := by decide +kernel
theorem tyJ9_ok : ∀ k, k < 0 → parseFieldDescriptor (TJ9 k).2.2.1 = some (tyJ9 k) := by decide +kernel
abbrev cJ9_max_7cf53 : ByteArray := prog_16_method_65_code
def yJ9_max_7cf53 : MethodName := ⟨RJ9, "max", "(II)I"⟩
abbrev cJ9_min_7cf53 : ByteArray := prog_16_method_69_code
def yJ9_min_7cf53 : MethodName := ⟨RJ9, "min", "(II)I"⟩
abbrev cJ9_min_f86c9 : ByteArray := prog_16_method_70_code
def yJ9_min_f86c9 : MethodName := ⟨RJ9, "min", "(JJ)J"⟩
def RJ0 : String := "java/lang/String"
def TJ0 : u_T := fun k => match k with
  | _ => ("", "", "", false)
def tyJ0 : Nat → FieldType := fun k => match k with
  | _ => .int
abbrev wsJ00 : List Cond := u_ws RJ0 TJ0 0
theorem nmJ0 : ∀ a, a < 0 → ∀ b, b < 0 → a ≠ b → (TJ0 a).2.1 ≠ (TJ0 b).2.1 := by decide +kernel
theorem tyJ0_ok : ∀ k, k < 0 → parseFieldDescriptor (TJ0 k).2.2.1 = some (tyJ0 k) := by decide +kernel
def RJ7 : String := "java/util/Arrays"
def TJ7 : u_T := fun k => match k with
  | _ => ("", "", "", false)
def tyJ7 : Nat → FieldType := fun k => match k with
  | _ => .int
abbrev wsJ70 : List Cond := u_ws RJ7 TJ7 0
theorem nmJ7 : ∀ a, a < 0 → ∀ b, b < 0 → a ≠ b → (TJ7 a).2.1 ≠ (TJ7 b).2.1 := by decide +kernel
theorem tyJ7_ok : ∀ k, k < 0 → parseFieldDescriptor (TJ7 k).2.2.1 = some (tyJ7 k) := by decide +kernel
abbrev cJ7_fill_d0a16 : ByteArray := prog_20_method_101_code
def yJ7_fill_d0a16 : MethodName := ⟨RJ7, "fill", "([JJ)V"⟩
def RL : String := "CoverSheetLaw"
abbrev cL_addPerson : ByteArray := method_3_code
def yL_addPerson : MethodName := ⟨RL, "addPerson", "(LCoverSheet;II[J)I"⟩
abbrev cL_setNeed : ByteArray := method_4_code
def yL_setNeed : MethodName := ⟨RL, "setNeed", "(LCoverSheet;III[J)I"⟩
abbrev cL_forbid : ByteArray := method_5_code
def yL_forbid : MethodName := ⟨RL, "forbid", "(LCoverSheet;IIZ[J)I"⟩
abbrev cL_setRun : ByteArray := method_6_code
def yL_setRun : MethodName := ⟨RL, "setRun", "(LCoverSheet;I[J)I"⟩
abbrev cL_wish : ByteArray := method_7_code
def yL_wish : MethodName := ⟨RL, "wish", "(LCoverSheet;IIZ[J)I"⟩
abbrev cL_fix : ByteArray := method_8_code
def yL_fix : MethodName := ⟨RL, "fix", "(LCoverSheet;III[J)I"⟩
abbrev cL_set : ByteArray := method_9_code
def yL_set : MethodName := ⟨RL, "set", "(LCoverSheet;III[J)I"⟩
abbrev cL_swap : ByteArray := method_10_code
def yL_swap : MethodName := ⟨RL, "swap", "(LCoverSheet;III[J)I"⟩
abbrev cL_entry : ByteArray := method_11_code
def yL_entry : MethodName := ⟨RL, "entry", "(LCoverSheet;II[J)I"⟩
abbrev cL_gap : ByteArray := method_12_code
def yL_gap : MethodName := ⟨RL, "gap", "(LCoverSheet;II[J)I"⟩
abbrev cL_shifts : ByteArray := method_13_code
def yL_shifts : MethodName := ⟨RL, "shifts", "(LCoverSheet;I[J)I"⟩
abbrev cL_weekends : ByteArray := method_14_code
def yL_weekends : MethodName := ⟨RL, "weekends", "(LCoverSheet;I[J)I"⟩
abbrev cL_broken : ByteArray := method_15_code
def yL_broken : MethodName := ⟨RL, "broken", "(LCoverSheet;I[J)I"⟩
abbrev cL_runBefore : ByteArray := method_16_code
def yL_runBefore : MethodName := ⟨RL, "runBefore", "(LCoverSheet;I[J)I"⟩
abbrev cL_isFeasible : ByteArray := method_17_code
def yL_isFeasible : MethodName := ⟨RL, "isFeasible", "(LCoverSheet;I[J)I"⟩
abbrev cL_weeks : ByteArray := method_18_code
def yL_weeks : MethodName := ⟨RL, "weeks", "(LCoverSheet;I[J)I"⟩
abbrev cL_weeksByDays : ByteArray := method_19_code
def yL_weeksByDays : MethodName := ⟨RL, "weeksByDays", "(LCoverSheet;I[J)I"⟩
abbrev cL_couldTake : ByteArray := method_20_code
def yL_couldTake : MethodName := ⟨RL, "couldTake", "(LCoverSheet;II[J)I"⟩
abbrev cL_swapFor : ByteArray := method_21_code
def yL_swapFor : MethodName := ⟨RL, "swapFor", "(LCoverSheet;II[J)I"⟩
abbrev cL_law : ByteArray := code
def yL_law : MethodName := ⟨RL, "law", "([I)Z"⟩
def wsX2_init : List Cond := .code yX2_init cX2_init 1 none :: ([.methodLink RX2 1 objectInit, .instanceMethod objectInit, .code objectInit ⟨#[0xb1]⟩ 1 none])
def wsX0_init : List Cond := .code yX0_init cX0_init 1 none :: ([.instanceMethod yX2_init, .initialized RX2, .code yX2_init cX2_init 1 none, .methodLink RX2 1 objectInit, .instanceMethod objectInit, .code objectInit ⟨#[0xb1]⟩ 1 none])
def wsX0_none : List Cond := .code yX0_none cX0_none 1 (some .long) :: ([])
def wsX0_start : List Cond := .code yX0_start cX0_start 1 (some .long) :: ([])
def wsX0_longer : List Cond := .code yX0_longer cX0_longer 5 (some .long) :: ([])
def wsX0_joined : List Cond := .code yX0_joined cX0_joined 5 (some .long) :: ([])
def wsX1_init : List Cond := .code yX1_init cX1_init 1 none :: ([.methodLink RX1 5 objectInit, .instanceMethod objectInit, .code objectInit ⟨#[0xb1]⟩ 1 none, .arrayClass .long, .fieldLink RX1 11 "CoverSheet$DayTable" "values" "[J", .fieldLink RX1 15 "CoverSheet$DayTable" "nextValues" "[J"] ++ wsX10)
def wsX1_placeOf : List Cond := .code yX1_placeOf cX1_placeOf 3 (some .int) :: ([])
def wsX5_none : List Cond := .code yX5_none cX5_none 1 (some .long) :: ([.constantLong RX5 41 (9223372036854775807)])
def wsJ7_fill_d0a16 : List Cond := .code yJ7_fill_d0a16 cJ7_fill_d0a16 5 none :: ([])
def wsX5_start : List Cond := .code yX5_start cX5_start 1 (some .long) :: ([])
def wsX4_fixedAt : List Cond := .code yX4_fixedAt cX4_fixedAt 2 (some .int) :: ([.fieldLink RX4 34 "CoverSheet$Person" "fixed" "I"] ++ wsX40)
def wsX4_mayHave : List Cond := .code yX4_mayHave cX4_mayHave 4 (some .boolean) :: ([.fieldLink RX4 9 "CoverSheet$Person" "skills" "I", .methodLink RX4 37 yX4_fixedAt, .instanceMethod yX4_fixedAt, .selects RX4 yX4_fixedAt yX4_fixedAt, .initialized RX4, .code yX4_fixedAt cX4_fixedAt 2 (some .int), .fieldLink RX4 34 "CoverSheet$Person" "fixed" "I"] ++ wsX40)
def wsX6_pairOf : List Cond := .code yX6_pairOf cX6_pairOf 2 (some .int) :: ([])
def wsX6_allow : List Cond := .code yX6_allow cX6_allow 4 (some .boolean) :: ([.fieldLink RX6 19 "CoverSheet$Rules" "longestRun" "I", .fieldLink RX6 15 "CoverSheet$Rules" "forbidden" "I", .methodLink RX6 9 yX6_pairOf, .static yX6_pairOf, .initialized RX6, .code yX6_pairOf cX6_pairOf 2 (some .int)] ++ wsX60)
def wsX5_longer : List Cond := .code yX5_longer cX5_longer 6 (some .long) :: ([.fieldLink RX5 15 "CoverSheet$Pricing" "prices" "[J", .constantLong RX5 41 (9223372036854775807)] ++ wsX50)
def wsX5_joined : List Cond := .code yX5_joined cX5_joined 5 (some .long) :: ([.methodLink RX5 45 Lib.MathLoose.min_long.x, .static Lib.MathLoose.min_long.x, .initialized "java/lang/Math", .code Lib.MathLoose.min_long.x Lib.MathLoose.min_long.code 4 (some .long)])
def wsX1_goOn_r1 : List Cond := [Cond.fieldLink RX1 15 "CoverSheet$DayTable" "nextValues" "[J", Cond.fieldLink RX1 11 "CoverSheet$DayTable" "values" "[J", Cond.methodLink RX1 18 ⟨"CoverSheet$Measure", "none", "()J"⟩, Cond.sameMethod "CoverSheet$Measure" "CoverSheet$Measure" "none" "()J", Cond.selects RX0 ⟨"CoverSheet$Measure", "none", "()J"⟩ yX0_none, Cond.instanceMethod yX0_none, Cond.initialized RX0, Cond.code yX0_none cX0_none 1 (some .long), Cond.selects RX5 ⟨"CoverSheet$Measure", "none", "()J"⟩ yX5_none, Cond.instanceMethod yX5_none, Cond.initialized RX5, Cond.code yX5_none cX5_none 1 (some .long), Cond.constantLong RX5 41 (9223372036854775807), Cond.methodLink RX1 24 yJ7_fill_d0a16, Cond.static yJ7_fill_d0a16, Cond.initialized RJ7, Cond.code yJ7_fill_d0a16 cJ7_fill_d0a16 5 none, Cond.methodLink RX1 63 yX4_mayHave, Cond.instanceMethod yX4_mayHave, Cond.selects RX4 yX4_mayHave yX4_mayHave, Cond.initialized RX4, Cond.code yX4_mayHave cX4_mayHave 4 (some .boolean), Cond.fieldLink RX4 9 "CoverSheet$Person" "skills" "I", Cond.methodLink RX4 37 yX4_fixedAt]
def wsX1_goOn_r2 : List Cond := [Cond.instanceMethod yX4_fixedAt, Cond.selects RX4 yX4_fixedAt yX4_fixedAt, Cond.code yX4_fixedAt cX4_fixedAt 2 (some .int), Cond.fieldLink RX4 34 "CoverSheet$Person" "fixed" "I", Cond.methodLink RX1 67 yX6_allow, Cond.instanceMethod yX6_allow, Cond.selects RX6 yX6_allow yX6_allow, Cond.initialized RX6, Cond.code yX6_allow cX6_allow 4 (some .boolean), Cond.fieldLink RX6 19 "CoverSheet$Rules" "longestRun" "I", Cond.fieldLink RX6 15 "CoverSheet$Rules" "forbidden" "I", Cond.methodLink RX6 9 yX6_pairOf, Cond.static yX6_pairOf, Cond.code yX6_pairOf cX6_pairOf 2 (some .int), Cond.methodLink RX1 45 yX1_placeOf, Cond.static yX1_placeOf, Cond.initialized RX1, Cond.code yX1_placeOf cX1_placeOf 3 (some .int), Cond.methodLink RX1 73 ⟨"CoverSheet$Measure", "longer", "(JII)J"⟩, Cond.sameMethod "CoverSheet$Measure" "CoverSheet$Measure" "longer" "(JII)J", Cond.selects RX0 ⟨"CoverSheet$Measure", "longer", "(JII)J"⟩ yX0_longer, Cond.instanceMethod yX0_longer, Cond.code yX0_longer cX0_longer 5 (some .long), Cond.selects RX5 ⟨"CoverSheet$Measure", "longer", "(JII)J"⟩ yX5_longer]
def wsX1_goOn_r3 : List Cond := [Cond.instanceMethod yX5_longer, Cond.code yX5_longer cX5_longer 6 (some .long), Cond.fieldLink RX5 15 "CoverSheet$Pricing" "prices" "[J", Cond.methodLink RX1 56 ⟨"CoverSheet$Measure", "joined", "(JJ)J"⟩, Cond.sameMethod "CoverSheet$Measure" "CoverSheet$Measure" "joined" "(JJ)J", Cond.selects RX0 ⟨"CoverSheet$Measure", "joined", "(JJ)J"⟩ yX0_joined, Cond.instanceMethod yX0_joined, Cond.code yX0_joined cX0_joined 5 (some .long), Cond.selects RX5 ⟨"CoverSheet$Measure", "joined", "(JJ)J"⟩ yX5_joined, Cond.instanceMethod yX5_joined, Cond.code yX5_joined cX5_joined 5 (some .long), Cond.methodLink RX5 45 Lib.MathLoose.min_long.x, Cond.static Lib.MathLoose.min_long.x, Cond.initialized "java/lang/Math", Cond.code Lib.MathLoose.min_long.x Lib.MathLoose.min_long.code 4 (some .long)]
def wsX1_goOn : List Cond := .code yX1_goOn cX1_goOn 16 none :: ((wsX1_goOn_r1 ++ (wsX1_goOn_r2 ++ wsX1_goOn_r3)) ++ wsX10 ++ wsX40 ++ wsX60 ++ wsX50)
def wsX1_through_r1 : List Cond := [Cond.fieldLink RX1 11 "CoverSheet$DayTable" "values" "[J", Cond.methodLink RX1 36 Lib.Math.min.name, Cond.static Lib.Math.min.name, Cond.initialized "java/lang/Math", Cond.code Lib.Math.min.name Lib.Math.min.code 2 (some .int), Cond.methodLink RX1 18 ⟨"CoverSheet$Measure", "none", "()J"⟩, Cond.sameMethod "CoverSheet$Measure" "CoverSheet$Measure" "none" "()J", Cond.selects RX0 ⟨"CoverSheet$Measure", "none", "()J"⟩ yX0_none, Cond.instanceMethod yX0_none, Cond.initialized RX0, Cond.code yX0_none cX0_none 1 (some .long), Cond.selects RX5 ⟨"CoverSheet$Measure", "none", "()J"⟩ yX5_none, Cond.instanceMethod yX5_none, Cond.initialized RX5, Cond.code yX5_none cX5_none 1 (some .long), Cond.constantLong RX5 41 (9223372036854775807), Cond.methodLink RX1 24 yJ7_fill_d0a16, Cond.static yJ7_fill_d0a16, Cond.initialized RJ7, Cond.code yJ7_fill_d0a16 cJ7_fill_d0a16 5 none, Cond.methodLink RX1 45 yX1_placeOf, Cond.static yX1_placeOf, Cond.initialized RX1, Cond.code yX1_placeOf cX1_placeOf 3 (some .int)]
def wsX1_through_r2 : List Cond := [Cond.methodLink RX1 49 ⟨"CoverSheet$Measure", "start", "()J"⟩, Cond.sameMethod "CoverSheet$Measure" "CoverSheet$Measure" "start" "()J", Cond.selects RX0 ⟨"CoverSheet$Measure", "start", "()J"⟩ yX0_start, Cond.instanceMethod yX0_start, Cond.code yX0_start cX0_start 1 (some .long), Cond.selects RX5 ⟨"CoverSheet$Measure", "start", "()J"⟩ yX5_start, Cond.instanceMethod yX5_start, Cond.code yX5_start cX5_start 1 (some .long), Cond.methodLink RX1 52 yX1_goOn, Cond.instanceMethod yX1_goOn, Cond.selects RX1 yX1_goOn yX1_goOn, Cond.code yX1_goOn cX1_goOn 16 none, Cond.fieldLink RX1 15 "CoverSheet$DayTable" "nextValues" "[J", Cond.methodLink RX1 63 yX4_mayHave, Cond.instanceMethod yX4_mayHave, Cond.selects RX4 yX4_mayHave yX4_mayHave, Cond.initialized RX4, Cond.code yX4_mayHave cX4_mayHave 4 (some .boolean), Cond.fieldLink RX4 9 "CoverSheet$Person" "skills" "I", Cond.methodLink RX4 37 yX4_fixedAt, Cond.instanceMethod yX4_fixedAt, Cond.selects RX4 yX4_fixedAt yX4_fixedAt, Cond.code yX4_fixedAt cX4_fixedAt 2 (some .int), Cond.fieldLink RX4 34 "CoverSheet$Person" "fixed" "I"]
def wsX1_through_r3 : List Cond := [Cond.methodLink RX1 67 yX6_allow, Cond.instanceMethod yX6_allow, Cond.selects RX6 yX6_allow yX6_allow, Cond.initialized RX6, Cond.code yX6_allow cX6_allow 4 (some .boolean), Cond.fieldLink RX6 19 "CoverSheet$Rules" "longestRun" "I", Cond.fieldLink RX6 15 "CoverSheet$Rules" "forbidden" "I", Cond.methodLink RX6 9 yX6_pairOf, Cond.static yX6_pairOf, Cond.code yX6_pairOf cX6_pairOf 2 (some .int), Cond.methodLink RX1 73 ⟨"CoverSheet$Measure", "longer", "(JII)J"⟩, Cond.sameMethod "CoverSheet$Measure" "CoverSheet$Measure" "longer" "(JII)J", Cond.selects RX0 ⟨"CoverSheet$Measure", "longer", "(JII)J"⟩ yX0_longer, Cond.instanceMethod yX0_longer, Cond.code yX0_longer cX0_longer 5 (some .long), Cond.selects RX5 ⟨"CoverSheet$Measure", "longer", "(JII)J"⟩ yX5_longer, Cond.instanceMethod yX5_longer, Cond.code yX5_longer cX5_longer 6 (some .long), Cond.fieldLink RX5 15 "CoverSheet$Pricing" "prices" "[J", Cond.methodLink RX1 56 ⟨"CoverSheet$Measure", "joined", "(JJ)J"⟩, Cond.sameMethod "CoverSheet$Measure" "CoverSheet$Measure" "joined" "(JJ)J", Cond.selects RX0 ⟨"CoverSheet$Measure", "joined", "(JJ)J"⟩ yX0_joined, Cond.instanceMethod yX0_joined, Cond.code yX0_joined cX0_joined 5 (some .long)]
def wsX1_through_r4 : List Cond := [Cond.selects RX5 ⟨"CoverSheet$Measure", "joined", "(JJ)J"⟩ yX5_joined, Cond.instanceMethod yX5_joined, Cond.code yX5_joined cX5_joined 5 (some .long), Cond.methodLink RX5 45 Lib.MathLoose.min_long.x, Cond.static Lib.MathLoose.min_long.x, Cond.code Lib.MathLoose.min_long.x Lib.MathLoose.min_long.code 4 (some .long)]
def wsX1_through : List Cond := .code yX1_through cX1_through 12 (some .long) :: ((wsX1_through_r1 ++ (wsX1_through_r2 ++ (wsX1_through_r3 ++ wsX1_through_r4))) ++ wsX10 ++ wsX40 ++ wsX60 ++ wsX50)
def wsX3_init : List Cond := .code yX3_init cX3_init 1 none :: ([.methodLink RX3 3 objectInit, .instanceMethod objectInit, .code objectInit ⟨#[0xb1]⟩ 1 none, .arrayClass .int, .fieldLink RX3 9 "CoverSheet$Needs" "numbers" "[I"] ++ wsX30)
def wsX3_of : List Cond := .code yX3_of cX3_of 4 (some .int) :: ([.fieldLink RX3 9 "CoverSheet$Needs" "numbers" "[I"] ++ wsX30)
def wsX3_put : List Cond := .code yX3_put cX3_put 5 none :: ([.fieldLink RX3 9 "CoverSheet$Needs" "numbers" "[I"] ++ wsX30)
def wsX4_init : List Cond := .code yX4_init cX4_init 3 none :: ([.methodLink RX4 3 objectInit, .instanceMethod objectInit, .code objectInit ⟨#[0xb1]⟩ 1 none, .fieldLink RX4 9 "CoverSheet$Person" "skills" "I", .fieldLink RX4 15 "CoverSheet$Person" "most" "I"] ++ wsX40)
def wsX4_changeWish : List Cond := .code yX4_changeWish cX4_changeWish 4 (some .boolean) :: ([.fieldLink RX4 18 "CoverSheet$Person" "wishes" "I"] ++ wsX40)
def wsX4_breaksWish : List Cond := .code yX4_breaksWish cX4_breaksWish 3 (some .boolean) :: ([.fieldLink RX4 18 "CoverSheet$Person" "wishes" "I"] ++ wsX40)
def wsX7_placeOf : List Cond := .code yX7_placeOf cX7_placeOf 1 (some .int) :: ([])
def wsX7_at : List Cond := .code yX7_at cX7_at 2 (some .int) :: ([.methodLink RX7 9 yX7_placeOf, .static yX7_placeOf, .initialized RX7, .code yX7_placeOf cX7_placeOf 1 (some .int)])
def wsX4_brokenWishes : List Cond := .code yX4_brokenWishes cX4_brokenWishes 3 (some .int) :: ([.fieldLink RX4 21 "CoverSheet$Person" "week" "I", .methodLink RX4 24 yX7_at, .static yX7_at, .initialized RX7, .code yX7_at cX7_at 2 (some .int), .methodLink RX7 9 yX7_placeOf, .static yX7_placeOf, .code yX7_placeOf cX7_placeOf 1 (some .int), .methodLink RX4 30 yX4_breaksWish, .instanceMethod yX4_breaksWish, .selects RX4 yX4_breaksWish yX4_breaksWish, .initialized RX4, .code yX4_breaksWish cX4_breaksWish 3 (some .boolean), .fieldLink RX4 18 "CoverSheet$Person" "wishes" "I"] ++ wsX40)
def wsX4_changeFixed : List Cond := .code yX4_changeFixed cX4_changeFixed 4 none :: ([.fieldLink RX4 34 "CoverSheet$Person" "fixed" "I"] ++ wsX40)
def wsX7_shiftsFrom : List Cond := .code yX7_shiftsFrom cX7_shiftsFrom 4 (some .int) :: ([.methodLink RX7 15 yX7_at, .static yX7_at, .initialized RX7, .code yX7_at cX7_at 2 (some .int), .methodLink RX7 9 yX7_placeOf, .static yX7_placeOf, .code yX7_placeOf cX7_placeOf 1 (some .int)])
def wsX4_canHave_r1 : List Cond := [Cond.fieldLink RX4 41 "CoverSheet$Person" "lastEntry" "I", Cond.fieldLink RX4 44 "CoverSheet$Person" "daysInARow" "I", Cond.fieldLink RX4 15 "CoverSheet$Person" "most" "I", Cond.methodLink RX4 24 yX7_at, Cond.static yX7_at, Cond.initialized RX7, Cond.code yX7_at cX7_at 2 (some .int), Cond.methodLink RX7 9 yX7_placeOf, Cond.static yX7_placeOf, Cond.code yX7_placeOf cX7_placeOf 1 (some .int), Cond.methodLink RX4 47 yX4_mayHave, Cond.instanceMethod yX4_mayHave, Cond.selects RX4 yX4_mayHave yX4_mayHave, Cond.initialized RX4, Cond.code yX4_mayHave cX4_mayHave 4 (some .boolean), Cond.fieldLink RX4 9 "CoverSheet$Person" "skills" "I", Cond.methodLink RX4 37 yX4_fixedAt, Cond.instanceMethod yX4_fixedAt, Cond.selects RX4 yX4_fixedAt yX4_fixedAt, Cond.code yX4_fixedAt cX4_fixedAt 2 (some .int), Cond.fieldLink RX4 34 "CoverSheet$Person" "fixed" "I", Cond.methodLink RX4 50 yX6_allow, Cond.instanceMethod yX6_allow, Cond.selects RX6 yX6_allow yX6_allow]
def wsX4_canHave_r2 : List Cond := [Cond.initialized RX6, Cond.code yX6_allow cX6_allow 4 (some .boolean), Cond.fieldLink RX6 19 "CoverSheet$Rules" "longestRun" "I", Cond.fieldLink RX6 15 "CoverSheet$Rules" "forbidden" "I", Cond.methodLink RX6 9 yX6_pairOf, Cond.static yX6_pairOf, Cond.code yX6_pairOf cX6_pairOf 2 (some .int), Cond.methodLink RX4 56 yX7_shiftsFrom, Cond.static yX7_shiftsFrom, Cond.code yX7_shiftsFrom cX7_shiftsFrom 4 (some .int), Cond.methodLink RX7 15 yX7_at]
def wsX4_canHave : List Cond := .code yX4_canHave cX4_canHave 7 (some .boolean) :: ((wsX4_canHave_r1 ++ wsX4_canHave_r2) ++ wsX40 ++ wsX60)
def wsX4_noteWeek : List Cond := .code yX4_noteWeek cX4_noteWeek 2 none :: ([.fieldLink RX4 21 "CoverSheet$Person" "week" "I", .fieldLink RX4 44 "CoverSheet$Person" "daysInARow" "I", .fieldLink RX4 41 "CoverSheet$Person" "lastEntry" "I", .fieldLink RX4 59 "CoverSheet$Person" "weekendShifts" "I", .fieldLink RX4 18 "CoverSheet$Person" "wishes" "I", .fieldLink RX4 34 "CoverSheet$Person" "fixed" "I", .methodLink RX4 24 yX7_at, .static yX7_at, .initialized RX7, .code yX7_at cX7_at 2 (some .int), .methodLink RX7 9 yX7_placeOf, .static yX7_placeOf, .code yX7_placeOf cX7_placeOf 1 (some .int), .methodLink RX4 56 yX7_shiftsFrom, .static yX7_shiftsFrom, .code yX7_shiftsFrom cX7_shiftsFrom 4 (some .int), .methodLink RX7 15 yX7_at] ++ wsX40)
def wsX5_init : List Cond := .code yX5_init cX5_init 1 none :: ([.arrayClass .long, .fieldLink RX5 15 "CoverSheet$Pricing" "prices" "[J", .instanceMethod yX2_init, .initialized RX2, .code yX2_init cX2_init 1 none, .methodLink RX2 1 objectInit, .instanceMethod objectInit, .code objectInit ⟨#[0xb1]⟩ 1 none] ++ wsX50)
def wsX7_with : List Cond := .code yX7_with cX7_with 4 (some .int) :: ([.methodLink RX7 9 yX7_placeOf, .static yX7_placeOf, .initialized RX7, .code yX7_placeOf cX7_placeOf 1 (some .int)])
def wsX5_priceOf : List Cond := .code yX5_priceOf cX5_priceOf 6 (some .long) :: ([.constantLong RX5 23 (4503599627370496), .constantLong RX5 25 (562949953421312), .constantLong RX5 27 (131072), .constantLong RX5 39 (16384), .methodLink RX5 19 yX7_with, .static yX7_with, .initialized RX7, .code yX7_with cX7_with 4 (some .int), .methodLink RX7 9 yX7_placeOf, .static yX7_placeOf, .code yX7_placeOf cX7_placeOf 1 (some .int), .methodLink RX5 35 yX4_breaksWish, .instanceMethod yX4_breaksWish, .selects RX4 yX4_breaksWish yX4_breaksWish, .initialized RX4, .code yX4_breaksWish cX4_breaksWish 3 (some .boolean), .fieldLink RX4 18 "CoverSheet$Person" "wishes" "I"] ++ wsX40)
def wsX5_weekOf : List Cond := .code yX5_weekOf cX5_weekOf 2 (some .int) :: ([.constantLong RX5 41 (9223372036854775807), .constantLong RX5 43 (16383)])
def wsX5_put : List Cond := .code yX5_put cX5_put 6 none :: ([.fieldLink RX5 15 "CoverSheet$Pricing" "prices" "[J"] ++ wsX50)
def wsX6_init : List Cond := .code yX6_init cX6_init 1 none :: ([.methodLink RX6 3 objectInit, .instanceMethod objectInit, .code objectInit ⟨#[0xb1]⟩ 1 none, .fieldLink RX6 15 "CoverSheet$Rules" "forbidden" "I", .fieldLink RX6 19 "CoverSheet$Rules" "longestRun" "I", .methodLink RX6 9 yX6_pairOf, .static yX6_pairOf, .initialized RX6, .code yX6_pairOf cX6_pairOf 2 (some .int)] ++ wsX60)
def wsX6_changeFollowing : List Cond := .code yX6_changeFollowing cX6_changeFollowing 5 (some .boolean) :: ([.fieldLink RX6 15 "CoverSheet$Rules" "forbidden" "I", .methodLink RX6 9 yX6_pairOf, .static yX6_pairOf, .initialized RX6, .code yX6_pairOf cX6_pairOf 2 (some .int)] ++ wsX60)
def wsX8_init_r1 : List Cond := [Cond.methodLink RX8 3 objectInit, Cond.instanceMethod objectInit, Cond.code objectInit ⟨#[0xb1]⟩ 1 none, Cond.classLink RX8 9 RX4, Cond.fieldLink RX8 11 "CoverSheet" "team" "[LCoverSheet$Person;", Cond.classLink RX8 15 RX3, Cond.instantiable RX3 1, Cond.initialized RX3, Cond.fieldLink RX8 18 "CoverSheet" "needs" "LCoverSheet$Needs;", Cond.classLink RX8 22 RX6, Cond.instantiable RX6 2, Cond.initialized RX6, Cond.fieldLink RX8 25 "CoverSheet" "rules" "LCoverSheet$Rules;", Cond.classLink RX8 29 RX1, Cond.instantiable RX1 2, Cond.initialized RX1, Cond.fieldLink RX8 32 "CoverSheet" "table" "LCoverSheet$DayTable;", Cond.classLink RX8 36 RX0, Cond.instantiable RX0 0, Cond.initialized RX0, Cond.fieldLink RX8 39 "CoverSheet" "counting" "LCoverSheet$Counting;", Cond.classLink RX8 43 RX5, Cond.instantiable RX5 1, Cond.initialized RX5]
def wsX8_init_r2 : List Cond := [Cond.fieldLink RX8 46 "CoverSheet" "pricing" "LCoverSheet$Pricing;", Cond.instanceMethod yX3_init, Cond.code yX3_init cX3_init 1 none, Cond.methodLink RX3 3 objectInit, Cond.arrayClass .int, Cond.fieldLink RX3 9 "CoverSheet$Needs" "numbers" "[I", Cond.instanceMethod yX6_init, Cond.code yX6_init cX6_init 1 none, Cond.methodLink RX6 3 objectInit, Cond.fieldLink RX6 15 "CoverSheet$Rules" "forbidden" "I", Cond.fieldLink RX6 19 "CoverSheet$Rules" "longestRun" "I", Cond.methodLink RX6 9 yX6_pairOf, Cond.static yX6_pairOf, Cond.code yX6_pairOf cX6_pairOf 2 (some .int), Cond.instanceMethod yX1_init, Cond.code yX1_init cX1_init 1 none, Cond.methodLink RX1 5 objectInit, Cond.arrayClass .long, Cond.fieldLink RX1 11 "CoverSheet$DayTable" "values" "[J", Cond.fieldLink RX1 15 "CoverSheet$DayTable" "nextValues" "[J", Cond.instanceMethod yX0_init, Cond.code yX0_init cX0_init 1 none, Cond.instanceMethod yX2_init, Cond.initialized RX2]
def wsX8_init_r3 : List Cond := [Cond.code yX2_init cX2_init 1 none, Cond.methodLink RX2 1 objectInit, Cond.instanceMethod yX5_init, Cond.code yX5_init cX5_init 1 none, Cond.fieldLink RX5 15 "CoverSheet$Pricing" "prices" "[J"]
def wsX8_init : List Cond := .code yX8_init cX8_init 1 none :: ((wsX8_init_r1 ++ (wsX8_init_r2 ++ wsX8_init_r3)) ++ wsX80 ++ wsX30 ++ wsX60 ++ wsX10 ++ wsX00 ++ wsX50)
def wsX8_addPerson : List Cond := .code yX8_addPerson cX8_addPerson 3 (some .int) :: ([.classLink RX8 50 "java/lang/IllegalArgumentException", .initialized "java/lang/IllegalArgumentException", .classLink RX8 63 "java/lang/IllegalStateException", .initialized "java/lang/IllegalStateException", .fieldLink RX8 59 "CoverSheet" "teamSize" "I", .fieldLink RX8 11 "CoverSheet" "team" "[LCoverSheet$Person;", .classLink RX8 9 RX4, .instantiable RX4 8, .initialized RX4, .instanceMethod yX4_init, .code yX4_init cX4_init 3 none, .methodLink RX4 3 objectInit, .instanceMethod objectInit, .code objectInit ⟨#[0xb1]⟩ 1 none, .fieldLink RX4 9 "CoverSheet$Person" "skills" "I", .fieldLink RX4 15 "CoverSheet$Person" "most" "I"] ++ wsX80 ++ wsX40 ++ (vx_atS RX8 54 "java/lang/IllegalArgumentException" ["java/lang/RuntimeException", "java/lang/Exception"]).filter goodWord ++ (vx_atS RX8 67 "java/lang/IllegalStateException" ["java/lang/RuntimeException", "java/lang/Exception"]).filter goodWord)
def wsX8_isDay : List Cond := .code yX8_isDay cX8_isDay 1 (some .boolean) :: ([])
def wsX8_isKind : List Cond := .code yX8_isKind cX8_isKind 1 (some .boolean) :: ([])
def wsX8_setNeed : List Cond := .code yX8_setNeed cX8_setNeed 5 (some .int) :: ([.classLink RX8 78 "java/lang/IndexOutOfBoundsException", .initialized "java/lang/IndexOutOfBoundsException", .classLink RX8 50 "java/lang/IllegalArgumentException", .initialized "java/lang/IllegalArgumentException", .fieldLink RX8 18 "CoverSheet" "needs" "LCoverSheet$Needs;", .methodLink RX8 71 yX8_isDay, .static yX8_isDay, .initialized RX8, .code yX8_isDay cX8_isDay 1 (some .boolean), .methodLink RX8 75 yX8_isKind, .static yX8_isKind, .code yX8_isKind cX8_isKind 1 (some .boolean), .methodLink RX8 85 yX3_of, .instanceMethod yX3_of, .selects RX3 yX3_of yX3_of, .initialized RX3, .code yX3_of cX3_of 4 (some .int), .fieldLink RX3 9 "CoverSheet$Needs" "numbers" "[I", .methodLink RX8 89 yX3_put, .instanceMethod yX3_put, .selects RX3 yX3_put yX3_put, .code yX3_put cX3_put 5 none] ++ wsX80 ++ wsX30 ++ (vx_atS RX8 82 "java/lang/IndexOutOfBoundsException" ["java/lang/RuntimeException", "java/lang/Exception"]).filter goodWord ++ (vx_atS RX8 54 "java/lang/IllegalArgumentException" ["java/lang/RuntimeException", "java/lang/Exception"]).filter goodWord)
def wsX8_forbid : List Cond := .code yX8_forbid cX8_forbid 4 (some .boolean) :: ([.classLink RX8 78 "java/lang/IndexOutOfBoundsException", .initialized "java/lang/IndexOutOfBoundsException", .fieldLink RX8 25 "CoverSheet" "rules" "LCoverSheet$Rules;", .methodLink RX8 75 yX8_isKind, .static yX8_isKind, .initialized RX8, .code yX8_isKind cX8_isKind 1 (some .boolean), .methodLink RX8 95 yX6_changeFollowing, .instanceMethod yX6_changeFollowing, .selects RX6 yX6_changeFollowing yX6_changeFollowing, .initialized RX6, .code yX6_changeFollowing cX6_changeFollowing 5 (some .boolean), .fieldLink RX6 15 "CoverSheet$Rules" "forbidden" "I", .methodLink RX6 9 yX6_pairOf, .static yX6_pairOf, .code yX6_pairOf cX6_pairOf 2 (some .int)] ++ wsX80 ++ wsX60 ++ (vx_atS RX8 82 "java/lang/IndexOutOfBoundsException" ["java/lang/RuntimeException", "java/lang/Exception"]).filter goodWord)
def wsX8_setRun : List Cond := .code yX8_setRun cX8_setRun 3 (some .int) :: ([.classLink RX8 50 "java/lang/IllegalArgumentException", .initialized "java/lang/IllegalArgumentException", .fieldLink RX8 25 "CoverSheet" "rules" "LCoverSheet$Rules;"] ++ wsX80 ++ wsX60 ++ (vx_atS RX8 54 "java/lang/IllegalArgumentException" ["java/lang/RuntimeException", "java/lang/Exception"]).filter goodWord)
def wsX8_personAt : List Cond := .code yX8_personAt cX8_personAt 2 (some (.object "CoverSheet$Person")) :: ([.fieldLink RX8 11 "CoverSheet" "team" "[LCoverSheet$Person;"] ++ wsX80)
def wsX8_wish : List Cond := .code yX8_wish cX8_wish 5 (some .boolean) :: ([.classLink RX8 78 "java/lang/IndexOutOfBoundsException", .initialized "java/lang/IndexOutOfBoundsException", .methodLink RX8 104 yX8_personAt, .instanceMethod yX8_personAt, .selects RX8 yX8_personAt yX8_personAt, .initialized RX8, .code yX8_personAt cX8_personAt 2 (some (.object "CoverSheet$Person")), .fieldLink RX8 11 "CoverSheet" "team" "[LCoverSheet$Person;", .methodLink RX8 71 yX8_isDay, .static yX8_isDay, .code yX8_isDay cX8_isDay 1 (some .boolean), .methodLink RX8 110 yX4_changeWish, .instanceMethod yX4_changeWish, .selects RX4 yX4_changeWish yX4_changeWish, .initialized RX4, .code yX4_changeWish cX4_changeWish 4 (some .boolean), .fieldLink RX4 18 "CoverSheet$Person" "wishes" "I"] ++ wsX80 ++ wsX40 ++ (vx_atS RX8 82 "java/lang/IndexOutOfBoundsException" ["java/lang/RuntimeException", "java/lang/Exception"]).filter goodWord)
def wsX8_isEntry : List Cond := .code yX8_isEntry cX8_isEntry 1 (some .boolean) :: ([])
def wsX8_fix_r1 : List Cond := [Cond.classLink RX8 78 "java/lang/IndexOutOfBoundsException", Cond.initialized "java/lang/IndexOutOfBoundsException", Cond.classLink RX8 50 "java/lang/IllegalArgumentException", Cond.initialized "java/lang/IllegalArgumentException", Cond.methodLink RX8 104 yX8_personAt, Cond.instanceMethod yX8_personAt, Cond.selects RX8 yX8_personAt yX8_personAt, Cond.initialized RX8, Cond.code yX8_personAt cX8_personAt 2 (some (.object "CoverSheet$Person")), Cond.fieldLink RX8 11 "CoverSheet" "team" "[LCoverSheet$Person;", Cond.methodLink RX8 71 yX8_isDay, Cond.static yX8_isDay, Cond.code yX8_isDay cX8_isDay 1 (some .boolean), Cond.methodLink RX8 114 yX8_isEntry, Cond.static yX8_isEntry, Cond.code yX8_isEntry cX8_isEntry 1 (some .boolean), Cond.methodLink RX8 119 yX4_fixedAt, Cond.instanceMethod yX4_fixedAt, Cond.selects RX4 yX4_fixedAt yX4_fixedAt, Cond.initialized RX4, Cond.code yX4_fixedAt cX4_fixedAt 2 (some .int), Cond.fieldLink RX4 34 "CoverSheet$Person" "fixed" "I", Cond.methodLink RX8 123 yX4_changeFixed, Cond.instanceMethod yX4_changeFixed]
def wsX8_fix_r2 : List Cond := [Cond.selects RX4 yX4_changeFixed yX4_changeFixed, Cond.code yX4_changeFixed cX4_changeFixed 4 none]
def wsX8_fix : List Cond := .code yX8_fix cX8_fix 6 (some .int) :: ((wsX8_fix_r1 ++ wsX8_fix_r2) ++ wsX80 ++ wsX40 ++ (vx_atS RX8 82 "java/lang/IndexOutOfBoundsException" ["java/lang/RuntimeException", "java/lang/Exception"]).filter goodWord ++ (vx_atS RX8 54 "java/lang/IllegalArgumentException" ["java/lang/RuntimeException", "java/lang/Exception"]).filter goodWord)
def wsX8_gapWithout : List Cond := .code yX8_gapWithout cX8_gapWithout 9 (some .int) :: ([.fieldLink RX8 18 "CoverSheet" "needs" "LCoverSheet$Needs;", .fieldLink RX8 11 "CoverSheet" "team" "[LCoverSheet$Person;", .methodLink RX8 196 Lib.Math.max.name, .static Lib.Math.max.name, .initialized "java/lang/Math", .code Lib.Math.max.name Lib.Math.max.code 2 (some .int), .methodLink RX8 85 yX3_of, .instanceMethod yX3_of, .selects RX3 yX3_of yX3_of, .initialized RX3, .code yX3_of cX3_of 4 (some .int), .fieldLink RX3 9 "CoverSheet$Needs" "numbers" "[I", .methodLink RX8 154 yX7_at, .static yX7_at, .initialized RX7, .code yX7_at cX7_at 2 (some .int), .methodLink RX7 9 yX7_placeOf, .static yX7_placeOf, .code yX7_placeOf cX7_placeOf 1 (some .int)] ++ wsX80 ++ wsX40 ++ wsX30)
def wsX8_chosenWeek_r1 : List Cond := [Cond.fieldLink RX8 46 "CoverSheet" "pricing" "LCoverSheet$Pricing;", Cond.fieldLink RX8 32 "CoverSheet" "table" "LCoverSheet$DayTable;", Cond.fieldLink RX8 25 "CoverSheet" "rules" "LCoverSheet$Rules;", Cond.methodLink RX8 174 yX8_gapWithout, Cond.instanceMethod yX8_gapWithout, Cond.selects RX8 yX8_gapWithout yX8_gapWithout, Cond.initialized RX8, Cond.code yX8_gapWithout cX8_gapWithout 9 (some .int), Cond.fieldLink RX8 18 "CoverSheet" "needs" "LCoverSheet$Needs;", Cond.fieldLink RX8 11 "CoverSheet" "team" "[LCoverSheet$Person;", Cond.methodLink RX8 196 Lib.Math.max.name, Cond.static Lib.Math.max.name, Cond.initialized "java/lang/Math", Cond.code Lib.Math.max.name Lib.Math.max.code 2 (some .int), Cond.methodLink RX8 85 yX3_of, Cond.instanceMethod yX3_of, Cond.selects RX3 yX3_of yX3_of, Cond.initialized RX3, Cond.code yX3_of cX3_of 4 (some .int), Cond.fieldLink RX3 9 "CoverSheet$Needs" "numbers" "[I", Cond.methodLink RX8 154 yX7_at, Cond.static yX7_at, Cond.initialized RX7, Cond.code yX7_at cX7_at 2 (some .int)]
def wsX8_chosenWeek_r2 : List Cond := [Cond.methodLink RX7 9 yX7_placeOf, Cond.static yX7_placeOf, Cond.code yX7_placeOf cX7_placeOf 1 (some .int), Cond.methodLink RX8 211 yX5_priceOf, Cond.static yX5_priceOf, Cond.initialized RX5, Cond.code yX5_priceOf cX5_priceOf 6 (some .long), Cond.constantLong RX5 23 (4503599627370496), Cond.constantLong RX5 25 (562949953421312), Cond.constantLong RX5 27 (131072), Cond.constantLong RX5 39 (16384), Cond.methodLink RX5 19 yX7_with, Cond.static yX7_with, Cond.code yX7_with cX7_with 4 (some .int), Cond.methodLink RX5 35 yX4_breaksWish, Cond.instanceMethod yX4_breaksWish, Cond.selects RX4 yX4_breaksWish yX4_breaksWish, Cond.initialized RX4, Cond.code yX4_breaksWish cX4_breaksWish 3 (some .boolean), Cond.fieldLink RX4 18 "CoverSheet$Person" "wishes" "I", Cond.methodLink RX8 215 yX5_put, Cond.instanceMethod yX5_put, Cond.selects RX5 yX5_put yX5_put, Cond.code yX5_put cX5_put 6 none]
def wsX8_chosenWeek_r3 : List Cond := [Cond.fieldLink RX5 15 "CoverSheet$Pricing" "prices" "[J", Cond.methodLink RX8 189 yX1_through, Cond.instanceMethod yX1_through, Cond.selects RX1 yX1_through yX1_through, Cond.initialized RX1, Cond.code yX1_through cX1_through 12 (some .long), Cond.fieldLink RX1 11 "CoverSheet$DayTable" "values" "[J", Cond.methodLink RX1 36 Lib.Math.min.name, Cond.static Lib.Math.min.name, Cond.code Lib.Math.min.name Lib.Math.min.code 2 (some .int), Cond.methodLink RX1 18 ⟨"CoverSheet$Measure", "none", "()J"⟩, Cond.sameMethod "CoverSheet$Measure" "CoverSheet$Measure" "none" "()J", Cond.selects RX0 ⟨"CoverSheet$Measure", "none", "()J"⟩ yX0_none, Cond.instanceMethod yX0_none, Cond.initialized RX0, Cond.code yX0_none cX0_none 1 (some .long), Cond.selects RX5 ⟨"CoverSheet$Measure", "none", "()J"⟩ yX5_none, Cond.instanceMethod yX5_none, Cond.code yX5_none cX5_none 1 (some .long), Cond.constantLong RX5 41 (9223372036854775807), Cond.methodLink RX1 24 yJ7_fill_d0a16, Cond.static yJ7_fill_d0a16, Cond.initialized RJ7, Cond.code yJ7_fill_d0a16 cJ7_fill_d0a16 5 none]
def wsX8_chosenWeek_r4 : List Cond := [Cond.methodLink RX1 45 yX1_placeOf, Cond.static yX1_placeOf, Cond.code yX1_placeOf cX1_placeOf 3 (some .int), Cond.methodLink RX1 49 ⟨"CoverSheet$Measure", "start", "()J"⟩, Cond.sameMethod "CoverSheet$Measure" "CoverSheet$Measure" "start" "()J", Cond.selects RX0 ⟨"CoverSheet$Measure", "start", "()J"⟩ yX0_start, Cond.instanceMethod yX0_start, Cond.code yX0_start cX0_start 1 (some .long), Cond.selects RX5 ⟨"CoverSheet$Measure", "start", "()J"⟩ yX5_start, Cond.instanceMethod yX5_start, Cond.code yX5_start cX5_start 1 (some .long), Cond.methodLink RX1 52 yX1_goOn, Cond.instanceMethod yX1_goOn, Cond.selects RX1 yX1_goOn yX1_goOn, Cond.code yX1_goOn cX1_goOn 16 none, Cond.fieldLink RX1 15 "CoverSheet$DayTable" "nextValues" "[J", Cond.methodLink RX1 63 yX4_mayHave, Cond.instanceMethod yX4_mayHave, Cond.selects RX4 yX4_mayHave yX4_mayHave, Cond.code yX4_mayHave cX4_mayHave 4 (some .boolean), Cond.fieldLink RX4 9 "CoverSheet$Person" "skills" "I", Cond.methodLink RX4 37 yX4_fixedAt, Cond.instanceMethod yX4_fixedAt, Cond.selects RX4 yX4_fixedAt yX4_fixedAt]
def wsX8_chosenWeek_r5 : List Cond := [Cond.code yX4_fixedAt cX4_fixedAt 2 (some .int), Cond.fieldLink RX4 34 "CoverSheet$Person" "fixed" "I", Cond.methodLink RX1 67 yX6_allow, Cond.instanceMethod yX6_allow, Cond.selects RX6 yX6_allow yX6_allow, Cond.initialized RX6, Cond.code yX6_allow cX6_allow 4 (some .boolean), Cond.fieldLink RX6 19 "CoverSheet$Rules" "longestRun" "I", Cond.fieldLink RX6 15 "CoverSheet$Rules" "forbidden" "I", Cond.methodLink RX6 9 yX6_pairOf, Cond.static yX6_pairOf, Cond.code yX6_pairOf cX6_pairOf 2 (some .int), Cond.methodLink RX1 73 ⟨"CoverSheet$Measure", "longer", "(JII)J"⟩, Cond.sameMethod "CoverSheet$Measure" "CoverSheet$Measure" "longer" "(JII)J", Cond.selects RX0 ⟨"CoverSheet$Measure", "longer", "(JII)J"⟩ yX0_longer, Cond.instanceMethod yX0_longer, Cond.code yX0_longer cX0_longer 5 (some .long), Cond.selects RX5 ⟨"CoverSheet$Measure", "longer", "(JII)J"⟩ yX5_longer, Cond.instanceMethod yX5_longer, Cond.code yX5_longer cX5_longer 6 (some .long), Cond.methodLink RX1 56 ⟨"CoverSheet$Measure", "joined", "(JJ)J"⟩, Cond.sameMethod "CoverSheet$Measure" "CoverSheet$Measure" "joined" "(JJ)J", Cond.selects RX0 ⟨"CoverSheet$Measure", "joined", "(JJ)J"⟩ yX0_joined, Cond.instanceMethod yX0_joined]
def wsX8_chosenWeek_r6 : List Cond := [Cond.code yX0_joined cX0_joined 5 (some .long), Cond.selects RX5 ⟨"CoverSheet$Measure", "joined", "(JJ)J"⟩ yX5_joined, Cond.instanceMethod yX5_joined, Cond.code yX5_joined cX5_joined 5 (some .long), Cond.methodLink RX5 45 Lib.MathLoose.min_long.x, Cond.static Lib.MathLoose.min_long.x, Cond.code Lib.MathLoose.min_long.x Lib.MathLoose.min_long.code 4 (some .long), Cond.methodLink RX8 218 yX5_weekOf, Cond.static yX5_weekOf, Cond.code yX5_weekOf cX5_weekOf 2 (some .int), Cond.constantLong RX5 43 (16383)]
def wsX8_chosenWeek : List Cond := .code yX8_chosenWeek cX8_chosenWeek 5 (some .int) :: ((wsX8_chosenWeek_r1 ++ (wsX8_chosenWeek_r2 ++ (wsX8_chosenWeek_r3 ++ (wsX8_chosenWeek_r4 ++ (wsX8_chosenWeek_r5 ++ wsX8_chosenWeek_r6))))) ++ wsX80 ++ wsX40 ++ wsX30 ++ wsX50 ++ wsX10 ++ wsX60)
def wsX8_planRound_r1 : List Cond := [Cond.fieldLink RX8 11 "CoverSheet" "team" "[LCoverSheet$Person;", Cond.methodLink RX8 207 yX8_chosenWeek, Cond.instanceMethod yX8_chosenWeek, Cond.selects RX8 yX8_chosenWeek yX8_chosenWeek, Cond.initialized RX8, Cond.code yX8_chosenWeek cX8_chosenWeek 5 (some .int), Cond.fieldLink RX8 46 "CoverSheet" "pricing" "LCoverSheet$Pricing;", Cond.fieldLink RX8 32 "CoverSheet" "table" "LCoverSheet$DayTable;", Cond.fieldLink RX8 25 "CoverSheet" "rules" "LCoverSheet$Rules;", Cond.methodLink RX8 174 yX8_gapWithout, Cond.instanceMethod yX8_gapWithout, Cond.selects RX8 yX8_gapWithout yX8_gapWithout, Cond.code yX8_gapWithout cX8_gapWithout 9 (some .int), Cond.fieldLink RX8 18 "CoverSheet" "needs" "LCoverSheet$Needs;", Cond.methodLink RX8 196 Lib.Math.max.name, Cond.static Lib.Math.max.name, Cond.initialized "java/lang/Math", Cond.code Lib.Math.max.name Lib.Math.max.code 2 (some .int), Cond.methodLink RX8 85 yX3_of, Cond.instanceMethod yX3_of, Cond.selects RX3 yX3_of yX3_of, Cond.initialized RX3, Cond.code yX3_of cX3_of 4 (some .int), Cond.fieldLink RX3 9 "CoverSheet$Needs" "numbers" "[I"]
def wsX8_planRound_r2 : List Cond := [Cond.methodLink RX8 154 yX7_at, Cond.static yX7_at, Cond.initialized RX7, Cond.code yX7_at cX7_at 2 (some .int), Cond.methodLink RX7 9 yX7_placeOf, Cond.static yX7_placeOf, Cond.code yX7_placeOf cX7_placeOf 1 (some .int), Cond.methodLink RX8 211 yX5_priceOf, Cond.static yX5_priceOf, Cond.initialized RX5, Cond.code yX5_priceOf cX5_priceOf 6 (some .long), Cond.constantLong RX5 23 (4503599627370496), Cond.constantLong RX5 25 (562949953421312), Cond.constantLong RX5 27 (131072), Cond.constantLong RX5 39 (16384), Cond.methodLink RX5 19 yX7_with, Cond.static yX7_with, Cond.code yX7_with cX7_with 4 (some .int), Cond.methodLink RX5 35 yX4_breaksWish, Cond.instanceMethod yX4_breaksWish, Cond.selects RX4 yX4_breaksWish yX4_breaksWish, Cond.initialized RX4, Cond.code yX4_breaksWish cX4_breaksWish 3 (some .boolean), Cond.fieldLink RX4 18 "CoverSheet$Person" "wishes" "I"]
def wsX8_planRound_r3 : List Cond := [Cond.methodLink RX8 215 yX5_put, Cond.instanceMethod yX5_put, Cond.selects RX5 yX5_put yX5_put, Cond.code yX5_put cX5_put 6 none, Cond.fieldLink RX5 15 "CoverSheet$Pricing" "prices" "[J", Cond.methodLink RX8 189 yX1_through, Cond.instanceMethod yX1_through, Cond.selects RX1 yX1_through yX1_through, Cond.initialized RX1, Cond.code yX1_through cX1_through 12 (some .long), Cond.fieldLink RX1 11 "CoverSheet$DayTable" "values" "[J", Cond.methodLink RX1 36 Lib.Math.min.name, Cond.static Lib.Math.min.name, Cond.code Lib.Math.min.name Lib.Math.min.code 2 (some .int), Cond.methodLink RX1 18 ⟨"CoverSheet$Measure", "none", "()J"⟩, Cond.sameMethod "CoverSheet$Measure" "CoverSheet$Measure" "none" "()J", Cond.selects RX0 ⟨"CoverSheet$Measure", "none", "()J"⟩ yX0_none, Cond.instanceMethod yX0_none, Cond.initialized RX0, Cond.code yX0_none cX0_none 1 (some .long), Cond.selects RX5 ⟨"CoverSheet$Measure", "none", "()J"⟩ yX5_none, Cond.instanceMethod yX5_none, Cond.code yX5_none cX5_none 1 (some .long), Cond.constantLong RX5 41 (9223372036854775807)]
def wsX8_planRound_r4 : List Cond := [Cond.methodLink RX1 24 yJ7_fill_d0a16, Cond.static yJ7_fill_d0a16, Cond.initialized RJ7, Cond.code yJ7_fill_d0a16 cJ7_fill_d0a16 5 none, Cond.methodLink RX1 45 yX1_placeOf, Cond.static yX1_placeOf, Cond.code yX1_placeOf cX1_placeOf 3 (some .int), Cond.methodLink RX1 49 ⟨"CoverSheet$Measure", "start", "()J"⟩, Cond.sameMethod "CoverSheet$Measure" "CoverSheet$Measure" "start" "()J", Cond.selects RX0 ⟨"CoverSheet$Measure", "start", "()J"⟩ yX0_start, Cond.instanceMethod yX0_start, Cond.code yX0_start cX0_start 1 (some .long), Cond.selects RX5 ⟨"CoverSheet$Measure", "start", "()J"⟩ yX5_start, Cond.instanceMethod yX5_start, Cond.code yX5_start cX5_start 1 (some .long), Cond.methodLink RX1 52 yX1_goOn, Cond.instanceMethod yX1_goOn, Cond.selects RX1 yX1_goOn yX1_goOn, Cond.code yX1_goOn cX1_goOn 16 none, Cond.fieldLink RX1 15 "CoverSheet$DayTable" "nextValues" "[J", Cond.methodLink RX1 63 yX4_mayHave, Cond.instanceMethod yX4_mayHave, Cond.selects RX4 yX4_mayHave yX4_mayHave, Cond.code yX4_mayHave cX4_mayHave 4 (some .boolean)]
def wsX8_planRound_r5 : List Cond := [Cond.fieldLink RX4 9 "CoverSheet$Person" "skills" "I", Cond.methodLink RX4 37 yX4_fixedAt, Cond.instanceMethod yX4_fixedAt, Cond.selects RX4 yX4_fixedAt yX4_fixedAt, Cond.code yX4_fixedAt cX4_fixedAt 2 (some .int), Cond.fieldLink RX4 34 "CoverSheet$Person" "fixed" "I", Cond.methodLink RX1 67 yX6_allow, Cond.instanceMethod yX6_allow, Cond.selects RX6 yX6_allow yX6_allow, Cond.initialized RX6, Cond.code yX6_allow cX6_allow 4 (some .boolean), Cond.fieldLink RX6 19 "CoverSheet$Rules" "longestRun" "I", Cond.fieldLink RX6 15 "CoverSheet$Rules" "forbidden" "I", Cond.methodLink RX6 9 yX6_pairOf, Cond.static yX6_pairOf, Cond.code yX6_pairOf cX6_pairOf 2 (some .int), Cond.methodLink RX1 73 ⟨"CoverSheet$Measure", "longer", "(JII)J"⟩, Cond.sameMethod "CoverSheet$Measure" "CoverSheet$Measure" "longer" "(JII)J", Cond.selects RX0 ⟨"CoverSheet$Measure", "longer", "(JII)J"⟩ yX0_longer, Cond.instanceMethod yX0_longer, Cond.code yX0_longer cX0_longer 5 (some .long), Cond.selects RX5 ⟨"CoverSheet$Measure", "longer", "(JII)J"⟩ yX5_longer, Cond.instanceMethod yX5_longer, Cond.code yX5_longer cX5_longer 6 (some .long)]
def wsX8_planRound_r6 : List Cond := [Cond.methodLink RX1 56 ⟨"CoverSheet$Measure", "joined", "(JJ)J"⟩, Cond.sameMethod "CoverSheet$Measure" "CoverSheet$Measure" "joined" "(JJ)J", Cond.selects RX0 ⟨"CoverSheet$Measure", "joined", "(JJ)J"⟩ yX0_joined, Cond.instanceMethod yX0_joined, Cond.code yX0_joined cX0_joined 5 (some .long), Cond.selects RX5 ⟨"CoverSheet$Measure", "joined", "(JJ)J"⟩ yX5_joined, Cond.instanceMethod yX5_joined, Cond.code yX5_joined cX5_joined 5 (some .long), Cond.methodLink RX5 45 Lib.MathLoose.min_long.x, Cond.static Lib.MathLoose.min_long.x, Cond.code Lib.MathLoose.min_long.x Lib.MathLoose.min_long.code 4 (some .long), Cond.methodLink RX8 218 yX5_weekOf, Cond.static yX5_weekOf, Cond.code yX5_weekOf cX5_weekOf 2 (some .int), Cond.constantLong RX5 43 (16383)]
def wsX8_planRound : List Cond := .code yX8_planRound cX8_planRound 7 (some .boolean) :: ((wsX8_planRound_r1 ++ (wsX8_planRound_r2 ++ (wsX8_planRound_r3 ++ (wsX8_planRound_r4 ++ (wsX8_planRound_r5 ++ wsX8_planRound_r6))))) ++ wsX80 ++ wsX40 ++ wsX30 ++ wsX50 ++ wsX10 ++ wsX60)
def wsX8_allGaps : List Cond := .code yX8_allGaps cX8_allGaps 4 (some .int) :: ([.methodLink RX8 174 yX8_gapWithout, .instanceMethod yX8_gapWithout, .selects RX8 yX8_gapWithout yX8_gapWithout, .initialized RX8, .code yX8_gapWithout cX8_gapWithout 9 (some .int), .fieldLink RX8 18 "CoverSheet" "needs" "LCoverSheet$Needs;", .fieldLink RX8 11 "CoverSheet" "team" "[LCoverSheet$Person;", .methodLink RX8 196 Lib.Math.max.name, .static Lib.Math.max.name, .initialized "java/lang/Math", .code Lib.Math.max.name Lib.Math.max.code 2 (some .int), .methodLink RX8 85 yX3_of, .instanceMethod yX3_of, .selects RX3 yX3_of yX3_of, .initialized RX3, .code yX3_of cX3_of 4 (some .int), .fieldLink RX3 9 "CoverSheet$Needs" "numbers" "[I", .methodLink RX8 154 yX7_at, .static yX7_at, .initialized RX7, .code yX7_at cX7_at 2 (some .int), .methodLink RX7 9 yX7_placeOf, .static yX7_placeOf, .code yX7_placeOf cX7_placeOf 1 (some .int)] ++ wsX80 ++ wsX40 ++ wsX30)
def wsX8_plan_r1 : List Cond := [Cond.fieldLink RX8 11 "CoverSheet" "team" "[LCoverSheet$Person;", Cond.fieldLink RX8 135 "CoverSheet" "lastRounds" "I", Cond.methodLink RX8 131 yX8_planRound, Cond.instanceMethod yX8_planRound, Cond.selects RX8 yX8_planRound yX8_planRound, Cond.initialized RX8, Cond.code yX8_planRound cX8_planRound 7 (some .boolean), Cond.methodLink RX8 207 yX8_chosenWeek, Cond.instanceMethod yX8_chosenWeek, Cond.selects RX8 yX8_chosenWeek yX8_chosenWeek, Cond.code yX8_chosenWeek cX8_chosenWeek 5 (some .int), Cond.fieldLink RX8 46 "CoverSheet" "pricing" "LCoverSheet$Pricing;", Cond.fieldLink RX8 32 "CoverSheet" "table" "LCoverSheet$DayTable;", Cond.fieldLink RX8 25 "CoverSheet" "rules" "LCoverSheet$Rules;", Cond.methodLink RX8 174 yX8_gapWithout, Cond.instanceMethod yX8_gapWithout, Cond.selects RX8 yX8_gapWithout yX8_gapWithout, Cond.code yX8_gapWithout cX8_gapWithout 9 (some .int), Cond.fieldLink RX8 18 "CoverSheet" "needs" "LCoverSheet$Needs;", Cond.methodLink RX8 196 Lib.Math.max.name, Cond.static Lib.Math.max.name, Cond.initialized "java/lang/Math", Cond.code Lib.Math.max.name Lib.Math.max.code 2 (some .int), Cond.methodLink RX8 85 yX3_of]
def wsX8_plan_r2 : List Cond := [Cond.instanceMethod yX3_of, Cond.selects RX3 yX3_of yX3_of, Cond.initialized RX3, Cond.code yX3_of cX3_of 4 (some .int), Cond.fieldLink RX3 9 "CoverSheet$Needs" "numbers" "[I", Cond.methodLink RX8 154 yX7_at, Cond.static yX7_at, Cond.initialized RX7, Cond.code yX7_at cX7_at 2 (some .int), Cond.methodLink RX7 9 yX7_placeOf, Cond.static yX7_placeOf, Cond.code yX7_placeOf cX7_placeOf 1 (some .int), Cond.methodLink RX8 211 yX5_priceOf, Cond.static yX5_priceOf, Cond.initialized RX5, Cond.code yX5_priceOf cX5_priceOf 6 (some .long), Cond.constantLong RX5 23 (4503599627370496), Cond.constantLong RX5 25 (562949953421312), Cond.constantLong RX5 27 (131072), Cond.constantLong RX5 39 (16384), Cond.methodLink RX5 19 yX7_with, Cond.static yX7_with, Cond.code yX7_with cX7_with 4 (some .int), Cond.methodLink RX5 35 yX4_breaksWish]
def wsX8_plan_r3 : List Cond := [Cond.instanceMethod yX4_breaksWish, Cond.selects RX4 yX4_breaksWish yX4_breaksWish, Cond.initialized RX4, Cond.code yX4_breaksWish cX4_breaksWish 3 (some .boolean), Cond.fieldLink RX4 18 "CoverSheet$Person" "wishes" "I", Cond.methodLink RX8 215 yX5_put, Cond.instanceMethod yX5_put, Cond.selects RX5 yX5_put yX5_put, Cond.code yX5_put cX5_put 6 none, Cond.fieldLink RX5 15 "CoverSheet$Pricing" "prices" "[J", Cond.methodLink RX8 189 yX1_through, Cond.instanceMethod yX1_through, Cond.selects RX1 yX1_through yX1_through, Cond.initialized RX1, Cond.code yX1_through cX1_through 12 (some .long), Cond.fieldLink RX1 11 "CoverSheet$DayTable" "values" "[J", Cond.methodLink RX1 36 Lib.Math.min.name, Cond.static Lib.Math.min.name, Cond.code Lib.Math.min.name Lib.Math.min.code 2 (some .int), Cond.methodLink RX1 18 ⟨"CoverSheet$Measure", "none", "()J"⟩, Cond.sameMethod "CoverSheet$Measure" "CoverSheet$Measure" "none" "()J", Cond.selects RX0 ⟨"CoverSheet$Measure", "none", "()J"⟩ yX0_none, Cond.instanceMethod yX0_none, Cond.initialized RX0]
def wsX8_plan_r4 : List Cond := [Cond.code yX0_none cX0_none 1 (some .long), Cond.selects RX5 ⟨"CoverSheet$Measure", "none", "()J"⟩ yX5_none, Cond.instanceMethod yX5_none, Cond.code yX5_none cX5_none 1 (some .long), Cond.constantLong RX5 41 (9223372036854775807), Cond.methodLink RX1 24 yJ7_fill_d0a16, Cond.static yJ7_fill_d0a16, Cond.initialized RJ7, Cond.code yJ7_fill_d0a16 cJ7_fill_d0a16 5 none, Cond.methodLink RX1 45 yX1_placeOf, Cond.static yX1_placeOf, Cond.code yX1_placeOf cX1_placeOf 3 (some .int), Cond.methodLink RX1 49 ⟨"CoverSheet$Measure", "start", "()J"⟩, Cond.sameMethod "CoverSheet$Measure" "CoverSheet$Measure" "start" "()J", Cond.selects RX0 ⟨"CoverSheet$Measure", "start", "()J"⟩ yX0_start, Cond.instanceMethod yX0_start, Cond.code yX0_start cX0_start 1 (some .long), Cond.selects RX5 ⟨"CoverSheet$Measure", "start", "()J"⟩ yX5_start, Cond.instanceMethod yX5_start, Cond.code yX5_start cX5_start 1 (some .long), Cond.methodLink RX1 52 yX1_goOn, Cond.instanceMethod yX1_goOn, Cond.selects RX1 yX1_goOn yX1_goOn, Cond.code yX1_goOn cX1_goOn 16 none]
def wsX8_plan_r5 : List Cond := [Cond.fieldLink RX1 15 "CoverSheet$DayTable" "nextValues" "[J", Cond.methodLink RX1 63 yX4_mayHave, Cond.instanceMethod yX4_mayHave, Cond.selects RX4 yX4_mayHave yX4_mayHave, Cond.code yX4_mayHave cX4_mayHave 4 (some .boolean), Cond.fieldLink RX4 9 "CoverSheet$Person" "skills" "I", Cond.methodLink RX4 37 yX4_fixedAt, Cond.instanceMethod yX4_fixedAt, Cond.selects RX4 yX4_fixedAt yX4_fixedAt, Cond.code yX4_fixedAt cX4_fixedAt 2 (some .int), Cond.fieldLink RX4 34 "CoverSheet$Person" "fixed" "I", Cond.methodLink RX1 67 yX6_allow, Cond.instanceMethod yX6_allow, Cond.selects RX6 yX6_allow yX6_allow, Cond.initialized RX6, Cond.code yX6_allow cX6_allow 4 (some .boolean), Cond.fieldLink RX6 19 "CoverSheet$Rules" "longestRun" "I", Cond.fieldLink RX6 15 "CoverSheet$Rules" "forbidden" "I", Cond.methodLink RX6 9 yX6_pairOf, Cond.static yX6_pairOf, Cond.code yX6_pairOf cX6_pairOf 2 (some .int), Cond.methodLink RX1 73 ⟨"CoverSheet$Measure", "longer", "(JII)J"⟩, Cond.sameMethod "CoverSheet$Measure" "CoverSheet$Measure" "longer" "(JII)J", Cond.selects RX0 ⟨"CoverSheet$Measure", "longer", "(JII)J"⟩ yX0_longer]
def wsX8_plan_r6 : List Cond := [Cond.instanceMethod yX0_longer, Cond.code yX0_longer cX0_longer 5 (some .long), Cond.selects RX5 ⟨"CoverSheet$Measure", "longer", "(JII)J"⟩ yX5_longer, Cond.instanceMethod yX5_longer, Cond.code yX5_longer cX5_longer 6 (some .long), Cond.methodLink RX1 56 ⟨"CoverSheet$Measure", "joined", "(JJ)J"⟩, Cond.sameMethod "CoverSheet$Measure" "CoverSheet$Measure" "joined" "(JJ)J", Cond.selects RX0 ⟨"CoverSheet$Measure", "joined", "(JJ)J"⟩ yX0_joined, Cond.instanceMethod yX0_joined, Cond.code yX0_joined cX0_joined 5 (some .long), Cond.selects RX5 ⟨"CoverSheet$Measure", "joined", "(JJ)J"⟩ yX5_joined, Cond.instanceMethod yX5_joined, Cond.code yX5_joined cX5_joined 5 (some .long), Cond.methodLink RX5 45 Lib.MathLoose.min_long.x, Cond.static Lib.MathLoose.min_long.x, Cond.code Lib.MathLoose.min_long.x Lib.MathLoose.min_long.code 4 (some .long), Cond.methodLink RX8 218 yX5_weekOf, Cond.static yX5_weekOf, Cond.code yX5_weekOf cX5_weekOf 2 (some .int), Cond.constantLong RX5 43 (16383), Cond.methodLink RX8 138 yX8_allGaps, Cond.instanceMethod yX8_allGaps, Cond.selects RX8 yX8_allGaps yX8_allGaps, Cond.code yX8_allGaps cX8_allGaps 4 (some .int)]
def wsX8_plan : List Cond := .code yX8_plan cX8_plan 5 (some .int) :: ((wsX8_plan_r1 ++ (wsX8_plan_r2 ++ (wsX8_plan_r3 ++ (wsX8_plan_r4 ++ (wsX8_plan_r5 ++ wsX8_plan_r6))))) ++ wsX80 ++ wsX40 ++ wsX30 ++ wsX50 ++ wsX10 ++ wsX60)
def wsX8_rounds : List Cond := .code yX8_rounds cX8_rounds 1 (some .int) :: ([.fieldLink RX8 135 "CoverSheet" "lastRounds" "I"] ++ wsX80)
def wsX8_set_r1 : List Cond := [Cond.classLink RX8 78 "java/lang/IndexOutOfBoundsException", Cond.initialized "java/lang/IndexOutOfBoundsException", Cond.classLink RX8 50 "java/lang/IllegalArgumentException", Cond.initialized "java/lang/IllegalArgumentException", Cond.classLink RX8 63 "java/lang/IllegalStateException", Cond.initialized "java/lang/IllegalStateException", Cond.fieldLink RX8 25 "CoverSheet" "rules" "LCoverSheet$Rules;", Cond.methodLink RX8 104 yX8_personAt, Cond.instanceMethod yX8_personAt, Cond.selects RX8 yX8_personAt yX8_personAt, Cond.initialized RX8, Cond.code yX8_personAt cX8_personAt 2 (some (.object "CoverSheet$Person")), Cond.fieldLink RX8 11 "CoverSheet" "team" "[LCoverSheet$Person;", Cond.methodLink RX8 71 yX8_isDay, Cond.static yX8_isDay, Cond.code yX8_isDay cX8_isDay 1 (some .boolean), Cond.methodLink RX8 114 yX8_isEntry, Cond.static yX8_isEntry, Cond.code yX8_isEntry cX8_isEntry 1 (some .boolean), Cond.methodLink RX8 144 yX7_with, Cond.static yX7_with, Cond.initialized RX7, Cond.code yX7_with cX7_with 4 (some .int), Cond.methodLink RX7 9 yX7_placeOf]
def wsX8_set_r2 : List Cond := [Cond.static yX7_placeOf, Cond.code yX7_placeOf cX7_placeOf 1 (some .int), Cond.methodLink RX8 148 yX4_canHave, Cond.instanceMethod yX4_canHave, Cond.selects RX4 yX4_canHave yX4_canHave, Cond.initialized RX4, Cond.code yX4_canHave cX4_canHave 7 (some .boolean), Cond.fieldLink RX4 41 "CoverSheet$Person" "lastEntry" "I", Cond.fieldLink RX4 44 "CoverSheet$Person" "daysInARow" "I", Cond.fieldLink RX4 15 "CoverSheet$Person" "most" "I", Cond.methodLink RX4 24 yX7_at, Cond.static yX7_at, Cond.code yX7_at cX7_at 2 (some .int), Cond.methodLink RX4 47 yX4_mayHave, Cond.instanceMethod yX4_mayHave, Cond.selects RX4 yX4_mayHave yX4_mayHave, Cond.code yX4_mayHave cX4_mayHave 4 (some .boolean), Cond.fieldLink RX4 9 "CoverSheet$Person" "skills" "I", Cond.methodLink RX4 37 yX4_fixedAt, Cond.instanceMethod yX4_fixedAt, Cond.selects RX4 yX4_fixedAt yX4_fixedAt, Cond.code yX4_fixedAt cX4_fixedAt 2 (some .int), Cond.fieldLink RX4 34 "CoverSheet$Person" "fixed" "I", Cond.methodLink RX4 50 yX6_allow]
def wsX8_set_r3 : List Cond := [Cond.instanceMethod yX6_allow, Cond.selects RX6 yX6_allow yX6_allow, Cond.initialized RX6, Cond.code yX6_allow cX6_allow 4 (some .boolean), Cond.fieldLink RX6 19 "CoverSheet$Rules" "longestRun" "I", Cond.fieldLink RX6 15 "CoverSheet$Rules" "forbidden" "I", Cond.methodLink RX6 9 yX6_pairOf, Cond.static yX6_pairOf, Cond.code yX6_pairOf cX6_pairOf 2 (some .int), Cond.methodLink RX4 56 yX7_shiftsFrom, Cond.static yX7_shiftsFrom, Cond.code yX7_shiftsFrom cX7_shiftsFrom 4 (some .int), Cond.methodLink RX7 15 yX7_at, Cond.methodLink RX8 154 yX7_at]
def wsX8_set : List Cond := .code yX8_set cX8_set 7 (some .int) :: ((wsX8_set_r1 ++ (wsX8_set_r2 ++ wsX8_set_r3)) ++ wsX40 ++ wsX80 ++ wsX60 ++ (vx_atS RX8 82 "java/lang/IndexOutOfBoundsException" ["java/lang/RuntimeException", "java/lang/Exception"]).filter goodWord ++ (vx_atS RX8 54 "java/lang/IllegalArgumentException" ["java/lang/RuntimeException", "java/lang/Exception"]).filter goodWord ++ (vx_atS RX8 67 "java/lang/IllegalStateException" ["java/lang/RuntimeException", "java/lang/Exception"]).filter goodWord)
def wsX8_couldSwap_r1 : List Cond := [Cond.fieldLink RX8 25 "CoverSheet" "rules" "LCoverSheet$Rules;", Cond.methodLink RX8 154 yX7_at, Cond.static yX7_at, Cond.initialized RX7, Cond.code yX7_at cX7_at 2 (some .int), Cond.methodLink RX7 9 yX7_placeOf, Cond.static yX7_placeOf, Cond.code yX7_placeOf cX7_placeOf 1 (some .int), Cond.methodLink RX8 144 yX7_with, Cond.static yX7_with, Cond.code yX7_with cX7_with 4 (some .int), Cond.methodLink RX8 148 yX4_canHave, Cond.instanceMethod yX4_canHave, Cond.selects RX4 yX4_canHave yX4_canHave, Cond.initialized RX4, Cond.code yX4_canHave cX4_canHave 7 (some .boolean), Cond.fieldLink RX4 41 "CoverSheet$Person" "lastEntry" "I", Cond.fieldLink RX4 44 "CoverSheet$Person" "daysInARow" "I", Cond.fieldLink RX4 15 "CoverSheet$Person" "most" "I", Cond.methodLink RX4 24 yX7_at, Cond.methodLink RX4 47 yX4_mayHave, Cond.instanceMethod yX4_mayHave, Cond.selects RX4 yX4_mayHave yX4_mayHave, Cond.code yX4_mayHave cX4_mayHave 4 (some .boolean)]
def wsX8_couldSwap_r2 : List Cond := [Cond.fieldLink RX4 9 "CoverSheet$Person" "skills" "I", Cond.methodLink RX4 37 yX4_fixedAt, Cond.instanceMethod yX4_fixedAt, Cond.selects RX4 yX4_fixedAt yX4_fixedAt, Cond.code yX4_fixedAt cX4_fixedAt 2 (some .int), Cond.fieldLink RX4 34 "CoverSheet$Person" "fixed" "I", Cond.methodLink RX4 50 yX6_allow, Cond.instanceMethod yX6_allow, Cond.selects RX6 yX6_allow yX6_allow, Cond.initialized RX6, Cond.code yX6_allow cX6_allow 4 (some .boolean), Cond.fieldLink RX6 19 "CoverSheet$Rules" "longestRun" "I", Cond.fieldLink RX6 15 "CoverSheet$Rules" "forbidden" "I", Cond.methodLink RX6 9 yX6_pairOf, Cond.static yX6_pairOf, Cond.code yX6_pairOf cX6_pairOf 2 (some .int), Cond.methodLink RX4 56 yX7_shiftsFrom, Cond.static yX7_shiftsFrom, Cond.code yX7_shiftsFrom cX7_shiftsFrom 4 (some .int), Cond.methodLink RX7 15 yX7_at]
def wsX8_couldSwap : List Cond := .code yX8_couldSwap cX8_couldSwap 6 (some .boolean) :: ((wsX8_couldSwap_r1 ++ wsX8_couldSwap_r2) ++ wsX40 ++ wsX80 ++ wsX60)
def wsX8_swap_r1 : List Cond := [Cond.classLink RX8 78 "java/lang/IndexOutOfBoundsException", Cond.initialized "java/lang/IndexOutOfBoundsException", Cond.classLink RX8 63 "java/lang/IllegalStateException", Cond.initialized "java/lang/IllegalStateException", Cond.methodLink RX8 104 yX8_personAt, Cond.instanceMethod yX8_personAt, Cond.selects RX8 yX8_personAt yX8_personAt, Cond.initialized RX8, Cond.code yX8_personAt cX8_personAt 2 (some (.object "CoverSheet$Person")), Cond.fieldLink RX8 11 "CoverSheet" "team" "[LCoverSheet$Person;", Cond.methodLink RX8 71 yX8_isDay, Cond.static yX8_isDay, Cond.code yX8_isDay cX8_isDay 1 (some .boolean), Cond.methodLink RX8 159 yX8_couldSwap, Cond.instanceMethod yX8_couldSwap, Cond.selects RX8 yX8_couldSwap yX8_couldSwap, Cond.code yX8_couldSwap cX8_couldSwap 6 (some .boolean), Cond.fieldLink RX8 25 "CoverSheet" "rules" "LCoverSheet$Rules;", Cond.methodLink RX8 154 yX7_at, Cond.static yX7_at, Cond.initialized RX7, Cond.code yX7_at cX7_at 2 (some .int), Cond.methodLink RX7 9 yX7_placeOf, Cond.static yX7_placeOf]
def wsX8_swap_r2 : List Cond := [Cond.code yX7_placeOf cX7_placeOf 1 (some .int), Cond.methodLink RX8 144 yX7_with, Cond.static yX7_with, Cond.code yX7_with cX7_with 4 (some .int), Cond.methodLink RX8 148 yX4_canHave, Cond.instanceMethod yX4_canHave, Cond.selects RX4 yX4_canHave yX4_canHave, Cond.initialized RX4, Cond.code yX4_canHave cX4_canHave 7 (some .boolean), Cond.fieldLink RX4 41 "CoverSheet$Person" "lastEntry" "I", Cond.fieldLink RX4 44 "CoverSheet$Person" "daysInARow" "I", Cond.fieldLink RX4 15 "CoverSheet$Person" "most" "I", Cond.methodLink RX4 24 yX7_at, Cond.methodLink RX4 47 yX4_mayHave, Cond.instanceMethod yX4_mayHave, Cond.selects RX4 yX4_mayHave yX4_mayHave, Cond.code yX4_mayHave cX4_mayHave 4 (some .boolean), Cond.fieldLink RX4 9 "CoverSheet$Person" "skills" "I", Cond.methodLink RX4 37 yX4_fixedAt, Cond.instanceMethod yX4_fixedAt, Cond.selects RX4 yX4_fixedAt yX4_fixedAt, Cond.code yX4_fixedAt cX4_fixedAt 2 (some .int), Cond.fieldLink RX4 34 "CoverSheet$Person" "fixed" "I", Cond.methodLink RX4 50 yX6_allow]
def wsX8_swap_r3 : List Cond := [Cond.instanceMethod yX6_allow, Cond.selects RX6 yX6_allow yX6_allow, Cond.initialized RX6, Cond.code yX6_allow cX6_allow 4 (some .boolean), Cond.fieldLink RX6 19 "CoverSheet$Rules" "longestRun" "I", Cond.fieldLink RX6 15 "CoverSheet$Rules" "forbidden" "I", Cond.methodLink RX6 9 yX6_pairOf, Cond.static yX6_pairOf, Cond.code yX6_pairOf cX6_pairOf 2 (some .int), Cond.methodLink RX4 56 yX7_shiftsFrom, Cond.static yX7_shiftsFrom, Cond.code yX7_shiftsFrom cX7_shiftsFrom 4 (some .int), Cond.methodLink RX7 15 yX7_at, Cond.methodLink RX8 165 yX4_brokenWishes, Cond.instanceMethod yX4_brokenWishes, Cond.selects RX4 yX4_brokenWishes yX4_brokenWishes, Cond.code yX4_brokenWishes cX4_brokenWishes 3 (some .int), Cond.fieldLink RX4 21 "CoverSheet$Person" "week" "I", Cond.methodLink RX4 30 yX4_breaksWish, Cond.instanceMethod yX4_breaksWish, Cond.selects RX4 yX4_breaksWish yX4_breaksWish, Cond.code yX4_breaksWish cX4_breaksWish 3 (some .boolean), Cond.fieldLink RX4 18 "CoverSheet$Person" "wishes" "I"]
def wsX8_swap : List Cond := .code yX8_swap cX8_swap 7 (some .int) :: ((wsX8_swap_r1 ++ (wsX8_swap_r2 ++ wsX8_swap_r3)) ++ wsX40 ++ wsX80 ++ wsX60 ++ (vx_atS RX8 82 "java/lang/IndexOutOfBoundsException" ["java/lang/RuntimeException", "java/lang/Exception"]).filter goodWord ++ (vx_atS RX8 67 "java/lang/IllegalStateException" ["java/lang/RuntimeException", "java/lang/Exception"]).filter goodWord)
def wsX8_closeWeek : List Cond := .code yX8_closeWeek cX8_closeWeek 5 (some .int) :: ([.fieldLink RX8 11 "CoverSheet" "team" "[LCoverSheet$Person;", .fieldLink RX8 171 "CoverSheet" "closedWeeks" "I", .methodLink RX8 168 yX4_noteWeek, .instanceMethod yX4_noteWeek, .selects RX4 yX4_noteWeek yX4_noteWeek, .initialized RX4, .code yX4_noteWeek cX4_noteWeek 2 none, .fieldLink RX4 21 "CoverSheet$Person" "week" "I", .fieldLink RX4 44 "CoverSheet$Person" "daysInARow" "I", .fieldLink RX4 41 "CoverSheet$Person" "lastEntry" "I", .fieldLink RX4 59 "CoverSheet$Person" "weekendShifts" "I", .fieldLink RX4 18 "CoverSheet$Person" "wishes" "I", .fieldLink RX4 34 "CoverSheet$Person" "fixed" "I", .methodLink RX4 24 yX7_at, .static yX7_at, .initialized RX7, .code yX7_at cX7_at 2 (some .int), .methodLink RX7 9 yX7_placeOf, .static yX7_placeOf, .code yX7_placeOf cX7_placeOf 1 (some .int), .methodLink RX4 56 yX7_shiftsFrom, .static yX7_shiftsFrom, .code yX7_shiftsFrom cX7_shiftsFrom 4 (some .int), .methodLink RX7 15 yX7_at] ++ wsX80 ++ wsX40)
def wsX8_people : List Cond := .code yX8_people cX8_people 1 (some .int) :: ([.fieldLink RX8 59 "CoverSheet" "teamSize" "I"] ++ wsX80)
def wsX8_entry : List Cond := .code yX8_entry cX8_entry 4 (some .int) :: ([.classLink RX8 78 "java/lang/IndexOutOfBoundsException", .initialized "java/lang/IndexOutOfBoundsException", .methodLink RX8 104 yX8_personAt, .instanceMethod yX8_personAt, .selects RX8 yX8_personAt yX8_personAt, .initialized RX8, .code yX8_personAt cX8_personAt 2 (some (.object "CoverSheet$Person")), .fieldLink RX8 11 "CoverSheet" "team" "[LCoverSheet$Person;", .methodLink RX8 71 yX8_isDay, .static yX8_isDay, .code yX8_isDay cX8_isDay 1 (some .boolean), .methodLink RX8 154 yX7_at, .static yX7_at, .initialized RX7, .code yX7_at cX7_at 2 (some .int), .methodLink RX7 9 yX7_placeOf, .static yX7_placeOf, .code yX7_placeOf cX7_placeOf 1 (some .int)] ++ wsX40 ++ wsX80 ++ (vx_atS RX8 82 "java/lang/IndexOutOfBoundsException" ["java/lang/RuntimeException", "java/lang/Exception"]).filter goodWord)
def wsX8_gaps_r1 : List Cond := [Cond.methodLink RX8 138 yX8_allGaps, Cond.instanceMethod yX8_allGaps, Cond.selects RX8 yX8_allGaps yX8_allGaps, Cond.initialized RX8, Cond.code yX8_allGaps cX8_allGaps 4 (some .int), Cond.methodLink RX8 174 yX8_gapWithout, Cond.instanceMethod yX8_gapWithout, Cond.selects RX8 yX8_gapWithout yX8_gapWithout, Cond.code yX8_gapWithout cX8_gapWithout 9 (some .int), Cond.fieldLink RX8 18 "CoverSheet" "needs" "LCoverSheet$Needs;", Cond.fieldLink RX8 11 "CoverSheet" "team" "[LCoverSheet$Person;", Cond.methodLink RX8 196 Lib.Math.max.name, Cond.static Lib.Math.max.name, Cond.initialized "java/lang/Math", Cond.code Lib.Math.max.name Lib.Math.max.code 2 (some .int), Cond.methodLink RX8 85 yX3_of, Cond.instanceMethod yX3_of, Cond.selects RX3 yX3_of yX3_of, Cond.initialized RX3, Cond.code yX3_of cX3_of 4 (some .int), Cond.fieldLink RX3 9 "CoverSheet$Needs" "numbers" "[I", Cond.methodLink RX8 154 yX7_at, Cond.static yX7_at, Cond.initialized RX7]
def wsX8_gaps_r2 : List Cond := [Cond.code yX7_at cX7_at 2 (some .int), Cond.methodLink RX7 9 yX7_placeOf, Cond.static yX7_placeOf, Cond.code yX7_placeOf cX7_placeOf 1 (some .int)]
def wsX8_gaps : List Cond := .code yX8_gaps cX8_gaps 1 (some .int) :: ((wsX8_gaps_r1 ++ wsX8_gaps_r2) ++ wsX80 ++ wsX40 ++ wsX30)
def wsX8_gap_r1 : List Cond := [Cond.classLink RX8 78 "java/lang/IndexOutOfBoundsException", Cond.initialized "java/lang/IndexOutOfBoundsException", Cond.methodLink RX8 71 yX8_isDay, Cond.static yX8_isDay, Cond.initialized RX8, Cond.code yX8_isDay cX8_isDay 1 (some .boolean), Cond.methodLink RX8 75 yX8_isKind, Cond.static yX8_isKind, Cond.code yX8_isKind cX8_isKind 1 (some .boolean), Cond.methodLink RX8 174 yX8_gapWithout, Cond.instanceMethod yX8_gapWithout, Cond.selects RX8 yX8_gapWithout yX8_gapWithout, Cond.code yX8_gapWithout cX8_gapWithout 9 (some .int), Cond.fieldLink RX8 18 "CoverSheet" "needs" "LCoverSheet$Needs;", Cond.fieldLink RX8 11 "CoverSheet" "team" "[LCoverSheet$Person;", Cond.methodLink RX8 196 Lib.Math.max.name, Cond.static Lib.Math.max.name, Cond.initialized "java/lang/Math", Cond.code Lib.Math.max.name Lib.Math.max.code 2 (some .int), Cond.methodLink RX8 85 yX3_of, Cond.instanceMethod yX3_of, Cond.selects RX3 yX3_of yX3_of, Cond.initialized RX3, Cond.code yX3_of cX3_of 4 (some .int)]
def wsX8_gap_r2 : List Cond := [Cond.fieldLink RX3 9 "CoverSheet$Needs" "numbers" "[I", Cond.methodLink RX8 154 yX7_at, Cond.static yX7_at, Cond.initialized RX7, Cond.code yX7_at cX7_at 2 (some .int), Cond.methodLink RX7 9 yX7_placeOf, Cond.static yX7_placeOf, Cond.code yX7_placeOf cX7_placeOf 1 (some .int)]
def wsX8_gap : List Cond := .code yX8_gap cX8_gap 3 (some .int) :: ((wsX8_gap_r1 ++ wsX8_gap_r2) ++ wsX80 ++ wsX40 ++ wsX30 ++ (vx_atS RX8 82 "java/lang/IndexOutOfBoundsException" ["java/lang/RuntimeException", "java/lang/Exception"]).filter goodWord)
def wsX8_shifts : List Cond := .code yX8_shifts cX8_shifts 3 (some .int) :: ([.classLink RX8 78 "java/lang/IndexOutOfBoundsException", .initialized "java/lang/IndexOutOfBoundsException", .methodLink RX8 104 yX8_personAt, .instanceMethod yX8_personAt, .selects RX8 yX8_personAt yX8_personAt, .initialized RX8, .code yX8_personAt cX8_personAt 2 (some (.object "CoverSheet$Person")), .fieldLink RX8 11 "CoverSheet" "team" "[LCoverSheet$Person;", .methodLink RX8 180 yX7_shiftsFrom, .static yX7_shiftsFrom, .initialized RX7, .code yX7_shiftsFrom cX7_shiftsFrom 4 (some .int), .methodLink RX7 15 yX7_at, .static yX7_at, .code yX7_at cX7_at 2 (some .int), .methodLink RX7 9 yX7_placeOf, .static yX7_placeOf, .code yX7_placeOf cX7_placeOf 1 (some .int)] ++ wsX40 ++ wsX80 ++ (vx_atS RX8 82 "java/lang/IndexOutOfBoundsException" ["java/lang/RuntimeException", "java/lang/Exception"]).filter goodWord)
def wsX8_weekends : List Cond := .code yX8_weekends cX8_weekends 3 (some .int) :: ([.classLink RX8 78 "java/lang/IndexOutOfBoundsException", .initialized "java/lang/IndexOutOfBoundsException", .methodLink RX8 104 yX8_personAt, .instanceMethod yX8_personAt, .selects RX8 yX8_personAt yX8_personAt, .initialized RX8, .code yX8_personAt cX8_personAt 2 (some (.object "CoverSheet$Person")), .fieldLink RX8 11 "CoverSheet" "team" "[LCoverSheet$Person;"] ++ wsX40 ++ wsX80 ++ (vx_atS RX8 82 "java/lang/IndexOutOfBoundsException" ["java/lang/RuntimeException", "java/lang/Exception"]).filter goodWord)
def wsX8_broken_r1 : List Cond := [Cond.classLink RX8 78 "java/lang/IndexOutOfBoundsException", Cond.initialized "java/lang/IndexOutOfBoundsException", Cond.methodLink RX8 104 yX8_personAt, Cond.instanceMethod yX8_personAt, Cond.selects RX8 yX8_personAt yX8_personAt, Cond.initialized RX8, Cond.code yX8_personAt cX8_personAt 2 (some (.object "CoverSheet$Person")), Cond.fieldLink RX8 11 "CoverSheet" "team" "[LCoverSheet$Person;", Cond.methodLink RX8 165 yX4_brokenWishes, Cond.instanceMethod yX4_brokenWishes, Cond.selects RX4 yX4_brokenWishes yX4_brokenWishes, Cond.initialized RX4, Cond.code yX4_brokenWishes cX4_brokenWishes 3 (some .int), Cond.fieldLink RX4 21 "CoverSheet$Person" "week" "I", Cond.methodLink RX4 24 yX7_at, Cond.static yX7_at, Cond.initialized RX7, Cond.code yX7_at cX7_at 2 (some .int), Cond.methodLink RX7 9 yX7_placeOf, Cond.static yX7_placeOf, Cond.code yX7_placeOf cX7_placeOf 1 (some .int), Cond.methodLink RX4 30 yX4_breaksWish, Cond.instanceMethod yX4_breaksWish, Cond.selects RX4 yX4_breaksWish yX4_breaksWish]
def wsX8_broken_r2 : List Cond := [Cond.code yX4_breaksWish cX4_breaksWish 3 (some .boolean), Cond.fieldLink RX4 18 "CoverSheet$Person" "wishes" "I"]
def wsX8_broken : List Cond := .code yX8_broken cX8_broken 3 (some .int) :: ((wsX8_broken_r1 ++ wsX8_broken_r2) ++ wsX80 ++ wsX40 ++ (vx_atS RX8 82 "java/lang/IndexOutOfBoundsException" ["java/lang/RuntimeException", "java/lang/Exception"]).filter goodWord)
def wsX8_runBefore : List Cond := .code yX8_runBefore cX8_runBefore 3 (some .int) :: ([.classLink RX8 78 "java/lang/IndexOutOfBoundsException", .initialized "java/lang/IndexOutOfBoundsException", .methodLink RX8 104 yX8_personAt, .instanceMethod yX8_personAt, .selects RX8 yX8_personAt yX8_personAt, .initialized RX8, .code yX8_personAt cX8_personAt 2 (some (.object "CoverSheet$Person")), .fieldLink RX8 11 "CoverSheet" "team" "[LCoverSheet$Person;"] ++ wsX40 ++ wsX80 ++ (vx_atS RX8 82 "java/lang/IndexOutOfBoundsException" ["java/lang/RuntimeException", "java/lang/Exception"]).filter goodWord)
def wsX8_isFeasible_r1 : List Cond := [Cond.classLink RX8 78 "java/lang/IndexOutOfBoundsException", Cond.initialized "java/lang/IndexOutOfBoundsException", Cond.fieldLink RX8 25 "CoverSheet" "rules" "LCoverSheet$Rules;", Cond.methodLink RX8 104 yX8_personAt, Cond.instanceMethod yX8_personAt, Cond.selects RX8 yX8_personAt yX8_personAt, Cond.initialized RX8, Cond.code yX8_personAt cX8_personAt 2 (some (.object "CoverSheet$Person")), Cond.fieldLink RX8 11 "CoverSheet" "team" "[LCoverSheet$Person;", Cond.methodLink RX8 148 yX4_canHave, Cond.instanceMethod yX4_canHave, Cond.selects RX4 yX4_canHave yX4_canHave, Cond.initialized RX4, Cond.code yX4_canHave cX4_canHave 7 (some .boolean), Cond.fieldLink RX4 41 "CoverSheet$Person" "lastEntry" "I", Cond.fieldLink RX4 44 "CoverSheet$Person" "daysInARow" "I", Cond.fieldLink RX4 15 "CoverSheet$Person" "most" "I", Cond.methodLink RX4 24 yX7_at, Cond.static yX7_at, Cond.initialized RX7, Cond.code yX7_at cX7_at 2 (some .int), Cond.methodLink RX7 9 yX7_placeOf, Cond.static yX7_placeOf, Cond.code yX7_placeOf cX7_placeOf 1 (some .int)]
def wsX8_isFeasible_r2 : List Cond := [Cond.methodLink RX4 47 yX4_mayHave, Cond.instanceMethod yX4_mayHave, Cond.selects RX4 yX4_mayHave yX4_mayHave, Cond.code yX4_mayHave cX4_mayHave 4 (some .boolean), Cond.fieldLink RX4 9 "CoverSheet$Person" "skills" "I", Cond.methodLink RX4 37 yX4_fixedAt, Cond.instanceMethod yX4_fixedAt, Cond.selects RX4 yX4_fixedAt yX4_fixedAt, Cond.code yX4_fixedAt cX4_fixedAt 2 (some .int), Cond.fieldLink RX4 34 "CoverSheet$Person" "fixed" "I", Cond.methodLink RX4 50 yX6_allow, Cond.instanceMethod yX6_allow, Cond.selects RX6 yX6_allow yX6_allow, Cond.initialized RX6, Cond.code yX6_allow cX6_allow 4 (some .boolean), Cond.fieldLink RX6 19 "CoverSheet$Rules" "longestRun" "I", Cond.fieldLink RX6 15 "CoverSheet$Rules" "forbidden" "I", Cond.methodLink RX6 9 yX6_pairOf, Cond.static yX6_pairOf, Cond.code yX6_pairOf cX6_pairOf 2 (some .int), Cond.methodLink RX4 56 yX7_shiftsFrom, Cond.static yX7_shiftsFrom, Cond.code yX7_shiftsFrom cX7_shiftsFrom 4 (some .int), Cond.methodLink RX7 15 yX7_at]
def wsX8_isFeasible : List Cond := .code yX8_isFeasible cX8_isFeasible 3 (some .boolean) :: ((wsX8_isFeasible_r1 ++ wsX8_isFeasible_r2) ++ wsX40 ++ wsX80 ++ wsX60 ++ (vx_atS RX8 82 "java/lang/IndexOutOfBoundsException" ["java/lang/RuntimeException", "java/lang/Exception"]).filter goodWord)
def wsX8_weeks_r1 : List Cond := [Cond.classLink RX8 78 "java/lang/IndexOutOfBoundsException", Cond.initialized "java/lang/IndexOutOfBoundsException", Cond.fieldLink RX8 25 "CoverSheet" "rules" "LCoverSheet$Rules;", Cond.methodLink RX8 104 yX8_personAt, Cond.instanceMethod yX8_personAt, Cond.selects RX8 yX8_personAt yX8_personAt, Cond.initialized RX8, Cond.code yX8_personAt cX8_personAt 2 (some (.object "CoverSheet$Person")), Cond.fieldLink RX8 11 "CoverSheet" "team" "[LCoverSheet$Person;", Cond.methodLink RX8 148 yX4_canHave, Cond.instanceMethod yX4_canHave, Cond.selects RX4 yX4_canHave yX4_canHave, Cond.initialized RX4, Cond.code yX4_canHave cX4_canHave 7 (some .boolean), Cond.fieldLink RX4 41 "CoverSheet$Person" "lastEntry" "I", Cond.fieldLink RX4 44 "CoverSheet$Person" "daysInARow" "I", Cond.fieldLink RX4 15 "CoverSheet$Person" "most" "I", Cond.methodLink RX4 24 yX7_at, Cond.static yX7_at, Cond.initialized RX7, Cond.code yX7_at cX7_at 2 (some .int), Cond.methodLink RX7 9 yX7_placeOf, Cond.static yX7_placeOf, Cond.code yX7_placeOf cX7_placeOf 1 (some .int)]
def wsX8_weeks_r2 : List Cond := [Cond.methodLink RX4 47 yX4_mayHave, Cond.instanceMethod yX4_mayHave, Cond.selects RX4 yX4_mayHave yX4_mayHave, Cond.code yX4_mayHave cX4_mayHave 4 (some .boolean), Cond.fieldLink RX4 9 "CoverSheet$Person" "skills" "I", Cond.methodLink RX4 37 yX4_fixedAt, Cond.instanceMethod yX4_fixedAt, Cond.selects RX4 yX4_fixedAt yX4_fixedAt, Cond.code yX4_fixedAt cX4_fixedAt 2 (some .int), Cond.fieldLink RX4 34 "CoverSheet$Person" "fixed" "I", Cond.methodLink RX4 50 yX6_allow, Cond.instanceMethod yX6_allow, Cond.selects RX6 yX6_allow yX6_allow, Cond.initialized RX6, Cond.code yX6_allow cX6_allow 4 (some .boolean), Cond.fieldLink RX6 19 "CoverSheet$Rules" "longestRun" "I", Cond.fieldLink RX6 15 "CoverSheet$Rules" "forbidden" "I", Cond.methodLink RX6 9 yX6_pairOf, Cond.static yX6_pairOf, Cond.code yX6_pairOf cX6_pairOf 2 (some .int), Cond.methodLink RX4 56 yX7_shiftsFrom, Cond.static yX7_shiftsFrom, Cond.code yX7_shiftsFrom cX7_shiftsFrom 4 (some .int), Cond.methodLink RX7 15 yX7_at]
def wsX8_weeks : List Cond := .code yX8_weeks cX8_weeks 5 (some .int) :: ((wsX8_weeks_r1 ++ wsX8_weeks_r2) ++ wsX80 ++ wsX40 ++ wsX60 ++ (vx_atS RX8 82 "java/lang/IndexOutOfBoundsException" ["java/lang/RuntimeException", "java/lang/Exception"]).filter goodWord)
def wsX8_weeksByDays_r1 : List Cond := [Cond.classLink RX8 78 "java/lang/IndexOutOfBoundsException", Cond.initialized "java/lang/IndexOutOfBoundsException", Cond.fieldLink RX8 32 "CoverSheet" "table" "LCoverSheet$DayTable;", Cond.fieldLink RX8 25 "CoverSheet" "rules" "LCoverSheet$Rules;", Cond.fieldLink RX8 39 "CoverSheet" "counting" "LCoverSheet$Counting;", Cond.methodLink RX8 104 yX8_personAt, Cond.instanceMethod yX8_personAt, Cond.selects RX8 yX8_personAt yX8_personAt, Cond.initialized RX8, Cond.code yX8_personAt cX8_personAt 2 (some (.object "CoverSheet$Person")), Cond.fieldLink RX8 11 "CoverSheet" "team" "[LCoverSheet$Person;", Cond.methodLink RX8 189 yX1_through, Cond.instanceMethod yX1_through, Cond.selects RX1 yX1_through yX1_through, Cond.initialized RX1, Cond.code yX1_through cX1_through 12 (some .long), Cond.fieldLink RX1 11 "CoverSheet$DayTable" "values" "[J", Cond.methodLink RX1 36 Lib.Math.min.name, Cond.static Lib.Math.min.name, Cond.initialized "java/lang/Math", Cond.code Lib.Math.min.name Lib.Math.min.code 2 (some .int), Cond.methodLink RX1 18 ⟨"CoverSheet$Measure", "none", "()J"⟩, Cond.sameMethod "CoverSheet$Measure" "CoverSheet$Measure" "none" "()J", Cond.selects RX0 ⟨"CoverSheet$Measure", "none", "()J"⟩ yX0_none]
def wsX8_weeksByDays_r2 : List Cond := [Cond.instanceMethod yX0_none, Cond.initialized RX0, Cond.code yX0_none cX0_none 1 (some .long), Cond.selects RX5 ⟨"CoverSheet$Measure", "none", "()J"⟩ yX5_none, Cond.instanceMethod yX5_none, Cond.initialized RX5, Cond.code yX5_none cX5_none 1 (some .long), Cond.constantLong RX5 41 (9223372036854775807), Cond.methodLink RX1 24 yJ7_fill_d0a16, Cond.static yJ7_fill_d0a16, Cond.initialized RJ7, Cond.code yJ7_fill_d0a16 cJ7_fill_d0a16 5 none, Cond.methodLink RX1 45 yX1_placeOf, Cond.static yX1_placeOf, Cond.code yX1_placeOf cX1_placeOf 3 (some .int), Cond.methodLink RX1 49 ⟨"CoverSheet$Measure", "start", "()J"⟩, Cond.sameMethod "CoverSheet$Measure" "CoverSheet$Measure" "start" "()J", Cond.selects RX0 ⟨"CoverSheet$Measure", "start", "()J"⟩ yX0_start, Cond.instanceMethod yX0_start, Cond.code yX0_start cX0_start 1 (some .long), Cond.selects RX5 ⟨"CoverSheet$Measure", "start", "()J"⟩ yX5_start, Cond.instanceMethod yX5_start, Cond.code yX5_start cX5_start 1 (some .long), Cond.methodLink RX1 52 yX1_goOn]
def wsX8_weeksByDays_r3 : List Cond := [Cond.instanceMethod yX1_goOn, Cond.selects RX1 yX1_goOn yX1_goOn, Cond.code yX1_goOn cX1_goOn 16 none, Cond.fieldLink RX1 15 "CoverSheet$DayTable" "nextValues" "[J", Cond.methodLink RX1 63 yX4_mayHave, Cond.instanceMethod yX4_mayHave, Cond.selects RX4 yX4_mayHave yX4_mayHave, Cond.initialized RX4, Cond.code yX4_mayHave cX4_mayHave 4 (some .boolean), Cond.fieldLink RX4 9 "CoverSheet$Person" "skills" "I", Cond.methodLink RX4 37 yX4_fixedAt, Cond.instanceMethod yX4_fixedAt, Cond.selects RX4 yX4_fixedAt yX4_fixedAt, Cond.code yX4_fixedAt cX4_fixedAt 2 (some .int), Cond.fieldLink RX4 34 "CoverSheet$Person" "fixed" "I", Cond.methodLink RX1 67 yX6_allow, Cond.instanceMethod yX6_allow, Cond.selects RX6 yX6_allow yX6_allow, Cond.initialized RX6, Cond.code yX6_allow cX6_allow 4 (some .boolean), Cond.fieldLink RX6 19 "CoverSheet$Rules" "longestRun" "I", Cond.fieldLink RX6 15 "CoverSheet$Rules" "forbidden" "I", Cond.methodLink RX6 9 yX6_pairOf, Cond.static yX6_pairOf]
def wsX8_weeksByDays_r4 : List Cond := [Cond.code yX6_pairOf cX6_pairOf 2 (some .int), Cond.methodLink RX1 73 ⟨"CoverSheet$Measure", "longer", "(JII)J"⟩, Cond.sameMethod "CoverSheet$Measure" "CoverSheet$Measure" "longer" "(JII)J", Cond.selects RX0 ⟨"CoverSheet$Measure", "longer", "(JII)J"⟩ yX0_longer, Cond.instanceMethod yX0_longer, Cond.code yX0_longer cX0_longer 5 (some .long), Cond.selects RX5 ⟨"CoverSheet$Measure", "longer", "(JII)J"⟩ yX5_longer, Cond.instanceMethod yX5_longer, Cond.code yX5_longer cX5_longer 6 (some .long), Cond.fieldLink RX5 15 "CoverSheet$Pricing" "prices" "[J", Cond.methodLink RX1 56 ⟨"CoverSheet$Measure", "joined", "(JJ)J"⟩, Cond.sameMethod "CoverSheet$Measure" "CoverSheet$Measure" "joined" "(JJ)J", Cond.selects RX0 ⟨"CoverSheet$Measure", "joined", "(JJ)J"⟩ yX0_joined, Cond.instanceMethod yX0_joined, Cond.code yX0_joined cX0_joined 5 (some .long), Cond.selects RX5 ⟨"CoverSheet$Measure", "joined", "(JJ)J"⟩ yX5_joined, Cond.instanceMethod yX5_joined, Cond.code yX5_joined cX5_joined 5 (some .long), Cond.methodLink RX5 45 Lib.MathLoose.min_long.x, Cond.static Lib.MathLoose.min_long.x, Cond.code Lib.MathLoose.min_long.x Lib.MathLoose.min_long.code 4 (some .long)]
def wsX8_weeksByDays : List Cond := .code yX8_weeksByDays cX8_weeksByDays 3 (some .int) :: ((wsX8_weeksByDays_r1 ++ (wsX8_weeksByDays_r2 ++ (wsX8_weeksByDays_r3 ++ wsX8_weeksByDays_r4))) ++ wsX80 ++ wsX10 ++ wsX40 ++ wsX60 ++ wsX50 ++ (vx_atS RX8 82 "java/lang/IndexOutOfBoundsException" ["java/lang/RuntimeException", "java/lang/Exception"]).filter goodWord)
def wsX8_couldTake_r1 : List Cond := [Cond.classLink RX8 78 "java/lang/IndexOutOfBoundsException", Cond.initialized "java/lang/IndexOutOfBoundsException", Cond.fieldLink RX8 59 "CoverSheet" "teamSize" "I", Cond.fieldLink RX8 25 "CoverSheet" "rules" "LCoverSheet$Rules;", Cond.methodLink RX8 71 yX8_isDay, Cond.static yX8_isDay, Cond.initialized RX8, Cond.code yX8_isDay cX8_isDay 1 (some .boolean), Cond.methodLink RX8 75 yX8_isKind, Cond.static yX8_isKind, Cond.code yX8_isKind cX8_isKind 1 (some .boolean), Cond.methodLink RX8 104 yX8_personAt, Cond.instanceMethod yX8_personAt, Cond.selects RX8 yX8_personAt yX8_personAt, Cond.code yX8_personAt cX8_personAt 2 (some (.object "CoverSheet$Person")), Cond.fieldLink RX8 11 "CoverSheet" "team" "[LCoverSheet$Person;", Cond.methodLink RX8 154 yX7_at, Cond.static yX7_at, Cond.initialized RX7, Cond.code yX7_at cX7_at 2 (some .int), Cond.methodLink RX7 9 yX7_placeOf, Cond.static yX7_placeOf, Cond.code yX7_placeOf cX7_placeOf 1 (some .int), Cond.methodLink RX8 144 yX7_with]
def wsX8_couldTake_r2 : List Cond := [Cond.static yX7_with, Cond.code yX7_with cX7_with 4 (some .int), Cond.methodLink RX8 148 yX4_canHave, Cond.instanceMethod yX4_canHave, Cond.selects RX4 yX4_canHave yX4_canHave, Cond.initialized RX4, Cond.code yX4_canHave cX4_canHave 7 (some .boolean), Cond.fieldLink RX4 41 "CoverSheet$Person" "lastEntry" "I", Cond.fieldLink RX4 44 "CoverSheet$Person" "daysInARow" "I", Cond.fieldLink RX4 15 "CoverSheet$Person" "most" "I", Cond.methodLink RX4 24 yX7_at, Cond.methodLink RX4 47 yX4_mayHave, Cond.instanceMethod yX4_mayHave, Cond.selects RX4 yX4_mayHave yX4_mayHave, Cond.code yX4_mayHave cX4_mayHave 4 (some .boolean), Cond.fieldLink RX4 9 "CoverSheet$Person" "skills" "I", Cond.methodLink RX4 37 yX4_fixedAt, Cond.instanceMethod yX4_fixedAt, Cond.selects RX4 yX4_fixedAt yX4_fixedAt, Cond.code yX4_fixedAt cX4_fixedAt 2 (some .int), Cond.fieldLink RX4 34 "CoverSheet$Person" "fixed" "I", Cond.methodLink RX4 50 yX6_allow, Cond.instanceMethod yX6_allow, Cond.selects RX6 yX6_allow yX6_allow]
def wsX8_couldTake_r3 : List Cond := [Cond.initialized RX6, Cond.code yX6_allow cX6_allow 4 (some .boolean), Cond.fieldLink RX6 19 "CoverSheet$Rules" "longestRun" "I", Cond.fieldLink RX6 15 "CoverSheet$Rules" "forbidden" "I", Cond.methodLink RX6 9 yX6_pairOf, Cond.static yX6_pairOf, Cond.code yX6_pairOf cX6_pairOf 2 (some .int), Cond.methodLink RX4 56 yX7_shiftsFrom, Cond.static yX7_shiftsFrom, Cond.code yX7_shiftsFrom cX7_shiftsFrom 4 (some .int), Cond.methodLink RX7 15 yX7_at]
def wsX8_couldTake : List Cond := .code yX8_couldTake cX8_couldTake 6 (some .int) :: ((wsX8_couldTake_r1 ++ (wsX8_couldTake_r2 ++ wsX8_couldTake_r3)) ++ wsX80 ++ wsX40 ++ wsX60 ++ (vx_atS RX8 82 "java/lang/IndexOutOfBoundsException" ["java/lang/RuntimeException", "java/lang/Exception"]).filter goodWord)
def wsX8_swapFor_r1 : List Cond := [Cond.classLink RX8 78 "java/lang/IndexOutOfBoundsException", Cond.initialized "java/lang/IndexOutOfBoundsException", Cond.fieldLink RX8 59 "CoverSheet" "teamSize" "I", Cond.methodLink RX8 104 yX8_personAt, Cond.instanceMethod yX8_personAt, Cond.selects RX8 yX8_personAt yX8_personAt, Cond.initialized RX8, Cond.code yX8_personAt cX8_personAt 2 (some (.object "CoverSheet$Person")), Cond.fieldLink RX8 11 "CoverSheet" "team" "[LCoverSheet$Person;", Cond.methodLink RX8 71 yX8_isDay, Cond.static yX8_isDay, Cond.code yX8_isDay cX8_isDay 1 (some .boolean), Cond.methodLink RX8 154 yX7_at, Cond.static yX7_at, Cond.initialized RX7, Cond.code yX7_at cX7_at 2 (some .int), Cond.methodLink RX7 9 yX7_placeOf, Cond.static yX7_placeOf, Cond.code yX7_placeOf cX7_placeOf 1 (some .int), Cond.methodLink RX8 180 yX7_shiftsFrom, Cond.static yX7_shiftsFrom, Cond.code yX7_shiftsFrom cX7_shiftsFrom 4 (some .int), Cond.methodLink RX7 15 yX7_at, Cond.methodLink RX8 159 yX8_couldSwap]
def wsX8_swapFor_r2 : List Cond := [Cond.instanceMethod yX8_couldSwap, Cond.selects RX8 yX8_couldSwap yX8_couldSwap, Cond.code yX8_couldSwap cX8_couldSwap 6 (some .boolean), Cond.fieldLink RX8 25 "CoverSheet" "rules" "LCoverSheet$Rules;", Cond.methodLink RX8 144 yX7_with, Cond.static yX7_with, Cond.code yX7_with cX7_with 4 (some .int), Cond.methodLink RX8 148 yX4_canHave, Cond.instanceMethod yX4_canHave, Cond.selects RX4 yX4_canHave yX4_canHave, Cond.initialized RX4, Cond.code yX4_canHave cX4_canHave 7 (some .boolean), Cond.fieldLink RX4 41 "CoverSheet$Person" "lastEntry" "I", Cond.fieldLink RX4 44 "CoverSheet$Person" "daysInARow" "I", Cond.fieldLink RX4 15 "CoverSheet$Person" "most" "I", Cond.methodLink RX4 24 yX7_at, Cond.methodLink RX4 47 yX4_mayHave, Cond.instanceMethod yX4_mayHave, Cond.selects RX4 yX4_mayHave yX4_mayHave, Cond.code yX4_mayHave cX4_mayHave 4 (some .boolean), Cond.fieldLink RX4 9 "CoverSheet$Person" "skills" "I", Cond.methodLink RX4 37 yX4_fixedAt, Cond.instanceMethod yX4_fixedAt, Cond.selects RX4 yX4_fixedAt yX4_fixedAt]
def wsX8_swapFor_r3 : List Cond := [Cond.code yX4_fixedAt cX4_fixedAt 2 (some .int), Cond.fieldLink RX4 34 "CoverSheet$Person" "fixed" "I", Cond.methodLink RX4 50 yX6_allow, Cond.instanceMethod yX6_allow, Cond.selects RX6 yX6_allow yX6_allow, Cond.initialized RX6, Cond.code yX6_allow cX6_allow 4 (some .boolean), Cond.fieldLink RX6 19 "CoverSheet$Rules" "longestRun" "I", Cond.fieldLink RX6 15 "CoverSheet$Rules" "forbidden" "I", Cond.methodLink RX6 9 yX6_pairOf, Cond.static yX6_pairOf, Cond.code yX6_pairOf cX6_pairOf 2 (some .int), Cond.methodLink RX4 56 yX7_shiftsFrom]
def wsX8_swapFor : List Cond := .code yX8_swapFor cX8_swapFor 9 (some .int) :: ((wsX8_swapFor_r1 ++ (wsX8_swapFor_r2 ++ wsX8_swapFor_r3)) ++ wsX80 ++ wsX40 ++ wsX60 ++ (vx_atS RX8 82 "java/lang/IndexOutOfBoundsException" ["java/lang/RuntimeException", "java/lang/Exception"]).filter goodWord)
def wsX8_peopleWithOneOf : List Cond := .code yX8_peopleWithOneOf cX8_peopleWithOneOf 7 (some .int) :: ([.fieldLink RX8 11 "CoverSheet" "team" "[LCoverSheet$Person;"] ++ wsX80 ++ wsX40)
def wsX8_leastGapsOf : List Cond := .code yX8_leastGapsOf cX8_leastGapsOf 6 (some .int) :: ([.fieldLink RX8 18 "CoverSheet" "needs" "LCoverSheet$Needs;", .methodLink RX8 196 Lib.Math.max.name, .static Lib.Math.max.name, .initialized "java/lang/Math", .code Lib.Math.max.name Lib.Math.max.code 2 (some .int), .methodLink RX8 201 yX8_peopleWithOneOf, .instanceMethod yX8_peopleWithOneOf, .selects RX8 yX8_peopleWithOneOf yX8_peopleWithOneOf, .initialized RX8, .code yX8_peopleWithOneOf cX8_peopleWithOneOf 7 (some .int), .fieldLink RX8 11 "CoverSheet" "team" "[LCoverSheet$Person;", .methodLink RX8 85 yX3_of, .instanceMethod yX3_of, .selects RX3 yX3_of yX3_of, .initialized RX3, .code yX3_of cX3_of 4 (some .int), .fieldLink RX3 9 "CoverSheet$Needs" "numbers" "[I"] ++ wsX80 ++ wsX40 ++ wsX30)
def wsX8_bound : List Cond := .code yX8_bound cX8_bound 3 (some .int) :: ([.methodLink RX8 193 yX8_leastGapsOf, .instanceMethod yX8_leastGapsOf, .selects RX8 yX8_leastGapsOf yX8_leastGapsOf, .initialized RX8, .code yX8_leastGapsOf cX8_leastGapsOf 6 (some .int), .fieldLink RX8 18 "CoverSheet" "needs" "LCoverSheet$Needs;", .methodLink RX8 196 Lib.Math.max.name, .static Lib.Math.max.name, .initialized "java/lang/Math", .code Lib.Math.max.name Lib.Math.max.code 2 (some .int), .methodLink RX8 201 yX8_peopleWithOneOf, .instanceMethod yX8_peopleWithOneOf, .selects RX8 yX8_peopleWithOneOf yX8_peopleWithOneOf, .code yX8_peopleWithOneOf cX8_peopleWithOneOf 7 (some .int), .fieldLink RX8 11 "CoverSheet" "team" "[LCoverSheet$Person;", .methodLink RX8 85 yX3_of, .instanceMethod yX3_of, .selects RX3 yX3_of yX3_of, .initialized RX3, .code yX3_of cX3_of 4 (some .int), .fieldLink RX3 9 "CoverSheet$Needs" "numbers" "[I"] ++ wsX80 ++ wsX40 ++ wsX30)
def wsX9_init : List Cond := .code yX9_init cX9_init 1 none :: ([.methodLink RX9 1 objectInit, .instanceMethod objectInit, .code objectInit ⟨#[0xb1]⟩ 1 none, .fieldLink RX9 7 "CoverSheetModel" "run" "I", .arrayClass .int, .fieldLink RX9 13 "CoverSheetModel" "skills" "[I", .fieldLink RX9 17 "CoverSheetModel" "most" "[I", .fieldLink RX9 20 "CoverSheetModel" "need" "[I", .fieldLink RX9 23 "CoverSheetModel" "barred" "[I", .fieldLink RX9 26 "CoverSheetModel" "entries" "[I", .fieldLink RX9 29 "CoverSheetModel" "fixed" "[I", .fieldLink RX9 32 "CoverSheetModel" "wished" "[I", .fieldLink RX9 35 "CoverSheetModel" "last" "[I", .fieldLink RX9 38 "CoverSheetModel" "before" "[I", .fieldLink RX9 41 "CoverSheetModel" "ends" "[I"] ++ wsX90)
def wsX9_thrown : List Cond := .code yX9_thrown cX9_thrown 1 (some .int) :: ([.fieldLink RX9 44 "CoverSheetModel" "thrown" "I"] ++ wsX90)
def wsX9_fails : List Cond := .code yX9_fails cX9_fails 2 (some .int) :: ([.fieldLink RX9 44 "CoverSheetModel" "thrown" "I"] ++ wsX90)
def wsX9_in : List Cond := .code yX9_in cX9_in 3 (some .boolean) :: ([])
def wsX9_isPerson : List Cond := .code yX9_isPerson cX9_isPerson 2 (some .boolean) :: ([.fieldLink RX9 47 "CoverSheetModel" "many" "I", .methodLink RX9 50 yX9_in, .static yX9_in, .initialized RX9, .code yX9_in cX9_in 3 (some .boolean)] ++ wsX90)
def wsX9_isDay : List Cond := .code yX9_isDay cX9_isDay 1 (some .boolean) :: ([.methodLink RX9 50 yX9_in, .static yX9_in, .initialized RX9, .code yX9_in cX9_in 3 (some .boolean)])
def wsX9_isKind : List Cond := .code yX9_isKind cX9_isKind 1 (some .boolean) :: ([.methodLink RX9 50 yX9_in, .static yX9_in, .initialized RX9, .code yX9_in cX9_in 3 (some .boolean)])
def wsX9_isAsked : List Cond := .code yX9_isAsked cX9_isAsked 2 (some .boolean) :: ([.fieldLink RX9 44 "CoverSheetModel" "thrown" "I", .methodLink RX9 54 yX9_isPerson, .instanceMethod yX9_isPerson, .selects RX9 yX9_isPerson yX9_isPerson, .initialized RX9, .code yX9_isPerson cX9_isPerson 2 (some .boolean), .fieldLink RX9 47 "CoverSheetModel" "many" "I", .methodLink RX9 50 yX9_in, .static yX9_in, .code yX9_in cX9_in 3 (some .boolean)] ++ wsX90)
def wsX9_entryOf : List Cond := .code yX9_entryOf cX9_entryOf 2 (some .int) :: ([])
def wsX9_with : List Cond := .code yX9_with cX9_with 3 (some .int) :: ([.methodLink RX9 58 yX9_entryOf, .static yX9_entryOf, .initialized RX9, .code yX9_entryOf cX9_entryOf 2 (some .int)])
def wsX9_weekOf : List Cond := .code yX9_weekOf cX9_weekOf 4 (some .int) :: ([.fieldLink RX9 26 "CoverSheetModel" "entries" "[I"] ++ wsX90)
def wsX9_enter : List Cond := .code yX9_enter cX9_enter 4 none :: ([.fieldLink RX9 26 "CoverSheetModel" "entries" "[I", .methodLink RX9 58 yX9_entryOf, .static yX9_entryOf, .initialized RX9, .code yX9_entryOf cX9_entryOf 2 (some .int)] ++ wsX90)
def wsX9_countShifts : List Cond := .code yX9_countShifts cX9_countShifts 3 (some .int) :: ([.methodLink RX9 58 yX9_entryOf, .static yX9_entryOf, .initialized RX9, .code yX9_entryOf cX9_entryOf 2 (some .int)])
def wsX9_isPossible : List Cond := .code yX9_isPossible cX9_isPossible 9 (some .boolean) :: ([.fieldLink RX9 17 "CoverSheetModel" "most" "[I", .fieldLink RX9 35 "CoverSheetModel" "last" "[I", .fieldLink RX9 38 "CoverSheetModel" "before" "[I", .fieldLink RX9 29 "CoverSheetModel" "fixed" "[I", .fieldLink RX9 13 "CoverSheetModel" "skills" "[I", .fieldLink RX9 23 "CoverSheetModel" "barred" "[I", .fieldLink RX9 7 "CoverSheetModel" "run" "I", .methodLink RX9 62 yX9_countShifts, .static yX9_countShifts, .initialized RX9, .code yX9_countShifts cX9_countShifts 3 (some .int), .methodLink RX9 58 yX9_entryOf, .static yX9_entryOf, .code yX9_entryOf cX9_entryOf 2 (some .int)] ++ wsX90)
def wsX9_brokenBy : List Cond := .code yX9_brokenBy cX9_brokenBy 5 (some .int) :: ([.fieldLink RX9 32 "CoverSheetModel" "wished" "[I", .methodLink RX9 58 yX9_entryOf, .static yX9_entryOf, .initialized RX9, .code yX9_entryOf cX9_entryOf 2 (some .int)] ++ wsX90)
def wsX9_weekendOf : List Cond := .code yX9_weekendOf cX9_weekendOf 1 (some .int) :: ([.methodLink RX9 58 yX9_entryOf, .static yX9_entryOf, .initialized RX9, .code yX9_entryOf cX9_entryOf 2 (some .int)])
def wsX9_addPerson : List Cond := .code yX9_addPerson cX9_addPerson 4 (some .int) :: ([.fieldLink RX9 44 "CoverSheetModel" "thrown" "I", .fieldLink RX9 47 "CoverSheetModel" "many" "I", .fieldLink RX9 13 "CoverSheetModel" "skills" "[I", .fieldLink RX9 17 "CoverSheetModel" "most" "[I", .fieldLink RX9 29 "CoverSheetModel" "fixed" "[I", .methodLink RX9 50 yX9_in, .static yX9_in, .initialized RX9, .code yX9_in cX9_in 3 (some .boolean), .methodLink RX9 66 yX9_fails, .instanceMethod yX9_fails, .selects RX9 yX9_fails yX9_fails, .code yX9_fails cX9_fails 2 (some .int)] ++ wsX90)
def wsX9_setNeed : List Cond := .code yX9_setNeed cX9_setNeed 5 (some .int) :: ([.fieldLink RX9 44 "CoverSheetModel" "thrown" "I", .fieldLink RX9 20 "CoverSheetModel" "need" "[I", .methodLink RX9 69 yX9_isDay, .static yX9_isDay, .initialized RX9, .code yX9_isDay cX9_isDay 1 (some .boolean), .methodLink RX9 50 yX9_in, .static yX9_in, .code yX9_in cX9_in 3 (some .boolean), .methodLink RX9 72 yX9_isKind, .static yX9_isKind, .code yX9_isKind cX9_isKind 1 (some .boolean), .methodLink RX9 66 yX9_fails, .instanceMethod yX9_fails, .selects RX9 yX9_fails yX9_fails, .code yX9_fails cX9_fails 2 (some .int)] ++ wsX90)
def wsX9_forbid : List Cond := .code yX9_forbid cX9_forbid 6 (some .boolean) :: ([.fieldLink RX9 44 "CoverSheetModel" "thrown" "I", .fieldLink RX9 23 "CoverSheetModel" "barred" "[I", .methodLink RX9 72 yX9_isKind, .static yX9_isKind, .initialized RX9, .code yX9_isKind cX9_isKind 1 (some .boolean), .methodLink RX9 50 yX9_in, .static yX9_in, .code yX9_in cX9_in 3 (some .boolean)] ++ wsX90)
def wsX9_setRun : List Cond := .code yX9_setRun cX9_setRun 3 (some .int) :: ([.fieldLink RX9 44 "CoverSheetModel" "thrown" "I", .fieldLink RX9 7 "CoverSheetModel" "run" "I", .methodLink RX9 50 yX9_in, .static yX9_in, .initialized RX9, .code yX9_in cX9_in 3 (some .boolean), .methodLink RX9 66 yX9_fails, .instanceMethod yX9_fails, .selects RX9 yX9_fails yX9_fails, .code yX9_fails cX9_fails 2 (some .int)] ++ wsX90)
def wsX9_wish : List Cond := .code yX9_wish cX9_wish 5 (some .boolean) :: ([.fieldLink RX9 44 "CoverSheetModel" "thrown" "I", .fieldLink RX9 32 "CoverSheetModel" "wished" "[I", .methodLink RX9 54 yX9_isPerson, .instanceMethod yX9_isPerson, .selects RX9 yX9_isPerson yX9_isPerson, .initialized RX9, .code yX9_isPerson cX9_isPerson 2 (some .boolean), .fieldLink RX9 47 "CoverSheetModel" "many" "I", .methodLink RX9 50 yX9_in, .static yX9_in, .code yX9_in cX9_in 3 (some .boolean), .methodLink RX9 69 yX9_isDay, .static yX9_isDay, .code yX9_isDay cX9_isDay 1 (some .boolean)] ++ wsX90)
def wsX9_fix : List Cond := .code yX9_fix cX9_fix 5 (some .int) :: ([.fieldLink RX9 44 "CoverSheetModel" "thrown" "I", .fieldLink RX9 29 "CoverSheetModel" "fixed" "[I", .methodLink RX9 54 yX9_isPerson, .instanceMethod yX9_isPerson, .selects RX9 yX9_isPerson yX9_isPerson, .initialized RX9, .code yX9_isPerson cX9_isPerson 2 (some .boolean), .fieldLink RX9 47 "CoverSheetModel" "many" "I", .methodLink RX9 50 yX9_in, .static yX9_in, .code yX9_in cX9_in 3 (some .boolean), .methodLink RX9 69 yX9_isDay, .static yX9_isDay, .code yX9_isDay cX9_isDay 1 (some .boolean), .methodLink RX9 66 yX9_fails, .instanceMethod yX9_fails, .selects RX9 yX9_fails yX9_fails, .code yX9_fails cX9_fails 2 (some .int)] ++ wsX90)
def wsX9_countEntries : List Cond := .code yX9_countEntries cX9_countEntries 6 (some .int) :: ([.fieldLink RX9 47 "CoverSheetModel" "many" "I", .fieldLink RX9 26 "CoverSheetModel" "entries" "[I"] ++ wsX90)
def wsX9_gapOf : List Cond := .code yX9_gapOf cX9_gapOf 5 (some .int) :: ([.fieldLink RX9 20 "CoverSheetModel" "need" "[I", .methodLink RX9 75 yX9_countEntries, .instanceMethod yX9_countEntries, .selects RX9 yX9_countEntries yX9_countEntries, .initialized RX9, .code yX9_countEntries cX9_countEntries 6 (some .int), .fieldLink RX9 47 "CoverSheetModel" "many" "I", .fieldLink RX9 26 "CoverSheetModel" "entries" "[I"] ++ wsX90)
def wsX9_allGaps : List Cond := .code yX9_allGaps cX9_allGaps 4 (some .int) :: ([.methodLink RX9 79 yX9_gapOf, .instanceMethod yX9_gapOf, .selects RX9 yX9_gapOf yX9_gapOf, .initialized RX9, .code yX9_gapOf cX9_gapOf 5 (some .int), .fieldLink RX9 20 "CoverSheetModel" "need" "[I", .methodLink RX9 75 yX9_countEntries, .instanceMethod yX9_countEntries, .selects RX9 yX9_countEntries yX9_countEntries, .code yX9_countEntries cX9_countEntries 6 (some .int), .fieldLink RX9 47 "CoverSheetModel" "many" "I", .fieldLink RX9 26 "CoverSheetModel" "entries" "[I"] ++ wsX90)
def wsX9_fills : List Cond := .code yX9_fills cX9_fills 5 (some .int) :: ([.methodLink RX9 79 yX9_gapOf, .instanceMethod yX9_gapOf, .selects RX9 yX9_gapOf yX9_gapOf, .initialized RX9, .code yX9_gapOf cX9_gapOf 5 (some .int), .fieldLink RX9 20 "CoverSheetModel" "need" "[I", .methodLink RX9 75 yX9_countEntries, .instanceMethod yX9_countEntries, .selects RX9 yX9_countEntries yX9_countEntries, .code yX9_countEntries cX9_countEntries 6 (some .int), .fieldLink RX9 47 "CoverSheetModel" "many" "I", .fieldLink RX9 26 "CoverSheetModel" "entries" "[I"] ++ wsX90)
def wsX9_price : List Cond := .code yX9_price cX9_price 7 (some .int) :: ([.fieldLink RX9 41 "CoverSheetModel" "ends" "[I", .constant RX9 85 (100000), .methodLink RX9 58 yX9_entryOf, .static yX9_entryOf, .initialized RX9, .code yX9_entryOf cX9_entryOf 2 (some .int), .methodLink RX9 82 yX9_weekendOf, .static yX9_weekendOf, .code yX9_weekendOf cX9_weekendOf 1 (some .int), .methodLink RX9 62 yX9_countShifts, .static yX9_countShifts, .code yX9_countShifts cX9_countShifts 3 (some .int), .methodLink RX9 86 yX9_brokenBy, .instanceMethod yX9_brokenBy, .selects RX9 yX9_brokenBy yX9_brokenBy, .code yX9_brokenBy cX9_brokenBy 5 (some .int), .fieldLink RX9 32 "CoverSheetModel" "wished" "[I"] ++ wsX90)
def wsX9_choice_r1 : List Cond := [Cond.methodLink RX9 89 yX9_fills, Cond.instanceMethod yX9_fills, Cond.selects RX9 yX9_fills yX9_fills, Cond.initialized RX9, Cond.code yX9_fills cX9_fills 5 (some .int), Cond.methodLink RX9 79 yX9_gapOf, Cond.instanceMethod yX9_gapOf, Cond.selects RX9 yX9_gapOf yX9_gapOf, Cond.code yX9_gapOf cX9_gapOf 5 (some .int), Cond.fieldLink RX9 20 "CoverSheetModel" "need" "[I", Cond.methodLink RX9 75 yX9_countEntries, Cond.instanceMethod yX9_countEntries, Cond.selects RX9 yX9_countEntries yX9_countEntries, Cond.code yX9_countEntries cX9_countEntries 6 (some .int), Cond.fieldLink RX9 47 "CoverSheetModel" "many" "I", Cond.fieldLink RX9 26 "CoverSheetModel" "entries" "[I", Cond.methodLink RX9 92 yX9_isPossible, Cond.instanceMethod yX9_isPossible, Cond.selects RX9 yX9_isPossible yX9_isPossible, Cond.code yX9_isPossible cX9_isPossible 9 (some .boolean), Cond.fieldLink RX9 17 "CoverSheetModel" "most" "[I", Cond.fieldLink RX9 35 "CoverSheetModel" "last" "[I", Cond.fieldLink RX9 38 "CoverSheetModel" "before" "[I", Cond.fieldLink RX9 29 "CoverSheetModel" "fixed" "[I"]
def wsX9_choice_r2 : List Cond := [Cond.fieldLink RX9 13 "CoverSheetModel" "skills" "[I", Cond.fieldLink RX9 23 "CoverSheetModel" "barred" "[I", Cond.fieldLink RX9 7 "CoverSheetModel" "run" "I", Cond.methodLink RX9 62 yX9_countShifts, Cond.static yX9_countShifts, Cond.code yX9_countShifts cX9_countShifts 3 (some .int), Cond.methodLink RX9 58 yX9_entryOf, Cond.static yX9_entryOf, Cond.code yX9_entryOf cX9_entryOf 2 (some .int), Cond.methodLink RX9 96 yX9_price, Cond.instanceMethod yX9_price, Cond.selects RX9 yX9_price yX9_price, Cond.code yX9_price cX9_price 7 (some .int), Cond.fieldLink RX9 41 "CoverSheetModel" "ends" "[I", Cond.constant RX9 85 (100000), Cond.methodLink RX9 82 yX9_weekendOf, Cond.static yX9_weekendOf, Cond.code yX9_weekendOf cX9_weekendOf 1 (some .int), Cond.methodLink RX9 86 yX9_brokenBy, Cond.instanceMethod yX9_brokenBy, Cond.selects RX9 yX9_brokenBy yX9_brokenBy, Cond.code yX9_brokenBy cX9_brokenBy 5 (some .int), Cond.fieldLink RX9 32 "CoverSheetModel" "wished" "[I"]
def wsX9_choice : List Cond := .code yX9_choice cX9_choice 7 (some .int) :: ((wsX9_choice_r1 ++ wsX9_choice_r2) ++ wsX90)
def wsX9_plan_r1 : List Cond := [Cond.fieldLink RX9 44 "CoverSheetModel" "thrown" "I", Cond.fieldLink RX9 26 "CoverSheetModel" "entries" "[I", Cond.fieldLink RX9 99 "CoverSheetModel" "rounds" "I", Cond.fieldLink RX9 47 "CoverSheetModel" "many" "I", Cond.methodLink RX9 102 yX9_choice, Cond.instanceMethod yX9_choice, Cond.selects RX9 yX9_choice yX9_choice, Cond.initialized RX9, Cond.code yX9_choice cX9_choice 7 (some .int), Cond.methodLink RX9 89 yX9_fills, Cond.instanceMethod yX9_fills, Cond.selects RX9 yX9_fills yX9_fills, Cond.code yX9_fills cX9_fills 5 (some .int), Cond.methodLink RX9 79 yX9_gapOf, Cond.instanceMethod yX9_gapOf, Cond.selects RX9 yX9_gapOf yX9_gapOf, Cond.code yX9_gapOf cX9_gapOf 5 (some .int), Cond.fieldLink RX9 20 "CoverSheetModel" "need" "[I", Cond.methodLink RX9 75 yX9_countEntries, Cond.instanceMethod yX9_countEntries, Cond.selects RX9 yX9_countEntries yX9_countEntries, Cond.code yX9_countEntries cX9_countEntries 6 (some .int), Cond.methodLink RX9 92 yX9_isPossible, Cond.instanceMethod yX9_isPossible]
def wsX9_plan_r2 : List Cond := [Cond.selects RX9 yX9_isPossible yX9_isPossible, Cond.code yX9_isPossible cX9_isPossible 9 (some .boolean), Cond.fieldLink RX9 17 "CoverSheetModel" "most" "[I", Cond.fieldLink RX9 35 "CoverSheetModel" "last" "[I", Cond.fieldLink RX9 38 "CoverSheetModel" "before" "[I", Cond.fieldLink RX9 29 "CoverSheetModel" "fixed" "[I", Cond.fieldLink RX9 13 "CoverSheetModel" "skills" "[I", Cond.fieldLink RX9 23 "CoverSheetModel" "barred" "[I", Cond.fieldLink RX9 7 "CoverSheetModel" "run" "I", Cond.methodLink RX9 62 yX9_countShifts, Cond.static yX9_countShifts, Cond.code yX9_countShifts cX9_countShifts 3 (some .int), Cond.methodLink RX9 58 yX9_entryOf, Cond.static yX9_entryOf, Cond.code yX9_entryOf cX9_entryOf 2 (some .int), Cond.methodLink RX9 96 yX9_price, Cond.instanceMethod yX9_price, Cond.selects RX9 yX9_price yX9_price, Cond.code yX9_price cX9_price 7 (some .int), Cond.fieldLink RX9 41 "CoverSheetModel" "ends" "[I", Cond.constant RX9 85 (100000), Cond.methodLink RX9 82 yX9_weekendOf, Cond.static yX9_weekendOf, Cond.code yX9_weekendOf cX9_weekendOf 1 (some .int)]
def wsX9_plan_r3 : List Cond := [Cond.methodLink RX9 86 yX9_brokenBy, Cond.instanceMethod yX9_brokenBy, Cond.selects RX9 yX9_brokenBy yX9_brokenBy, Cond.code yX9_brokenBy cX9_brokenBy 5 (some .int), Cond.fieldLink RX9 32 "CoverSheetModel" "wished" "[I", Cond.methodLink RX9 105 yX9_weekOf, Cond.instanceMethod yX9_weekOf, Cond.selects RX9 yX9_weekOf yX9_weekOf, Cond.code yX9_weekOf cX9_weekOf 4 (some .int), Cond.methodLink RX9 108 yX9_enter, Cond.instanceMethod yX9_enter, Cond.selects RX9 yX9_enter yX9_enter, Cond.code yX9_enter cX9_enter 4 none, Cond.methodLink RX9 112 yX9_allGaps, Cond.instanceMethod yX9_allGaps, Cond.selects RX9 yX9_allGaps yX9_allGaps, Cond.code yX9_allGaps cX9_allGaps 4 (some .int)]
def wsX9_plan : List Cond := .code yX9_plan cX9_plan 4 (some .int) :: ((wsX9_plan_r1 ++ (wsX9_plan_r2 ++ wsX9_plan_r3)) ++ wsX90)
def wsX9_rounds : List Cond := .code yX9_rounds cX9_rounds 1 (some .int) :: ([.fieldLink RX9 44 "CoverSheetModel" "thrown" "I", .fieldLink RX9 99 "CoverSheetModel" "rounds" "I"] ++ wsX90)
def wsX9_set_r1 : List Cond := [Cond.fieldLink RX9 44 "CoverSheetModel" "thrown" "I", Cond.fieldLink RX9 26 "CoverSheetModel" "entries" "[I", Cond.methodLink RX9 54 yX9_isPerson, Cond.instanceMethod yX9_isPerson, Cond.selects RX9 yX9_isPerson yX9_isPerson, Cond.initialized RX9, Cond.code yX9_isPerson cX9_isPerson 2 (some .boolean), Cond.fieldLink RX9 47 "CoverSheetModel" "many" "I", Cond.methodLink RX9 50 yX9_in, Cond.static yX9_in, Cond.code yX9_in cX9_in 3 (some .boolean), Cond.methodLink RX9 69 yX9_isDay, Cond.static yX9_isDay, Cond.code yX9_isDay cX9_isDay 1 (some .boolean), Cond.methodLink RX9 66 yX9_fails, Cond.instanceMethod yX9_fails, Cond.selects RX9 yX9_fails yX9_fails, Cond.code yX9_fails cX9_fails 2 (some .int), Cond.methodLink RX9 105 yX9_weekOf, Cond.instanceMethod yX9_weekOf, Cond.selects RX9 yX9_weekOf yX9_weekOf, Cond.code yX9_weekOf cX9_weekOf 4 (some .int), Cond.methodLink RX9 116 yX9_with, Cond.static yX9_with]
def wsX9_set_r2 : List Cond := [Cond.code yX9_with cX9_with 3 (some .int), Cond.methodLink RX9 58 yX9_entryOf, Cond.static yX9_entryOf, Cond.code yX9_entryOf cX9_entryOf 2 (some .int), Cond.methodLink RX9 92 yX9_isPossible, Cond.instanceMethod yX9_isPossible, Cond.selects RX9 yX9_isPossible yX9_isPossible, Cond.code yX9_isPossible cX9_isPossible 9 (some .boolean), Cond.fieldLink RX9 17 "CoverSheetModel" "most" "[I", Cond.fieldLink RX9 35 "CoverSheetModel" "last" "[I", Cond.fieldLink RX9 38 "CoverSheetModel" "before" "[I", Cond.fieldLink RX9 29 "CoverSheetModel" "fixed" "[I", Cond.fieldLink RX9 13 "CoverSheetModel" "skills" "[I", Cond.fieldLink RX9 23 "CoverSheetModel" "barred" "[I", Cond.fieldLink RX9 7 "CoverSheetModel" "run" "I", Cond.methodLink RX9 62 yX9_countShifts, Cond.static yX9_countShifts, Cond.code yX9_countShifts cX9_countShifts 3 (some .int)]
def wsX9_set : List Cond := .code yX9_set cX9_set 5 (some .int) :: ((wsX9_set_r1 ++ wsX9_set_r2) ++ wsX90)
def wsX9_canSwap_r1 : List Cond := [Cond.fieldLink RX9 26 "CoverSheetModel" "entries" "[I", Cond.methodLink RX9 105 yX9_weekOf, Cond.instanceMethod yX9_weekOf, Cond.selects RX9 yX9_weekOf yX9_weekOf, Cond.initialized RX9, Cond.code yX9_weekOf cX9_weekOf 4 (some .int), Cond.methodLink RX9 116 yX9_with, Cond.static yX9_with, Cond.code yX9_with cX9_with 3 (some .int), Cond.methodLink RX9 58 yX9_entryOf, Cond.static yX9_entryOf, Cond.code yX9_entryOf cX9_entryOf 2 (some .int), Cond.methodLink RX9 92 yX9_isPossible, Cond.instanceMethod yX9_isPossible, Cond.selects RX9 yX9_isPossible yX9_isPossible, Cond.code yX9_isPossible cX9_isPossible 9 (some .boolean), Cond.fieldLink RX9 17 "CoverSheetModel" "most" "[I", Cond.fieldLink RX9 35 "CoverSheetModel" "last" "[I", Cond.fieldLink RX9 38 "CoverSheetModel" "before" "[I", Cond.fieldLink RX9 29 "CoverSheetModel" "fixed" "[I", Cond.fieldLink RX9 13 "CoverSheetModel" "skills" "[I", Cond.fieldLink RX9 23 "CoverSheetModel" "barred" "[I", Cond.fieldLink RX9 7 "CoverSheetModel" "run" "I", Cond.methodLink RX9 62 yX9_countShifts]
def wsX9_canSwap_r2 : List Cond := [Cond.static yX9_countShifts, Cond.code yX9_countShifts cX9_countShifts 3 (some .int)]
def wsX9_canSwap : List Cond := .code yX9_canSwap cX9_canSwap 6 (some .boolean) :: ((wsX9_canSwap_r1 ++ wsX9_canSwap_r2) ++ wsX90)
def wsX9_swap_r1 : List Cond := [Cond.fieldLink RX9 44 "CoverSheetModel" "thrown" "I", Cond.fieldLink RX9 26 "CoverSheetModel" "entries" "[I", Cond.methodLink RX9 54 yX9_isPerson, Cond.instanceMethod yX9_isPerson, Cond.selects RX9 yX9_isPerson yX9_isPerson, Cond.initialized RX9, Cond.code yX9_isPerson cX9_isPerson 2 (some .boolean), Cond.fieldLink RX9 47 "CoverSheetModel" "many" "I", Cond.methodLink RX9 50 yX9_in, Cond.static yX9_in, Cond.code yX9_in cX9_in 3 (some .boolean), Cond.methodLink RX9 69 yX9_isDay, Cond.static yX9_isDay, Cond.code yX9_isDay cX9_isDay 1 (some .boolean), Cond.methodLink RX9 66 yX9_fails, Cond.instanceMethod yX9_fails, Cond.selects RX9 yX9_fails yX9_fails, Cond.code yX9_fails cX9_fails 2 (some .int), Cond.methodLink RX9 119 yX9_canSwap, Cond.instanceMethod yX9_canSwap, Cond.selects RX9 yX9_canSwap yX9_canSwap, Cond.code yX9_canSwap cX9_canSwap 6 (some .boolean), Cond.methodLink RX9 105 yX9_weekOf, Cond.instanceMethod yX9_weekOf]
def wsX9_swap_r2 : List Cond := [Cond.selects RX9 yX9_weekOf yX9_weekOf, Cond.code yX9_weekOf cX9_weekOf 4 (some .int), Cond.methodLink RX9 116 yX9_with, Cond.static yX9_with, Cond.code yX9_with cX9_with 3 (some .int), Cond.methodLink RX9 58 yX9_entryOf, Cond.static yX9_entryOf, Cond.code yX9_entryOf cX9_entryOf 2 (some .int), Cond.methodLink RX9 92 yX9_isPossible, Cond.instanceMethod yX9_isPossible, Cond.selects RX9 yX9_isPossible yX9_isPossible, Cond.code yX9_isPossible cX9_isPossible 9 (some .boolean), Cond.fieldLink RX9 17 "CoverSheetModel" "most" "[I", Cond.fieldLink RX9 35 "CoverSheetModel" "last" "[I", Cond.fieldLink RX9 38 "CoverSheetModel" "before" "[I", Cond.fieldLink RX9 29 "CoverSheetModel" "fixed" "[I", Cond.fieldLink RX9 13 "CoverSheetModel" "skills" "[I", Cond.fieldLink RX9 23 "CoverSheetModel" "barred" "[I", Cond.fieldLink RX9 7 "CoverSheetModel" "run" "I", Cond.methodLink RX9 62 yX9_countShifts, Cond.static yX9_countShifts, Cond.code yX9_countShifts cX9_countShifts 3 (some .int), Cond.methodLink RX9 86 yX9_brokenBy, Cond.instanceMethod yX9_brokenBy]
def wsX9_swap_r3 : List Cond := [Cond.selects RX9 yX9_brokenBy yX9_brokenBy, Cond.code yX9_brokenBy cX9_brokenBy 5 (some .int), Cond.fieldLink RX9 32 "CoverSheetModel" "wished" "[I"]
def wsX9_swap : List Cond := .code yX9_swap cX9_swap 5 (some .int) :: ((wsX9_swap_r1 ++ (wsX9_swap_r2 ++ wsX9_swap_r3)) ++ wsX90)
def wsX9_closeWeek : List Cond := .code yX9_closeWeek cX9_closeWeek 4 (some .int) :: ([.fieldLink RX9 44 "CoverSheetModel" "thrown" "I", .fieldLink RX9 47 "CoverSheetModel" "many" "I", .fieldLink RX9 38 "CoverSheetModel" "before" "[I", .fieldLink RX9 29 "CoverSheetModel" "fixed" "[I", .fieldLink RX9 35 "CoverSheetModel" "last" "[I", .fieldLink RX9 41 "CoverSheetModel" "ends" "[I", .fieldLink RX9 32 "CoverSheetModel" "wished" "[I", .fieldLink RX9 122 "CoverSheetModel" "closed" "I", .methodLink RX9 105 yX9_weekOf, .instanceMethod yX9_weekOf, .selects RX9 yX9_weekOf yX9_weekOf, .initialized RX9, .code yX9_weekOf cX9_weekOf 4 (some .int), .fieldLink RX9 26 "CoverSheetModel" "entries" "[I", .methodLink RX9 58 yX9_entryOf, .static yX9_entryOf, .code yX9_entryOf cX9_entryOf 2 (some .int), .methodLink RX9 82 yX9_weekendOf, .static yX9_weekendOf, .code yX9_weekendOf cX9_weekendOf 1 (some .int), .methodLink RX9 108 yX9_enter, .instanceMethod yX9_enter, .selects RX9 yX9_enter yX9_enter, .code yX9_enter cX9_enter 4 none] ++ wsX90)
def wsX9_people : List Cond := .code yX9_people cX9_people 1 (some .int) :: ([.fieldLink RX9 44 "CoverSheetModel" "thrown" "I", .fieldLink RX9 47 "CoverSheetModel" "many" "I"] ++ wsX90)
def wsX9_entry : List Cond := .code yX9_entry cX9_entry 3 (some .int) :: ([.fieldLink RX9 44 "CoverSheetModel" "thrown" "I", .fieldLink RX9 26 "CoverSheetModel" "entries" "[I", .methodLink RX9 54 yX9_isPerson, .instanceMethod yX9_isPerson, .selects RX9 yX9_isPerson yX9_isPerson, .initialized RX9, .code yX9_isPerson cX9_isPerson 2 (some .boolean), .fieldLink RX9 47 "CoverSheetModel" "many" "I", .methodLink RX9 50 yX9_in, .static yX9_in, .code yX9_in cX9_in 3 (some .boolean), .methodLink RX9 69 yX9_isDay, .static yX9_isDay, .code yX9_isDay cX9_isDay 1 (some .boolean), .methodLink RX9 66 yX9_fails, .instanceMethod yX9_fails, .selects RX9 yX9_fails yX9_fails, .code yX9_fails cX9_fails 2 (some .int)] ++ wsX90)
def wsX9_gaps : List Cond := .code yX9_gaps cX9_gaps 1 (some .int) :: ([.fieldLink RX9 44 "CoverSheetModel" "thrown" "I", .methodLink RX9 112 yX9_allGaps, .instanceMethod yX9_allGaps, .selects RX9 yX9_allGaps yX9_allGaps, .initialized RX9, .code yX9_allGaps cX9_allGaps 4 (some .int), .methodLink RX9 79 yX9_gapOf, .instanceMethod yX9_gapOf, .selects RX9 yX9_gapOf yX9_gapOf, .code yX9_gapOf cX9_gapOf 5 (some .int), .fieldLink RX9 20 "CoverSheetModel" "need" "[I", .methodLink RX9 75 yX9_countEntries, .instanceMethod yX9_countEntries, .selects RX9 yX9_countEntries yX9_countEntries, .code yX9_countEntries cX9_countEntries 6 (some .int), .fieldLink RX9 47 "CoverSheetModel" "many" "I", .fieldLink RX9 26 "CoverSheetModel" "entries" "[I"] ++ wsX90)
def wsX9_gap_r1 : List Cond := [Cond.fieldLink RX9 44 "CoverSheetModel" "thrown" "I", Cond.methodLink RX9 69 yX9_isDay, Cond.static yX9_isDay, Cond.initialized RX9, Cond.code yX9_isDay cX9_isDay 1 (some .boolean), Cond.methodLink RX9 50 yX9_in, Cond.static yX9_in, Cond.code yX9_in cX9_in 3 (some .boolean), Cond.methodLink RX9 72 yX9_isKind, Cond.static yX9_isKind, Cond.code yX9_isKind cX9_isKind 1 (some .boolean), Cond.methodLink RX9 79 yX9_gapOf, Cond.instanceMethod yX9_gapOf, Cond.selects RX9 yX9_gapOf yX9_gapOf, Cond.code yX9_gapOf cX9_gapOf 5 (some .int), Cond.fieldLink RX9 20 "CoverSheetModel" "need" "[I", Cond.methodLink RX9 75 yX9_countEntries, Cond.instanceMethod yX9_countEntries, Cond.selects RX9 yX9_countEntries yX9_countEntries, Cond.code yX9_countEntries cX9_countEntries 6 (some .int), Cond.fieldLink RX9 47 "CoverSheetModel" "many" "I", Cond.fieldLink RX9 26 "CoverSheetModel" "entries" "[I", Cond.methodLink RX9 66 yX9_fails, Cond.instanceMethod yX9_fails]
def wsX9_gap_r2 : List Cond := [Cond.selects RX9 yX9_fails yX9_fails, Cond.code yX9_fails cX9_fails 2 (some .int)]
def wsX9_gap : List Cond := .code yX9_gap cX9_gap 3 (some .int) :: ((wsX9_gap_r1 ++ wsX9_gap_r2) ++ wsX90)
def wsX9_shifts_r1 : List Cond := [Cond.methodLink RX9 125 yX9_isAsked, Cond.instanceMethod yX9_isAsked, Cond.selects RX9 yX9_isAsked yX9_isAsked, Cond.initialized RX9, Cond.code yX9_isAsked cX9_isAsked 2 (some .boolean), Cond.fieldLink RX9 44 "CoverSheetModel" "thrown" "I", Cond.methodLink RX9 54 yX9_isPerson, Cond.instanceMethod yX9_isPerson, Cond.selects RX9 yX9_isPerson yX9_isPerson, Cond.code yX9_isPerson cX9_isPerson 2 (some .boolean), Cond.fieldLink RX9 47 "CoverSheetModel" "many" "I", Cond.methodLink RX9 50 yX9_in, Cond.static yX9_in, Cond.code yX9_in cX9_in 3 (some .boolean), Cond.methodLink RX9 105 yX9_weekOf, Cond.instanceMethod yX9_weekOf, Cond.selects RX9 yX9_weekOf yX9_weekOf, Cond.code yX9_weekOf cX9_weekOf 4 (some .int), Cond.fieldLink RX9 26 "CoverSheetModel" "entries" "[I", Cond.methodLink RX9 62 yX9_countShifts, Cond.static yX9_countShifts, Cond.code yX9_countShifts cX9_countShifts 3 (some .int), Cond.methodLink RX9 58 yX9_entryOf, Cond.static yX9_entryOf]
def wsX9_shifts_r2 : List Cond := [Cond.code yX9_entryOf cX9_entryOf 2 (some .int)]
def wsX9_shifts : List Cond := .code yX9_shifts cX9_shifts 2 (some .int) :: ((wsX9_shifts_r1 ++ wsX9_shifts_r2) ++ wsX90)
def wsX9_weekends : List Cond := .code yX9_weekends cX9_weekends 2 (some .int) :: ([.fieldLink RX9 41 "CoverSheetModel" "ends" "[I", .methodLink RX9 125 yX9_isAsked, .instanceMethod yX9_isAsked, .selects RX9 yX9_isAsked yX9_isAsked, .initialized RX9, .code yX9_isAsked cX9_isAsked 2 (some .boolean), .fieldLink RX9 44 "CoverSheetModel" "thrown" "I", .methodLink RX9 54 yX9_isPerson, .instanceMethod yX9_isPerson, .selects RX9 yX9_isPerson yX9_isPerson, .code yX9_isPerson cX9_isPerson 2 (some .boolean), .fieldLink RX9 47 "CoverSheetModel" "many" "I", .methodLink RX9 50 yX9_in, .static yX9_in, .code yX9_in cX9_in 3 (some .boolean)] ++ wsX90)
def wsX9_broken_r1 : List Cond := [Cond.methodLink RX9 125 yX9_isAsked, Cond.instanceMethod yX9_isAsked, Cond.selects RX9 yX9_isAsked yX9_isAsked, Cond.initialized RX9, Cond.code yX9_isAsked cX9_isAsked 2 (some .boolean), Cond.fieldLink RX9 44 "CoverSheetModel" "thrown" "I", Cond.methodLink RX9 54 yX9_isPerson, Cond.instanceMethod yX9_isPerson, Cond.selects RX9 yX9_isPerson yX9_isPerson, Cond.code yX9_isPerson cX9_isPerson 2 (some .boolean), Cond.fieldLink RX9 47 "CoverSheetModel" "many" "I", Cond.methodLink RX9 50 yX9_in, Cond.static yX9_in, Cond.code yX9_in cX9_in 3 (some .boolean), Cond.methodLink RX9 105 yX9_weekOf, Cond.instanceMethod yX9_weekOf, Cond.selects RX9 yX9_weekOf yX9_weekOf, Cond.code yX9_weekOf cX9_weekOf 4 (some .int), Cond.fieldLink RX9 26 "CoverSheetModel" "entries" "[I", Cond.methodLink RX9 86 yX9_brokenBy, Cond.instanceMethod yX9_brokenBy, Cond.selects RX9 yX9_brokenBy yX9_brokenBy, Cond.code yX9_brokenBy cX9_brokenBy 5 (some .int), Cond.fieldLink RX9 32 "CoverSheetModel" "wished" "[I"]
def wsX9_broken_r2 : List Cond := [Cond.methodLink RX9 58 yX9_entryOf, Cond.static yX9_entryOf, Cond.code yX9_entryOf cX9_entryOf 2 (some .int)]
def wsX9_broken : List Cond := .code yX9_broken cX9_broken 2 (some .int) :: ((wsX9_broken_r1 ++ wsX9_broken_r2) ++ wsX90)
def wsX9_runBefore : List Cond := .code yX9_runBefore cX9_runBefore 2 (some .int) :: ([.fieldLink RX9 38 "CoverSheetModel" "before" "[I", .methodLink RX9 125 yX9_isAsked, .instanceMethod yX9_isAsked, .selects RX9 yX9_isAsked yX9_isAsked, .initialized RX9, .code yX9_isAsked cX9_isAsked 2 (some .boolean), .fieldLink RX9 44 "CoverSheetModel" "thrown" "I", .methodLink RX9 54 yX9_isPerson, .instanceMethod yX9_isPerson, .selects RX9 yX9_isPerson yX9_isPerson, .code yX9_isPerson cX9_isPerson 2 (some .boolean), .fieldLink RX9 47 "CoverSheetModel" "many" "I", .methodLink RX9 50 yX9_in, .static yX9_in, .code yX9_in cX9_in 3 (some .boolean)] ++ wsX90)
def wsX9_isFeasible_r1 : List Cond := [Cond.methodLink RX9 125 yX9_isAsked, Cond.instanceMethod yX9_isAsked, Cond.selects RX9 yX9_isAsked yX9_isAsked, Cond.initialized RX9, Cond.code yX9_isAsked cX9_isAsked 2 (some .boolean), Cond.fieldLink RX9 44 "CoverSheetModel" "thrown" "I", Cond.methodLink RX9 54 yX9_isPerson, Cond.instanceMethod yX9_isPerson, Cond.selects RX9 yX9_isPerson yX9_isPerson, Cond.code yX9_isPerson cX9_isPerson 2 (some .boolean), Cond.fieldLink RX9 47 "CoverSheetModel" "many" "I", Cond.methodLink RX9 50 yX9_in, Cond.static yX9_in, Cond.code yX9_in cX9_in 3 (some .boolean), Cond.methodLink RX9 105 yX9_weekOf, Cond.instanceMethod yX9_weekOf, Cond.selects RX9 yX9_weekOf yX9_weekOf, Cond.code yX9_weekOf cX9_weekOf 4 (some .int), Cond.fieldLink RX9 26 "CoverSheetModel" "entries" "[I", Cond.methodLink RX9 92 yX9_isPossible, Cond.instanceMethod yX9_isPossible, Cond.selects RX9 yX9_isPossible yX9_isPossible, Cond.code yX9_isPossible cX9_isPossible 9 (some .boolean), Cond.fieldLink RX9 17 "CoverSheetModel" "most" "[I"]
def wsX9_isFeasible_r2 : List Cond := [Cond.fieldLink RX9 35 "CoverSheetModel" "last" "[I", Cond.fieldLink RX9 38 "CoverSheetModel" "before" "[I", Cond.fieldLink RX9 29 "CoverSheetModel" "fixed" "[I", Cond.fieldLink RX9 13 "CoverSheetModel" "skills" "[I", Cond.fieldLink RX9 23 "CoverSheetModel" "barred" "[I", Cond.fieldLink RX9 7 "CoverSheetModel" "run" "I", Cond.methodLink RX9 62 yX9_countShifts, Cond.static yX9_countShifts, Cond.code yX9_countShifts cX9_countShifts 3 (some .int), Cond.methodLink RX9 58 yX9_entryOf, Cond.static yX9_entryOf, Cond.code yX9_entryOf cX9_entryOf 2 (some .int)]
def wsX9_isFeasible : List Cond := .code yX9_isFeasible cX9_isFeasible 2 (some .boolean) :: ((wsX9_isFeasible_r1 ++ wsX9_isFeasible_r2) ++ wsX90)
def wsX9_countWeeks : List Cond := .code yX9_countWeeks cX9_countWeeks 4 (some .int) :: ([.methodLink RX9 92 yX9_isPossible, .instanceMethod yX9_isPossible, .selects RX9 yX9_isPossible yX9_isPossible, .initialized RX9, .code yX9_isPossible cX9_isPossible 9 (some .boolean), .fieldLink RX9 17 "CoverSheetModel" "most" "[I", .fieldLink RX9 35 "CoverSheetModel" "last" "[I", .fieldLink RX9 38 "CoverSheetModel" "before" "[I", .fieldLink RX9 29 "CoverSheetModel" "fixed" "[I", .fieldLink RX9 13 "CoverSheetModel" "skills" "[I", .fieldLink RX9 23 "CoverSheetModel" "barred" "[I", .fieldLink RX9 7 "CoverSheetModel" "run" "I", .methodLink RX9 62 yX9_countShifts, .static yX9_countShifts, .code yX9_countShifts cX9_countShifts 3 (some .int), .methodLink RX9 58 yX9_entryOf, .static yX9_entryOf, .code yX9_entryOf cX9_entryOf 2 (some .int)] ++ wsX90)
def wsX9_weeks_r1 : List Cond := [Cond.methodLink RX9 125 yX9_isAsked, Cond.instanceMethod yX9_isAsked, Cond.selects RX9 yX9_isAsked yX9_isAsked, Cond.initialized RX9, Cond.code yX9_isAsked cX9_isAsked 2 (some .boolean), Cond.fieldLink RX9 44 "CoverSheetModel" "thrown" "I", Cond.methodLink RX9 54 yX9_isPerson, Cond.instanceMethod yX9_isPerson, Cond.selects RX9 yX9_isPerson yX9_isPerson, Cond.code yX9_isPerson cX9_isPerson 2 (some .boolean), Cond.fieldLink RX9 47 "CoverSheetModel" "many" "I", Cond.methodLink RX9 50 yX9_in, Cond.static yX9_in, Cond.code yX9_in cX9_in 3 (some .boolean), Cond.methodLink RX9 128 yX9_countWeeks, Cond.instanceMethod yX9_countWeeks, Cond.selects RX9 yX9_countWeeks yX9_countWeeks, Cond.code yX9_countWeeks cX9_countWeeks 4 (some .int), Cond.methodLink RX9 92 yX9_isPossible, Cond.instanceMethod yX9_isPossible, Cond.selects RX9 yX9_isPossible yX9_isPossible, Cond.code yX9_isPossible cX9_isPossible 9 (some .boolean), Cond.fieldLink RX9 17 "CoverSheetModel" "most" "[I", Cond.fieldLink RX9 35 "CoverSheetModel" "last" "[I"]
def wsX9_weeks_r2 : List Cond := [Cond.fieldLink RX9 38 "CoverSheetModel" "before" "[I", Cond.fieldLink RX9 29 "CoverSheetModel" "fixed" "[I", Cond.fieldLink RX9 13 "CoverSheetModel" "skills" "[I", Cond.fieldLink RX9 23 "CoverSheetModel" "barred" "[I", Cond.fieldLink RX9 7 "CoverSheetModel" "run" "I", Cond.methodLink RX9 62 yX9_countShifts, Cond.static yX9_countShifts, Cond.code yX9_countShifts cX9_countShifts 3 (some .int), Cond.methodLink RX9 58 yX9_entryOf, Cond.static yX9_entryOf, Cond.code yX9_entryOf cX9_entryOf 2 (some .int)]
def wsX9_weeks : List Cond := .code yX9_weeks cX9_weeks 2 (some .int) :: ((wsX9_weeks_r1 ++ wsX9_weeks_r2) ++ wsX90)
def wsX9_weeksByDays_r1 : List Cond := [Cond.methodLink RX9 125 yX9_isAsked, Cond.instanceMethod yX9_isAsked, Cond.selects RX9 yX9_isAsked yX9_isAsked, Cond.initialized RX9, Cond.code yX9_isAsked cX9_isAsked 2 (some .boolean), Cond.fieldLink RX9 44 "CoverSheetModel" "thrown" "I", Cond.methodLink RX9 54 yX9_isPerson, Cond.instanceMethod yX9_isPerson, Cond.selects RX9 yX9_isPerson yX9_isPerson, Cond.code yX9_isPerson cX9_isPerson 2 (some .boolean), Cond.fieldLink RX9 47 "CoverSheetModel" "many" "I", Cond.methodLink RX9 50 yX9_in, Cond.static yX9_in, Cond.code yX9_in cX9_in 3 (some .boolean), Cond.methodLink RX9 128 yX9_countWeeks, Cond.instanceMethod yX9_countWeeks, Cond.selects RX9 yX9_countWeeks yX9_countWeeks, Cond.code yX9_countWeeks cX9_countWeeks 4 (some .int), Cond.methodLink RX9 92 yX9_isPossible, Cond.instanceMethod yX9_isPossible, Cond.selects RX9 yX9_isPossible yX9_isPossible, Cond.code yX9_isPossible cX9_isPossible 9 (some .boolean), Cond.fieldLink RX9 17 "CoverSheetModel" "most" "[I", Cond.fieldLink RX9 35 "CoverSheetModel" "last" "[I"]
def wsX9_weeksByDays_r2 : List Cond := [Cond.fieldLink RX9 38 "CoverSheetModel" "before" "[I", Cond.fieldLink RX9 29 "CoverSheetModel" "fixed" "[I", Cond.fieldLink RX9 13 "CoverSheetModel" "skills" "[I", Cond.fieldLink RX9 23 "CoverSheetModel" "barred" "[I", Cond.fieldLink RX9 7 "CoverSheetModel" "run" "I", Cond.methodLink RX9 62 yX9_countShifts, Cond.static yX9_countShifts, Cond.code yX9_countShifts cX9_countShifts 3 (some .int), Cond.methodLink RX9 58 yX9_entryOf, Cond.static yX9_entryOf, Cond.code yX9_entryOf cX9_entryOf 2 (some .int)]
def wsX9_weeksByDays : List Cond := .code yX9_weeksByDays cX9_weeksByDays 2 (some .int) :: ((wsX9_weeksByDays_r1 ++ wsX9_weeksByDays_r2) ++ wsX90)
def wsX9_couldTake_r1 : List Cond := [Cond.fieldLink RX9 44 "CoverSheetModel" "thrown" "I", Cond.fieldLink RX9 47 "CoverSheetModel" "many" "I", Cond.fieldLink RX9 26 "CoverSheetModel" "entries" "[I", Cond.methodLink RX9 69 yX9_isDay, Cond.static yX9_isDay, Cond.initialized RX9, Cond.code yX9_isDay cX9_isDay 1 (some .boolean), Cond.methodLink RX9 50 yX9_in, Cond.static yX9_in, Cond.code yX9_in cX9_in 3 (some .boolean), Cond.methodLink RX9 72 yX9_isKind, Cond.static yX9_isKind, Cond.code yX9_isKind cX9_isKind 1 (some .boolean), Cond.methodLink RX9 66 yX9_fails, Cond.instanceMethod yX9_fails, Cond.selects RX9 yX9_fails yX9_fails, Cond.code yX9_fails cX9_fails 2 (some .int), Cond.methodLink RX9 105 yX9_weekOf, Cond.instanceMethod yX9_weekOf, Cond.selects RX9 yX9_weekOf yX9_weekOf, Cond.code yX9_weekOf cX9_weekOf 4 (some .int), Cond.methodLink RX9 116 yX9_with, Cond.static yX9_with, Cond.code yX9_with cX9_with 3 (some .int)]
def wsX9_couldTake_r2 : List Cond := [Cond.methodLink RX9 58 yX9_entryOf, Cond.static yX9_entryOf, Cond.code yX9_entryOf cX9_entryOf 2 (some .int), Cond.methodLink RX9 92 yX9_isPossible, Cond.instanceMethod yX9_isPossible, Cond.selects RX9 yX9_isPossible yX9_isPossible, Cond.code yX9_isPossible cX9_isPossible 9 (some .boolean), Cond.fieldLink RX9 17 "CoverSheetModel" "most" "[I", Cond.fieldLink RX9 35 "CoverSheetModel" "last" "[I", Cond.fieldLink RX9 38 "CoverSheetModel" "before" "[I", Cond.fieldLink RX9 29 "CoverSheetModel" "fixed" "[I", Cond.fieldLink RX9 13 "CoverSheetModel" "skills" "[I", Cond.fieldLink RX9 23 "CoverSheetModel" "barred" "[I", Cond.fieldLink RX9 7 "CoverSheetModel" "run" "I", Cond.methodLink RX9 62 yX9_countShifts, Cond.static yX9_countShifts, Cond.code yX9_countShifts cX9_countShifts 3 (some .int)]
def wsX9_couldTake : List Cond := .code yX9_couldTake cX9_couldTake 6 (some .int) :: ((wsX9_couldTake_r1 ++ wsX9_couldTake_r2) ++ wsX90)
def wsX9_swapFor_r1 : List Cond := [Cond.fieldLink RX9 44 "CoverSheetModel" "thrown" "I", Cond.fieldLink RX9 47 "CoverSheetModel" "many" "I", Cond.fieldLink RX9 26 "CoverSheetModel" "entries" "[I", Cond.methodLink RX9 54 yX9_isPerson, Cond.instanceMethod yX9_isPerson, Cond.selects RX9 yX9_isPerson yX9_isPerson, Cond.initialized RX9, Cond.code yX9_isPerson cX9_isPerson 2 (some .boolean), Cond.methodLink RX9 50 yX9_in, Cond.static yX9_in, Cond.code yX9_in cX9_in 3 (some .boolean), Cond.methodLink RX9 69 yX9_isDay, Cond.static yX9_isDay, Cond.code yX9_isDay cX9_isDay 1 (some .boolean), Cond.methodLink RX9 66 yX9_fails, Cond.instanceMethod yX9_fails, Cond.selects RX9 yX9_fails yX9_fails, Cond.code yX9_fails cX9_fails 2 (some .int), Cond.methodLink RX9 119 yX9_canSwap, Cond.instanceMethod yX9_canSwap, Cond.selects RX9 yX9_canSwap yX9_canSwap, Cond.code yX9_canSwap cX9_canSwap 6 (some .boolean), Cond.methodLink RX9 105 yX9_weekOf, Cond.instanceMethod yX9_weekOf]
def wsX9_swapFor_r2 : List Cond := [Cond.selects RX9 yX9_weekOf yX9_weekOf, Cond.code yX9_weekOf cX9_weekOf 4 (some .int), Cond.methodLink RX9 116 yX9_with, Cond.static yX9_with, Cond.code yX9_with cX9_with 3 (some .int), Cond.methodLink RX9 58 yX9_entryOf, Cond.static yX9_entryOf, Cond.code yX9_entryOf cX9_entryOf 2 (some .int), Cond.methodLink RX9 92 yX9_isPossible, Cond.instanceMethod yX9_isPossible, Cond.selects RX9 yX9_isPossible yX9_isPossible, Cond.code yX9_isPossible cX9_isPossible 9 (some .boolean), Cond.fieldLink RX9 17 "CoverSheetModel" "most" "[I", Cond.fieldLink RX9 35 "CoverSheetModel" "last" "[I", Cond.fieldLink RX9 38 "CoverSheetModel" "before" "[I", Cond.fieldLink RX9 29 "CoverSheetModel" "fixed" "[I", Cond.fieldLink RX9 13 "CoverSheetModel" "skills" "[I", Cond.fieldLink RX9 23 "CoverSheetModel" "barred" "[I", Cond.fieldLink RX9 7 "CoverSheetModel" "run" "I", Cond.methodLink RX9 62 yX9_countShifts, Cond.static yX9_countShifts, Cond.code yX9_countShifts cX9_countShifts 3 (some .int)]
def wsX9_swapFor : List Cond := .code yX9_swapFor cX9_swapFor 8 (some .int) :: ((wsX9_swapFor_r1 ++ wsX9_swapFor_r2) ++ wsX90)
def wsX9_lacking : List Cond := .code yX9_lacking cX9_lacking 6 (some .int) :: ([.fieldLink RX9 20 "CoverSheetModel" "need" "[I", .fieldLink RX9 47 "CoverSheetModel" "many" "I", .fieldLink RX9 13 "CoverSheetModel" "skills" "[I"] ++ wsX90)
def wsX9_bound : List Cond := .code yX9_bound cX9_bound 3 (some .int) :: ([.fieldLink RX9 44 "CoverSheetModel" "thrown" "I", .methodLink RX9 131 yX9_lacking, .instanceMethod yX9_lacking, .selects RX9 yX9_lacking yX9_lacking, .initialized RX9, .code yX9_lacking cX9_lacking 6 (some .int), .fieldLink RX9 20 "CoverSheetModel" "need" "[I", .fieldLink RX9 47 "CoverSheetModel" "many" "I", .fieldLink RX9 13 "CoverSheetModel" "skills" "[I"] ++ wsX90)
def wsJ9_max_7cf53 : List Cond := .code yJ9_max_7cf53 cJ9_max_7cf53 2 (some .int) :: ([])
def wsJ9_min_7cf53 : List Cond := .code yJ9_min_7cf53 cJ9_min_7cf53 2 (some .int) :: ([])
def wsJ9_min_f86c9 : List Cond := .code yJ9_min_f86c9 cJ9_min_f86c9 4 (some .long) :: ([])
def wsL_addPerson : List Cond := .codeWith yL_addPerson cL_addPerson 5 (some .int) [(0, 10, 13, 13), (0, 10, 17, 15)] :: ([.classLink RL 13 "java/lang/IllegalArgumentException", .classLink RL 15 "java/lang/IllegalStateException", .methodLink RL 7 yX8_addPerson, .instanceMethod yX8_addPerson, .selects RX8 yX8_addPerson yX8_addPerson, .initialized RX8, .code yX8_addPerson cX8_addPerson 3 (some .int), .classLink RX8 50 "java/lang/IllegalArgumentException", .initialized "java/lang/IllegalArgumentException", .classLink RX8 63 "java/lang/IllegalStateException", .initialized "java/lang/IllegalStateException", .fieldLink RX8 59 "CoverSheet" "teamSize" "I", .fieldLink RX8 11 "CoverSheet" "team" "[LCoverSheet$Person;", .classLink RX8 9 RX4, .instantiable RX4 8, .initialized RX4, .instanceMethod yX4_init, .code yX4_init cX4_init 3 none, .methodLink RX4 3 objectInit, .instanceMethod objectInit, .code objectInit ⟨#[0xb1]⟩ 1 none, .fieldLink RX4 9 "CoverSheet$Person" "skills" "I", .fieldLink RX4 15 "CoverSheet$Person" "most" "I"] ++ wsX80 ++ wsX40 ++ (vx_atS RX8 54 "java/lang/IllegalArgumentException" ["java/lang/RuntimeException", "java/lang/Exception"]).filter goodWord ++ (vx_atS RX8 67 "java/lang/IllegalStateException" ["java/lang/RuntimeException", "java/lang/Exception"]).filter goodWord)
def wsL_setNeed_r1 : List Cond := [Cond.classLink RL 21 "java/lang/IndexOutOfBoundsException", Cond.classLink RL 13 "java/lang/IllegalArgumentException", Cond.methodLink RL 17 yX8_setNeed, Cond.instanceMethod yX8_setNeed, Cond.selects RX8 yX8_setNeed yX8_setNeed, Cond.initialized RX8, Cond.code yX8_setNeed cX8_setNeed 5 (some .int), Cond.classLink RX8 78 "java/lang/IndexOutOfBoundsException", Cond.initialized "java/lang/IndexOutOfBoundsException", Cond.classLink RX8 50 "java/lang/IllegalArgumentException", Cond.initialized "java/lang/IllegalArgumentException", Cond.fieldLink RX8 18 "CoverSheet" "needs" "LCoverSheet$Needs;", Cond.methodLink RX8 71 yX8_isDay, Cond.static yX8_isDay, Cond.code yX8_isDay cX8_isDay 1 (some .boolean), Cond.methodLink RX8 75 yX8_isKind, Cond.static yX8_isKind, Cond.code yX8_isKind cX8_isKind 1 (some .boolean), Cond.methodLink RX8 85 yX3_of, Cond.instanceMethod yX3_of, Cond.selects RX3 yX3_of yX3_of, Cond.initialized RX3, Cond.code yX3_of cX3_of 4 (some .int), Cond.fieldLink RX3 9 "CoverSheet$Needs" "numbers" "[I"]
def wsL_setNeed_r2 : List Cond := [Cond.methodLink RX8 89 yX3_put, Cond.instanceMethod yX3_put, Cond.selects RX3 yX3_put yX3_put, Cond.code yX3_put cX3_put 5 none]
def wsL_setNeed : List Cond := .codeWith yL_setNeed cL_setNeed 6 (some .int) [(0, 12, 15, 21), (0, 12, 19, 13)] :: ((wsL_setNeed_r1 ++ wsL_setNeed_r2) ++ wsX80 ++ wsX30 ++ (vx_atS RX8 82 "java/lang/IndexOutOfBoundsException" ["java/lang/RuntimeException", "java/lang/Exception"]).filter goodWord ++ (vx_atS RX8 54 "java/lang/IllegalArgumentException" ["java/lang/RuntimeException", "java/lang/Exception"]).filter goodWord)
def wsL_forbid : List Cond := .codeWith yL_forbid cL_forbid 6 (some .int) [(0, 19, 22, 21)] :: ([.classLink RL 21 "java/lang/IndexOutOfBoundsException", .methodLink RL 23 yX8_forbid, .instanceMethod yX8_forbid, .selects RX8 yX8_forbid yX8_forbid, .initialized RX8, .code yX8_forbid cX8_forbid 4 (some .boolean), .classLink RX8 78 "java/lang/IndexOutOfBoundsException", .initialized "java/lang/IndexOutOfBoundsException", .fieldLink RX8 25 "CoverSheet" "rules" "LCoverSheet$Rules;", .methodLink RX8 75 yX8_isKind, .static yX8_isKind, .code yX8_isKind cX8_isKind 1 (some .boolean), .methodLink RX8 95 yX6_changeFollowing, .instanceMethod yX6_changeFollowing, .selects RX6 yX6_changeFollowing yX6_changeFollowing, .initialized RX6, .code yX6_changeFollowing cX6_changeFollowing 5 (some .boolean), .fieldLink RX6 15 "CoverSheet$Rules" "forbidden" "I", .methodLink RX6 9 yX6_pairOf, .static yX6_pairOf, .code yX6_pairOf cX6_pairOf 2 (some .int)] ++ wsX80 ++ wsX60 ++ (vx_atS RX8 82 "java/lang/IndexOutOfBoundsException" ["java/lang/RuntimeException", "java/lang/Exception"]).filter goodWord)
def wsL_setRun : List Cond := .codeWith yL_setRun cL_setRun 4 (some .int) [(0, 9, 12, 13)] :: ([.classLink RL 13 "java/lang/IllegalArgumentException", .methodLink RL 27 yX8_setRun, .instanceMethod yX8_setRun, .selects RX8 yX8_setRun yX8_setRun, .initialized RX8, .code yX8_setRun cX8_setRun 3 (some .int), .classLink RX8 50 "java/lang/IllegalArgumentException", .initialized "java/lang/IllegalArgumentException", .fieldLink RX8 25 "CoverSheet" "rules" "LCoverSheet$Rules;"] ++ wsX80 ++ wsX60 ++ (vx_atS RX8 54 "java/lang/IllegalArgumentException" ["java/lang/RuntimeException", "java/lang/Exception"]).filter goodWord)
def wsL_wish : List Cond := .codeWith yL_wish cL_wish 6 (some .int) [(0, 19, 22, 21)] :: ([.classLink RL 21 "java/lang/IndexOutOfBoundsException", .methodLink RL 31 yX8_wish, .instanceMethod yX8_wish, .selects RX8 yX8_wish yX8_wish, .initialized RX8, .code yX8_wish cX8_wish 5 (some .boolean), .classLink RX8 78 "java/lang/IndexOutOfBoundsException", .initialized "java/lang/IndexOutOfBoundsException", .methodLink RX8 104 yX8_personAt, .instanceMethod yX8_personAt, .selects RX8 yX8_personAt yX8_personAt, .code yX8_personAt cX8_personAt 2 (some (.object "CoverSheet$Person")), .fieldLink RX8 11 "CoverSheet" "team" "[LCoverSheet$Person;", .methodLink RX8 71 yX8_isDay, .static yX8_isDay, .code yX8_isDay cX8_isDay 1 (some .boolean), .methodLink RX8 110 yX4_changeWish, .instanceMethod yX4_changeWish, .selects RX4 yX4_changeWish yX4_changeWish, .initialized RX4, .code yX4_changeWish cX4_changeWish 4 (some .boolean), .fieldLink RX4 18 "CoverSheet$Person" "wishes" "I"] ++ wsX80 ++ wsX40 ++ (vx_atS RX8 82 "java/lang/IndexOutOfBoundsException" ["java/lang/RuntimeException", "java/lang/Exception"]).filter goodWord)
def wsL_fix_r1 : List Cond := [Cond.classLink RL 21 "java/lang/IndexOutOfBoundsException", Cond.classLink RL 13 "java/lang/IllegalArgumentException", Cond.methodLink RL 34 yX8_fix, Cond.instanceMethod yX8_fix, Cond.selects RX8 yX8_fix yX8_fix, Cond.initialized RX8, Cond.code yX8_fix cX8_fix 6 (some .int), Cond.classLink RX8 78 "java/lang/IndexOutOfBoundsException", Cond.initialized "java/lang/IndexOutOfBoundsException", Cond.classLink RX8 50 "java/lang/IllegalArgumentException", Cond.initialized "java/lang/IllegalArgumentException", Cond.methodLink RX8 104 yX8_personAt, Cond.instanceMethod yX8_personAt, Cond.selects RX8 yX8_personAt yX8_personAt, Cond.code yX8_personAt cX8_personAt 2 (some (.object "CoverSheet$Person")), Cond.fieldLink RX8 11 "CoverSheet" "team" "[LCoverSheet$Person;", Cond.methodLink RX8 71 yX8_isDay, Cond.static yX8_isDay, Cond.code yX8_isDay cX8_isDay 1 (some .boolean), Cond.methodLink RX8 114 yX8_isEntry, Cond.static yX8_isEntry, Cond.code yX8_isEntry cX8_isEntry 1 (some .boolean), Cond.methodLink RX8 119 yX4_fixedAt, Cond.instanceMethod yX4_fixedAt]
def wsL_fix_r2 : List Cond := [Cond.selects RX4 yX4_fixedAt yX4_fixedAt, Cond.initialized RX4, Cond.code yX4_fixedAt cX4_fixedAt 2 (some .int), Cond.fieldLink RX4 34 "CoverSheet$Person" "fixed" "I", Cond.methodLink RX8 123 yX4_changeFixed, Cond.instanceMethod yX4_changeFixed, Cond.selects RX4 yX4_changeFixed yX4_changeFixed, Cond.code yX4_changeFixed cX4_changeFixed 4 none]
def wsL_fix : List Cond := .codeWith yL_fix cL_fix 6 (some .int) [(0, 12, 15, 21), (0, 12, 19, 13)] :: ((wsL_fix_r1 ++ wsL_fix_r2) ++ wsX80 ++ wsX40 ++ (vx_atS RX8 82 "java/lang/IndexOutOfBoundsException" ["java/lang/RuntimeException", "java/lang/Exception"]).filter goodWord ++ (vx_atS RX8 54 "java/lang/IllegalArgumentException" ["java/lang/RuntimeException", "java/lang/Exception"]).filter goodWord)
def wsL_set_r1 : List Cond := [Cond.classLink RL 21 "java/lang/IndexOutOfBoundsException", Cond.classLink RL 13 "java/lang/IllegalArgumentException", Cond.classLink RL 15 "java/lang/IllegalStateException", Cond.methodLink RL 37 yX8_set, Cond.instanceMethod yX8_set, Cond.selects RX8 yX8_set yX8_set, Cond.initialized RX8, Cond.code yX8_set cX8_set 7 (some .int), Cond.classLink RX8 78 "java/lang/IndexOutOfBoundsException", Cond.initialized "java/lang/IndexOutOfBoundsException", Cond.classLink RX8 50 "java/lang/IllegalArgumentException", Cond.initialized "java/lang/IllegalArgumentException", Cond.classLink RX8 63 "java/lang/IllegalStateException", Cond.initialized "java/lang/IllegalStateException", Cond.fieldLink RX8 25 "CoverSheet" "rules" "LCoverSheet$Rules;", Cond.methodLink RX8 104 yX8_personAt, Cond.instanceMethod yX8_personAt, Cond.selects RX8 yX8_personAt yX8_personAt, Cond.code yX8_personAt cX8_personAt 2 (some (.object "CoverSheet$Person")), Cond.fieldLink RX8 11 "CoverSheet" "team" "[LCoverSheet$Person;", Cond.methodLink RX8 71 yX8_isDay, Cond.static yX8_isDay, Cond.code yX8_isDay cX8_isDay 1 (some .boolean), Cond.methodLink RX8 114 yX8_isEntry]
def wsL_set_r2 : List Cond := [Cond.static yX8_isEntry, Cond.code yX8_isEntry cX8_isEntry 1 (some .boolean), Cond.methodLink RX8 144 yX7_with, Cond.static yX7_with, Cond.initialized RX7, Cond.code yX7_with cX7_with 4 (some .int), Cond.methodLink RX7 9 yX7_placeOf, Cond.static yX7_placeOf, Cond.code yX7_placeOf cX7_placeOf 1 (some .int), Cond.methodLink RX8 148 yX4_canHave, Cond.instanceMethod yX4_canHave, Cond.selects RX4 yX4_canHave yX4_canHave, Cond.initialized RX4, Cond.code yX4_canHave cX4_canHave 7 (some .boolean), Cond.fieldLink RX4 41 "CoverSheet$Person" "lastEntry" "I", Cond.fieldLink RX4 44 "CoverSheet$Person" "daysInARow" "I", Cond.fieldLink RX4 15 "CoverSheet$Person" "most" "I", Cond.methodLink RX4 24 yX7_at, Cond.static yX7_at, Cond.code yX7_at cX7_at 2 (some .int), Cond.methodLink RX4 47 yX4_mayHave, Cond.instanceMethod yX4_mayHave, Cond.selects RX4 yX4_mayHave yX4_mayHave, Cond.code yX4_mayHave cX4_mayHave 4 (some .boolean)]
def wsL_set_r3 : List Cond := [Cond.fieldLink RX4 9 "CoverSheet$Person" "skills" "I", Cond.methodLink RX4 37 yX4_fixedAt, Cond.instanceMethod yX4_fixedAt, Cond.selects RX4 yX4_fixedAt yX4_fixedAt, Cond.code yX4_fixedAt cX4_fixedAt 2 (some .int), Cond.fieldLink RX4 34 "CoverSheet$Person" "fixed" "I", Cond.methodLink RX4 50 yX6_allow, Cond.instanceMethod yX6_allow, Cond.selects RX6 yX6_allow yX6_allow, Cond.initialized RX6, Cond.code yX6_allow cX6_allow 4 (some .boolean), Cond.fieldLink RX6 19 "CoverSheet$Rules" "longestRun" "I", Cond.fieldLink RX6 15 "CoverSheet$Rules" "forbidden" "I", Cond.methodLink RX6 9 yX6_pairOf, Cond.static yX6_pairOf, Cond.code yX6_pairOf cX6_pairOf 2 (some .int), Cond.methodLink RX4 56 yX7_shiftsFrom, Cond.static yX7_shiftsFrom, Cond.code yX7_shiftsFrom cX7_shiftsFrom 4 (some .int), Cond.methodLink RX7 15 yX7_at, Cond.methodLink RX8 154 yX7_at]
def wsL_set : List Cond := .codeWith yL_set cL_set 6 (some .int) [(0, 12, 15, 21), (0, 12, 19, 13), (0, 12, 23, 15)] :: ((wsL_set_r1 ++ (wsL_set_r2 ++ wsL_set_r3)) ++ wsX40 ++ wsX80 ++ wsX60 ++ (vx_atS RX8 82 "java/lang/IndexOutOfBoundsException" ["java/lang/RuntimeException", "java/lang/Exception"]).filter goodWord ++ (vx_atS RX8 54 "java/lang/IllegalArgumentException" ["java/lang/RuntimeException", "java/lang/Exception"]).filter goodWord ++ (vx_atS RX8 67 "java/lang/IllegalStateException" ["java/lang/RuntimeException", "java/lang/Exception"]).filter goodWord)
def wsL_swap_r1 : List Cond := [Cond.classLink RL 21 "java/lang/IndexOutOfBoundsException", Cond.classLink RL 15 "java/lang/IllegalStateException", Cond.methodLink RL 40 yX8_swap, Cond.instanceMethod yX8_swap, Cond.selects RX8 yX8_swap yX8_swap, Cond.initialized RX8, Cond.code yX8_swap cX8_swap 7 (some .int), Cond.classLink RX8 78 "java/lang/IndexOutOfBoundsException", Cond.initialized "java/lang/IndexOutOfBoundsException", Cond.classLink RX8 63 "java/lang/IllegalStateException", Cond.initialized "java/lang/IllegalStateException", Cond.methodLink RX8 104 yX8_personAt, Cond.instanceMethod yX8_personAt, Cond.selects RX8 yX8_personAt yX8_personAt, Cond.code yX8_personAt cX8_personAt 2 (some (.object "CoverSheet$Person")), Cond.fieldLink RX8 11 "CoverSheet" "team" "[LCoverSheet$Person;", Cond.methodLink RX8 71 yX8_isDay, Cond.static yX8_isDay, Cond.code yX8_isDay cX8_isDay 1 (some .boolean), Cond.methodLink RX8 159 yX8_couldSwap, Cond.instanceMethod yX8_couldSwap, Cond.selects RX8 yX8_couldSwap yX8_couldSwap, Cond.code yX8_couldSwap cX8_couldSwap 6 (some .boolean), Cond.fieldLink RX8 25 "CoverSheet" "rules" "LCoverSheet$Rules;"]
def wsL_swap_r2 : List Cond := [Cond.methodLink RX8 154 yX7_at, Cond.static yX7_at, Cond.initialized RX7, Cond.code yX7_at cX7_at 2 (some .int), Cond.methodLink RX7 9 yX7_placeOf, Cond.static yX7_placeOf, Cond.code yX7_placeOf cX7_placeOf 1 (some .int), Cond.methodLink RX8 144 yX7_with, Cond.static yX7_with, Cond.code yX7_with cX7_with 4 (some .int), Cond.methodLink RX8 148 yX4_canHave, Cond.instanceMethod yX4_canHave, Cond.selects RX4 yX4_canHave yX4_canHave, Cond.initialized RX4, Cond.code yX4_canHave cX4_canHave 7 (some .boolean), Cond.fieldLink RX4 41 "CoverSheet$Person" "lastEntry" "I", Cond.fieldLink RX4 44 "CoverSheet$Person" "daysInARow" "I", Cond.fieldLink RX4 15 "CoverSheet$Person" "most" "I", Cond.methodLink RX4 24 yX7_at, Cond.methodLink RX4 47 yX4_mayHave, Cond.instanceMethod yX4_mayHave, Cond.selects RX4 yX4_mayHave yX4_mayHave, Cond.code yX4_mayHave cX4_mayHave 4 (some .boolean), Cond.fieldLink RX4 9 "CoverSheet$Person" "skills" "I"]
def wsL_swap_r3 : List Cond := [Cond.methodLink RX4 37 yX4_fixedAt, Cond.instanceMethod yX4_fixedAt, Cond.selects RX4 yX4_fixedAt yX4_fixedAt, Cond.code yX4_fixedAt cX4_fixedAt 2 (some .int), Cond.fieldLink RX4 34 "CoverSheet$Person" "fixed" "I", Cond.methodLink RX4 50 yX6_allow, Cond.instanceMethod yX6_allow, Cond.selects RX6 yX6_allow yX6_allow, Cond.initialized RX6, Cond.code yX6_allow cX6_allow 4 (some .boolean), Cond.fieldLink RX6 19 "CoverSheet$Rules" "longestRun" "I", Cond.fieldLink RX6 15 "CoverSheet$Rules" "forbidden" "I", Cond.methodLink RX6 9 yX6_pairOf, Cond.static yX6_pairOf, Cond.code yX6_pairOf cX6_pairOf 2 (some .int), Cond.methodLink RX4 56 yX7_shiftsFrom, Cond.static yX7_shiftsFrom, Cond.code yX7_shiftsFrom cX7_shiftsFrom 4 (some .int), Cond.methodLink RX7 15 yX7_at, Cond.methodLink RX8 165 yX4_brokenWishes, Cond.instanceMethod yX4_brokenWishes, Cond.selects RX4 yX4_brokenWishes yX4_brokenWishes, Cond.code yX4_brokenWishes cX4_brokenWishes 3 (some .int), Cond.fieldLink RX4 21 "CoverSheet$Person" "week" "I"]
def wsL_swap_r4 : List Cond := [Cond.methodLink RX4 30 yX4_breaksWish, Cond.instanceMethod yX4_breaksWish, Cond.selects RX4 yX4_breaksWish yX4_breaksWish, Cond.code yX4_breaksWish cX4_breaksWish 3 (some .boolean), Cond.fieldLink RX4 18 "CoverSheet$Person" "wishes" "I"]
def wsL_swap : List Cond := .codeWith yL_swap cL_swap 6 (some .int) [(0, 12, 15, 21), (0, 12, 19, 15)] :: ((wsL_swap_r1 ++ (wsL_swap_r2 ++ (wsL_swap_r3 ++ wsL_swap_r4))) ++ wsX40 ++ wsX80 ++ wsX60 ++ (vx_atS RX8 82 "java/lang/IndexOutOfBoundsException" ["java/lang/RuntimeException", "java/lang/Exception"]).filter goodWord ++ (vx_atS RX8 67 "java/lang/IllegalStateException" ["java/lang/RuntimeException", "java/lang/Exception"]).filter goodWord)
def wsL_entry : List Cond := .codeWith yL_entry cL_entry 5 (some .int) [(0, 10, 13, 21)] :: ([.classLink RL 21 "java/lang/IndexOutOfBoundsException", .methodLink RL 43 yX8_entry, .instanceMethod yX8_entry, .selects RX8 yX8_entry yX8_entry, .initialized RX8, .code yX8_entry cX8_entry 4 (some .int), .classLink RX8 78 "java/lang/IndexOutOfBoundsException", .initialized "java/lang/IndexOutOfBoundsException", .methodLink RX8 104 yX8_personAt, .instanceMethod yX8_personAt, .selects RX8 yX8_personAt yX8_personAt, .code yX8_personAt cX8_personAt 2 (some (.object "CoverSheet$Person")), .fieldLink RX8 11 "CoverSheet" "team" "[LCoverSheet$Person;", .methodLink RX8 71 yX8_isDay, .static yX8_isDay, .code yX8_isDay cX8_isDay 1 (some .boolean), .methodLink RX8 154 yX7_at, .static yX7_at, .initialized RX7, .code yX7_at cX7_at 2 (some .int), .methodLink RX7 9 yX7_placeOf, .static yX7_placeOf, .code yX7_placeOf cX7_placeOf 1 (some .int)] ++ wsX40 ++ wsX80 ++ (vx_atS RX8 82 "java/lang/IndexOutOfBoundsException" ["java/lang/RuntimeException", "java/lang/Exception"]).filter goodWord)
def wsL_gap_r1 : List Cond := [Cond.classLink RL 21 "java/lang/IndexOutOfBoundsException", Cond.methodLink RL 46 yX8_gap, Cond.instanceMethod yX8_gap, Cond.selects RX8 yX8_gap yX8_gap, Cond.initialized RX8, Cond.code yX8_gap cX8_gap 3 (some .int), Cond.classLink RX8 78 "java/lang/IndexOutOfBoundsException", Cond.initialized "java/lang/IndexOutOfBoundsException", Cond.methodLink RX8 71 yX8_isDay, Cond.static yX8_isDay, Cond.code yX8_isDay cX8_isDay 1 (some .boolean), Cond.methodLink RX8 75 yX8_isKind, Cond.static yX8_isKind, Cond.code yX8_isKind cX8_isKind 1 (some .boolean), Cond.methodLink RX8 174 yX8_gapWithout, Cond.instanceMethod yX8_gapWithout, Cond.selects RX8 yX8_gapWithout yX8_gapWithout, Cond.code yX8_gapWithout cX8_gapWithout 9 (some .int), Cond.fieldLink RX8 18 "CoverSheet" "needs" "LCoverSheet$Needs;", Cond.fieldLink RX8 11 "CoverSheet" "team" "[LCoverSheet$Person;", Cond.methodLink RX8 196 Lib.Math.max.name, Cond.static Lib.Math.max.name, Cond.initialized "java/lang/Math", Cond.code Lib.Math.max.name Lib.Math.max.code 2 (some .int)]
def wsL_gap_r2 : List Cond := [Cond.methodLink RX8 85 yX3_of, Cond.instanceMethod yX3_of, Cond.selects RX3 yX3_of yX3_of, Cond.initialized RX3, Cond.code yX3_of cX3_of 4 (some .int), Cond.fieldLink RX3 9 "CoverSheet$Needs" "numbers" "[I", Cond.methodLink RX8 154 yX7_at, Cond.static yX7_at, Cond.initialized RX7, Cond.code yX7_at cX7_at 2 (some .int), Cond.methodLink RX7 9 yX7_placeOf, Cond.static yX7_placeOf, Cond.code yX7_placeOf cX7_placeOf 1 (some .int)]
def wsL_gap : List Cond := .codeWith yL_gap cL_gap 5 (some .int) [(0, 10, 13, 21)] :: ((wsL_gap_r1 ++ wsL_gap_r2) ++ wsX80 ++ wsX40 ++ wsX30 ++ (vx_atS RX8 82 "java/lang/IndexOutOfBoundsException" ["java/lang/RuntimeException", "java/lang/Exception"]).filter goodWord)
def wsL_shifts : List Cond := .codeWith yL_shifts cL_shifts 4 (some .int) [(0, 9, 12, 21)] :: ([.classLink RL 21 "java/lang/IndexOutOfBoundsException", .methodLink RL 49 yX8_shifts, .instanceMethod yX8_shifts, .selects RX8 yX8_shifts yX8_shifts, .initialized RX8, .code yX8_shifts cX8_shifts 3 (some .int), .classLink RX8 78 "java/lang/IndexOutOfBoundsException", .initialized "java/lang/IndexOutOfBoundsException", .methodLink RX8 104 yX8_personAt, .instanceMethod yX8_personAt, .selects RX8 yX8_personAt yX8_personAt, .code yX8_personAt cX8_personAt 2 (some (.object "CoverSheet$Person")), .fieldLink RX8 11 "CoverSheet" "team" "[LCoverSheet$Person;", .methodLink RX8 180 yX7_shiftsFrom, .static yX7_shiftsFrom, .initialized RX7, .code yX7_shiftsFrom cX7_shiftsFrom 4 (some .int), .methodLink RX7 15 yX7_at, .static yX7_at, .code yX7_at cX7_at 2 (some .int), .methodLink RX7 9 yX7_placeOf, .static yX7_placeOf, .code yX7_placeOf cX7_placeOf 1 (some .int)] ++ wsX40 ++ wsX80 ++ (vx_atS RX8 82 "java/lang/IndexOutOfBoundsException" ["java/lang/RuntimeException", "java/lang/Exception"]).filter goodWord)
def wsL_weekends : List Cond := .codeWith yL_weekends cL_weekends 4 (some .int) [(0, 9, 12, 21)] :: ([.classLink RL 21 "java/lang/IndexOutOfBoundsException", .methodLink RL 52 yX8_weekends, .instanceMethod yX8_weekends, .selects RX8 yX8_weekends yX8_weekends, .initialized RX8, .code yX8_weekends cX8_weekends 3 (some .int), .classLink RX8 78 "java/lang/IndexOutOfBoundsException", .initialized "java/lang/IndexOutOfBoundsException", .methodLink RX8 104 yX8_personAt, .instanceMethod yX8_personAt, .selects RX8 yX8_personAt yX8_personAt, .code yX8_personAt cX8_personAt 2 (some (.object "CoverSheet$Person")), .fieldLink RX8 11 "CoverSheet" "team" "[LCoverSheet$Person;"] ++ wsX40 ++ wsX80 ++ (vx_atS RX8 82 "java/lang/IndexOutOfBoundsException" ["java/lang/RuntimeException", "java/lang/Exception"]).filter goodWord)
def wsL_broken_r1 : List Cond := [Cond.classLink RL 21 "java/lang/IndexOutOfBoundsException", Cond.methodLink RL 55 yX8_broken, Cond.instanceMethod yX8_broken, Cond.selects RX8 yX8_broken yX8_broken, Cond.initialized RX8, Cond.code yX8_broken cX8_broken 3 (some .int), Cond.classLink RX8 78 "java/lang/IndexOutOfBoundsException", Cond.initialized "java/lang/IndexOutOfBoundsException", Cond.methodLink RX8 104 yX8_personAt, Cond.instanceMethod yX8_personAt, Cond.selects RX8 yX8_personAt yX8_personAt, Cond.code yX8_personAt cX8_personAt 2 (some (.object "CoverSheet$Person")), Cond.fieldLink RX8 11 "CoverSheet" "team" "[LCoverSheet$Person;", Cond.methodLink RX8 165 yX4_brokenWishes, Cond.instanceMethod yX4_brokenWishes, Cond.selects RX4 yX4_brokenWishes yX4_brokenWishes, Cond.initialized RX4, Cond.code yX4_brokenWishes cX4_brokenWishes 3 (some .int), Cond.fieldLink RX4 21 "CoverSheet$Person" "week" "I", Cond.methodLink RX4 24 yX7_at, Cond.static yX7_at, Cond.initialized RX7, Cond.code yX7_at cX7_at 2 (some .int), Cond.methodLink RX7 9 yX7_placeOf]
def wsL_broken_r2 : List Cond := [Cond.static yX7_placeOf, Cond.code yX7_placeOf cX7_placeOf 1 (some .int), Cond.methodLink RX4 30 yX4_breaksWish, Cond.instanceMethod yX4_breaksWish, Cond.selects RX4 yX4_breaksWish yX4_breaksWish, Cond.code yX4_breaksWish cX4_breaksWish 3 (some .boolean), Cond.fieldLink RX4 18 "CoverSheet$Person" "wishes" "I"]
def wsL_broken : List Cond := .codeWith yL_broken cL_broken 4 (some .int) [(0, 9, 12, 21)] :: ((wsL_broken_r1 ++ wsL_broken_r2) ++ wsX80 ++ wsX40 ++ (vx_atS RX8 82 "java/lang/IndexOutOfBoundsException" ["java/lang/RuntimeException", "java/lang/Exception"]).filter goodWord)
def wsL_runBefore : List Cond := .codeWith yL_runBefore cL_runBefore 4 (some .int) [(0, 9, 12, 21)] :: ([.classLink RL 21 "java/lang/IndexOutOfBoundsException", .methodLink RL 58 yX8_runBefore, .instanceMethod yX8_runBefore, .selects RX8 yX8_runBefore yX8_runBefore, .initialized RX8, .code yX8_runBefore cX8_runBefore 3 (some .int), .classLink RX8 78 "java/lang/IndexOutOfBoundsException", .initialized "java/lang/IndexOutOfBoundsException", .methodLink RX8 104 yX8_personAt, .instanceMethod yX8_personAt, .selects RX8 yX8_personAt yX8_personAt, .code yX8_personAt cX8_personAt 2 (some (.object "CoverSheet$Person")), .fieldLink RX8 11 "CoverSheet" "team" "[LCoverSheet$Person;"] ++ wsX40 ++ wsX80 ++ (vx_atS RX8 82 "java/lang/IndexOutOfBoundsException" ["java/lang/RuntimeException", "java/lang/Exception"]).filter goodWord)
def wsL_isFeasible_r1 : List Cond := [Cond.classLink RL 21 "java/lang/IndexOutOfBoundsException", Cond.methodLink RL 61 yX8_isFeasible, Cond.instanceMethod yX8_isFeasible, Cond.selects RX8 yX8_isFeasible yX8_isFeasible, Cond.initialized RX8, Cond.code yX8_isFeasible cX8_isFeasible 3 (some .boolean), Cond.classLink RX8 78 "java/lang/IndexOutOfBoundsException", Cond.initialized "java/lang/IndexOutOfBoundsException", Cond.fieldLink RX8 25 "CoverSheet" "rules" "LCoverSheet$Rules;", Cond.methodLink RX8 104 yX8_personAt, Cond.instanceMethod yX8_personAt, Cond.selects RX8 yX8_personAt yX8_personAt, Cond.code yX8_personAt cX8_personAt 2 (some (.object "CoverSheet$Person")), Cond.fieldLink RX8 11 "CoverSheet" "team" "[LCoverSheet$Person;", Cond.methodLink RX8 148 yX4_canHave, Cond.instanceMethod yX4_canHave, Cond.selects RX4 yX4_canHave yX4_canHave, Cond.initialized RX4, Cond.code yX4_canHave cX4_canHave 7 (some .boolean), Cond.fieldLink RX4 41 "CoverSheet$Person" "lastEntry" "I", Cond.fieldLink RX4 44 "CoverSheet$Person" "daysInARow" "I", Cond.fieldLink RX4 15 "CoverSheet$Person" "most" "I", Cond.methodLink RX4 24 yX7_at, Cond.static yX7_at]
def wsL_isFeasible_r2 : List Cond := [Cond.initialized RX7, Cond.code yX7_at cX7_at 2 (some .int), Cond.methodLink RX7 9 yX7_placeOf, Cond.static yX7_placeOf, Cond.code yX7_placeOf cX7_placeOf 1 (some .int), Cond.methodLink RX4 47 yX4_mayHave, Cond.instanceMethod yX4_mayHave, Cond.selects RX4 yX4_mayHave yX4_mayHave, Cond.code yX4_mayHave cX4_mayHave 4 (some .boolean), Cond.fieldLink RX4 9 "CoverSheet$Person" "skills" "I", Cond.methodLink RX4 37 yX4_fixedAt, Cond.instanceMethod yX4_fixedAt, Cond.selects RX4 yX4_fixedAt yX4_fixedAt, Cond.code yX4_fixedAt cX4_fixedAt 2 (some .int), Cond.fieldLink RX4 34 "CoverSheet$Person" "fixed" "I", Cond.methodLink RX4 50 yX6_allow, Cond.instanceMethod yX6_allow, Cond.selects RX6 yX6_allow yX6_allow, Cond.initialized RX6, Cond.code yX6_allow cX6_allow 4 (some .boolean), Cond.fieldLink RX6 19 "CoverSheet$Rules" "longestRun" "I", Cond.fieldLink RX6 15 "CoverSheet$Rules" "forbidden" "I", Cond.methodLink RX6 9 yX6_pairOf, Cond.static yX6_pairOf]
def wsL_isFeasible_r3 : List Cond := [Cond.code yX6_pairOf cX6_pairOf 2 (some .int), Cond.methodLink RX4 56 yX7_shiftsFrom, Cond.static yX7_shiftsFrom, Cond.code yX7_shiftsFrom cX7_shiftsFrom 4 (some .int), Cond.methodLink RX7 15 yX7_at]
def wsL_isFeasible : List Cond := .codeWith yL_isFeasible cL_isFeasible 4 (some .int) [(0, 16, 19, 21)] :: ((wsL_isFeasible_r1 ++ (wsL_isFeasible_r2 ++ wsL_isFeasible_r3)) ++ wsX40 ++ wsX80 ++ wsX60 ++ (vx_atS RX8 82 "java/lang/IndexOutOfBoundsException" ["java/lang/RuntimeException", "java/lang/Exception"]).filter goodWord)
def wsL_weeks_r1 : List Cond := [Cond.classLink RL 21 "java/lang/IndexOutOfBoundsException", Cond.methodLink RL 65 yX8_weeks, Cond.instanceMethod yX8_weeks, Cond.selects RX8 yX8_weeks yX8_weeks, Cond.initialized RX8, Cond.code yX8_weeks cX8_weeks 5 (some .int), Cond.classLink RX8 78 "java/lang/IndexOutOfBoundsException", Cond.initialized "java/lang/IndexOutOfBoundsException", Cond.fieldLink RX8 25 "CoverSheet" "rules" "LCoverSheet$Rules;", Cond.methodLink RX8 104 yX8_personAt, Cond.instanceMethod yX8_personAt, Cond.selects RX8 yX8_personAt yX8_personAt, Cond.code yX8_personAt cX8_personAt 2 (some (.object "CoverSheet$Person")), Cond.fieldLink RX8 11 "CoverSheet" "team" "[LCoverSheet$Person;", Cond.methodLink RX8 148 yX4_canHave, Cond.instanceMethod yX4_canHave, Cond.selects RX4 yX4_canHave yX4_canHave, Cond.initialized RX4, Cond.code yX4_canHave cX4_canHave 7 (some .boolean), Cond.fieldLink RX4 41 "CoverSheet$Person" "lastEntry" "I", Cond.fieldLink RX4 44 "CoverSheet$Person" "daysInARow" "I", Cond.fieldLink RX4 15 "CoverSheet$Person" "most" "I", Cond.methodLink RX4 24 yX7_at, Cond.static yX7_at]
def wsL_weeks_r2 : List Cond := [Cond.initialized RX7, Cond.code yX7_at cX7_at 2 (some .int), Cond.methodLink RX7 9 yX7_placeOf, Cond.static yX7_placeOf, Cond.code yX7_placeOf cX7_placeOf 1 (some .int), Cond.methodLink RX4 47 yX4_mayHave, Cond.instanceMethod yX4_mayHave, Cond.selects RX4 yX4_mayHave yX4_mayHave, Cond.code yX4_mayHave cX4_mayHave 4 (some .boolean), Cond.fieldLink RX4 9 "CoverSheet$Person" "skills" "I", Cond.methodLink RX4 37 yX4_fixedAt, Cond.instanceMethod yX4_fixedAt, Cond.selects RX4 yX4_fixedAt yX4_fixedAt, Cond.code yX4_fixedAt cX4_fixedAt 2 (some .int), Cond.fieldLink RX4 34 "CoverSheet$Person" "fixed" "I", Cond.methodLink RX4 50 yX6_allow, Cond.instanceMethod yX6_allow, Cond.selects RX6 yX6_allow yX6_allow, Cond.initialized RX6, Cond.code yX6_allow cX6_allow 4 (some .boolean), Cond.fieldLink RX6 19 "CoverSheet$Rules" "longestRun" "I", Cond.fieldLink RX6 15 "CoverSheet$Rules" "forbidden" "I", Cond.methodLink RX6 9 yX6_pairOf, Cond.static yX6_pairOf]
def wsL_weeks_r3 : List Cond := [Cond.code yX6_pairOf cX6_pairOf 2 (some .int), Cond.methodLink RX4 56 yX7_shiftsFrom, Cond.static yX7_shiftsFrom, Cond.code yX7_shiftsFrom cX7_shiftsFrom 4 (some .int), Cond.methodLink RX7 15 yX7_at]
def wsL_weeks : List Cond := .codeWith yL_weeks cL_weeks 4 (some .int) [(0, 9, 12, 21)] :: ((wsL_weeks_r1 ++ (wsL_weeks_r2 ++ wsL_weeks_r3)) ++ wsX80 ++ wsX40 ++ wsX60 ++ (vx_atS RX8 82 "java/lang/IndexOutOfBoundsException" ["java/lang/RuntimeException", "java/lang/Exception"]).filter goodWord)
def wsL_weeksByDays_r1 : List Cond := [Cond.classLink RL 21 "java/lang/IndexOutOfBoundsException", Cond.methodLink RL 68 yX8_weeksByDays, Cond.instanceMethod yX8_weeksByDays, Cond.selects RX8 yX8_weeksByDays yX8_weeksByDays, Cond.initialized RX8, Cond.code yX8_weeksByDays cX8_weeksByDays 3 (some .int), Cond.classLink RX8 78 "java/lang/IndexOutOfBoundsException", Cond.initialized "java/lang/IndexOutOfBoundsException", Cond.fieldLink RX8 32 "CoverSheet" "table" "LCoverSheet$DayTable;", Cond.fieldLink RX8 25 "CoverSheet" "rules" "LCoverSheet$Rules;", Cond.fieldLink RX8 39 "CoverSheet" "counting" "LCoverSheet$Counting;", Cond.methodLink RX8 104 yX8_personAt, Cond.instanceMethod yX8_personAt, Cond.selects RX8 yX8_personAt yX8_personAt, Cond.code yX8_personAt cX8_personAt 2 (some (.object "CoverSheet$Person")), Cond.fieldLink RX8 11 "CoverSheet" "team" "[LCoverSheet$Person;", Cond.methodLink RX8 189 yX1_through, Cond.instanceMethod yX1_through, Cond.selects RX1 yX1_through yX1_through, Cond.initialized RX1, Cond.code yX1_through cX1_through 12 (some .long), Cond.fieldLink RX1 11 "CoverSheet$DayTable" "values" "[J", Cond.methodLink RX1 36 Lib.Math.min.name, Cond.static Lib.Math.min.name]
def wsL_weeksByDays_r2 : List Cond := [Cond.initialized "java/lang/Math", Cond.code Lib.Math.min.name Lib.Math.min.code 2 (some .int), Cond.methodLink RX1 18 ⟨"CoverSheet$Measure", "none", "()J"⟩, Cond.sameMethod "CoverSheet$Measure" "CoverSheet$Measure" "none" "()J", Cond.selects RX0 ⟨"CoverSheet$Measure", "none", "()J"⟩ yX0_none, Cond.instanceMethod yX0_none, Cond.initialized RX0, Cond.code yX0_none cX0_none 1 (some .long), Cond.selects RX5 ⟨"CoverSheet$Measure", "none", "()J"⟩ yX5_none, Cond.instanceMethod yX5_none, Cond.initialized RX5, Cond.code yX5_none cX5_none 1 (some .long), Cond.constantLong RX5 41 (9223372036854775807), Cond.methodLink RX1 24 yJ7_fill_d0a16, Cond.static yJ7_fill_d0a16, Cond.initialized RJ7, Cond.code yJ7_fill_d0a16 cJ7_fill_d0a16 5 none, Cond.methodLink RX1 45 yX1_placeOf, Cond.static yX1_placeOf, Cond.code yX1_placeOf cX1_placeOf 3 (some .int), Cond.methodLink RX1 49 ⟨"CoverSheet$Measure", "start", "()J"⟩, Cond.sameMethod "CoverSheet$Measure" "CoverSheet$Measure" "start" "()J", Cond.selects RX0 ⟨"CoverSheet$Measure", "start", "()J"⟩ yX0_start, Cond.instanceMethod yX0_start]
def wsL_weeksByDays_r3 : List Cond := [Cond.code yX0_start cX0_start 1 (some .long), Cond.selects RX5 ⟨"CoverSheet$Measure", "start", "()J"⟩ yX5_start, Cond.instanceMethod yX5_start, Cond.code yX5_start cX5_start 1 (some .long), Cond.methodLink RX1 52 yX1_goOn, Cond.instanceMethod yX1_goOn, Cond.selects RX1 yX1_goOn yX1_goOn, Cond.code yX1_goOn cX1_goOn 16 none, Cond.fieldLink RX1 15 "CoverSheet$DayTable" "nextValues" "[J", Cond.methodLink RX1 63 yX4_mayHave, Cond.instanceMethod yX4_mayHave, Cond.selects RX4 yX4_mayHave yX4_mayHave, Cond.initialized RX4, Cond.code yX4_mayHave cX4_mayHave 4 (some .boolean), Cond.fieldLink RX4 9 "CoverSheet$Person" "skills" "I", Cond.methodLink RX4 37 yX4_fixedAt, Cond.instanceMethod yX4_fixedAt, Cond.selects RX4 yX4_fixedAt yX4_fixedAt, Cond.code yX4_fixedAt cX4_fixedAt 2 (some .int), Cond.fieldLink RX4 34 "CoverSheet$Person" "fixed" "I", Cond.methodLink RX1 67 yX6_allow, Cond.instanceMethod yX6_allow, Cond.selects RX6 yX6_allow yX6_allow, Cond.initialized RX6]
def wsL_weeksByDays_r4 : List Cond := [Cond.code yX6_allow cX6_allow 4 (some .boolean), Cond.fieldLink RX6 19 "CoverSheet$Rules" "longestRun" "I", Cond.fieldLink RX6 15 "CoverSheet$Rules" "forbidden" "I", Cond.methodLink RX6 9 yX6_pairOf, Cond.static yX6_pairOf, Cond.code yX6_pairOf cX6_pairOf 2 (some .int), Cond.methodLink RX1 73 ⟨"CoverSheet$Measure", "longer", "(JII)J"⟩, Cond.sameMethod "CoverSheet$Measure" "CoverSheet$Measure" "longer" "(JII)J", Cond.selects RX0 ⟨"CoverSheet$Measure", "longer", "(JII)J"⟩ yX0_longer, Cond.instanceMethod yX0_longer, Cond.code yX0_longer cX0_longer 5 (some .long), Cond.selects RX5 ⟨"CoverSheet$Measure", "longer", "(JII)J"⟩ yX5_longer, Cond.instanceMethod yX5_longer, Cond.code yX5_longer cX5_longer 6 (some .long), Cond.fieldLink RX5 15 "CoverSheet$Pricing" "prices" "[J", Cond.methodLink RX1 56 ⟨"CoverSheet$Measure", "joined", "(JJ)J"⟩, Cond.sameMethod "CoverSheet$Measure" "CoverSheet$Measure" "joined" "(JJ)J", Cond.selects RX0 ⟨"CoverSheet$Measure", "joined", "(JJ)J"⟩ yX0_joined, Cond.instanceMethod yX0_joined, Cond.code yX0_joined cX0_joined 5 (some .long), Cond.selects RX5 ⟨"CoverSheet$Measure", "joined", "(JJ)J"⟩ yX5_joined, Cond.instanceMethod yX5_joined, Cond.code yX5_joined cX5_joined 5 (some .long), Cond.methodLink RX5 45 Lib.MathLoose.min_long.x]
def wsL_weeksByDays_r5 : List Cond := [Cond.static Lib.MathLoose.min_long.x, Cond.code Lib.MathLoose.min_long.x Lib.MathLoose.min_long.code 4 (some .long)]
def wsL_weeksByDays : List Cond := .codeWith yL_weeksByDays cL_weeksByDays 4 (some .int) [(0, 9, 12, 21)] :: ((wsL_weeksByDays_r1 ++ (wsL_weeksByDays_r2 ++ (wsL_weeksByDays_r3 ++ (wsL_weeksByDays_r4 ++ wsL_weeksByDays_r5)))) ++ wsX80 ++ wsX10 ++ wsX40 ++ wsX60 ++ wsX50 ++ (vx_atS RX8 82 "java/lang/IndexOutOfBoundsException" ["java/lang/RuntimeException", "java/lang/Exception"]).filter goodWord)
def wsL_couldTake_r1 : List Cond := [Cond.classLink RL 21 "java/lang/IndexOutOfBoundsException", Cond.methodLink RL 71 yX8_couldTake, Cond.instanceMethod yX8_couldTake, Cond.selects RX8 yX8_couldTake yX8_couldTake, Cond.initialized RX8, Cond.code yX8_couldTake cX8_couldTake 6 (some .int), Cond.classLink RX8 78 "java/lang/IndexOutOfBoundsException", Cond.initialized "java/lang/IndexOutOfBoundsException", Cond.fieldLink RX8 59 "CoverSheet" "teamSize" "I", Cond.fieldLink RX8 25 "CoverSheet" "rules" "LCoverSheet$Rules;", Cond.methodLink RX8 71 yX8_isDay, Cond.static yX8_isDay, Cond.code yX8_isDay cX8_isDay 1 (some .boolean), Cond.methodLink RX8 75 yX8_isKind, Cond.static yX8_isKind, Cond.code yX8_isKind cX8_isKind 1 (some .boolean), Cond.methodLink RX8 104 yX8_personAt, Cond.instanceMethod yX8_personAt, Cond.selects RX8 yX8_personAt yX8_personAt, Cond.code yX8_personAt cX8_personAt 2 (some (.object "CoverSheet$Person")), Cond.fieldLink RX8 11 "CoverSheet" "team" "[LCoverSheet$Person;", Cond.methodLink RX8 154 yX7_at, Cond.static yX7_at, Cond.initialized RX7]
def wsL_couldTake_r2 : List Cond := [Cond.code yX7_at cX7_at 2 (some .int), Cond.methodLink RX7 9 yX7_placeOf, Cond.static yX7_placeOf, Cond.code yX7_placeOf cX7_placeOf 1 (some .int), Cond.methodLink RX8 144 yX7_with, Cond.static yX7_with, Cond.code yX7_with cX7_with 4 (some .int), Cond.methodLink RX8 148 yX4_canHave, Cond.instanceMethod yX4_canHave, Cond.selects RX4 yX4_canHave yX4_canHave, Cond.initialized RX4, Cond.code yX4_canHave cX4_canHave 7 (some .boolean), Cond.fieldLink RX4 41 "CoverSheet$Person" "lastEntry" "I", Cond.fieldLink RX4 44 "CoverSheet$Person" "daysInARow" "I", Cond.fieldLink RX4 15 "CoverSheet$Person" "most" "I", Cond.methodLink RX4 24 yX7_at, Cond.methodLink RX4 47 yX4_mayHave, Cond.instanceMethod yX4_mayHave, Cond.selects RX4 yX4_mayHave yX4_mayHave, Cond.code yX4_mayHave cX4_mayHave 4 (some .boolean), Cond.fieldLink RX4 9 "CoverSheet$Person" "skills" "I", Cond.methodLink RX4 37 yX4_fixedAt, Cond.instanceMethod yX4_fixedAt, Cond.selects RX4 yX4_fixedAt yX4_fixedAt]
def wsL_couldTake_r3 : List Cond := [Cond.code yX4_fixedAt cX4_fixedAt 2 (some .int), Cond.fieldLink RX4 34 "CoverSheet$Person" "fixed" "I", Cond.methodLink RX4 50 yX6_allow, Cond.instanceMethod yX6_allow, Cond.selects RX6 yX6_allow yX6_allow, Cond.initialized RX6, Cond.code yX6_allow cX6_allow 4 (some .boolean), Cond.fieldLink RX6 19 "CoverSheet$Rules" "longestRun" "I", Cond.fieldLink RX6 15 "CoverSheet$Rules" "forbidden" "I", Cond.methodLink RX6 9 yX6_pairOf, Cond.static yX6_pairOf, Cond.code yX6_pairOf cX6_pairOf 2 (some .int), Cond.methodLink RX4 56 yX7_shiftsFrom, Cond.static yX7_shiftsFrom, Cond.code yX7_shiftsFrom cX7_shiftsFrom 4 (some .int), Cond.methodLink RX7 15 yX7_at]
def wsL_couldTake : List Cond := .codeWith yL_couldTake cL_couldTake 5 (some .int) [(0, 10, 13, 21)] :: ((wsL_couldTake_r1 ++ (wsL_couldTake_r2 ++ wsL_couldTake_r3)) ++ wsX80 ++ wsX40 ++ wsX60 ++ (vx_atS RX8 82 "java/lang/IndexOutOfBoundsException" ["java/lang/RuntimeException", "java/lang/Exception"]).filter goodWord)
def wsL_swapFor_r1 : List Cond := [Cond.classLink RL 21 "java/lang/IndexOutOfBoundsException", Cond.methodLink RL 74 yX8_swapFor, Cond.instanceMethod yX8_swapFor, Cond.selects RX8 yX8_swapFor yX8_swapFor, Cond.initialized RX8, Cond.code yX8_swapFor cX8_swapFor 9 (some .int), Cond.classLink RX8 78 "java/lang/IndexOutOfBoundsException", Cond.initialized "java/lang/IndexOutOfBoundsException", Cond.fieldLink RX8 59 "CoverSheet" "teamSize" "I", Cond.methodLink RX8 104 yX8_personAt, Cond.instanceMethod yX8_personAt, Cond.selects RX8 yX8_personAt yX8_personAt, Cond.code yX8_personAt cX8_personAt 2 (some (.object "CoverSheet$Person")), Cond.fieldLink RX8 11 "CoverSheet" "team" "[LCoverSheet$Person;", Cond.methodLink RX8 71 yX8_isDay, Cond.static yX8_isDay, Cond.code yX8_isDay cX8_isDay 1 (some .boolean), Cond.methodLink RX8 154 yX7_at, Cond.static yX7_at, Cond.initialized RX7, Cond.code yX7_at cX7_at 2 (some .int), Cond.methodLink RX7 9 yX7_placeOf, Cond.static yX7_placeOf, Cond.code yX7_placeOf cX7_placeOf 1 (some .int)]
def wsL_swapFor_r2 : List Cond := [Cond.methodLink RX8 180 yX7_shiftsFrom, Cond.static yX7_shiftsFrom, Cond.code yX7_shiftsFrom cX7_shiftsFrom 4 (some .int), Cond.methodLink RX7 15 yX7_at, Cond.methodLink RX8 159 yX8_couldSwap, Cond.instanceMethod yX8_couldSwap, Cond.selects RX8 yX8_couldSwap yX8_couldSwap, Cond.code yX8_couldSwap cX8_couldSwap 6 (some .boolean), Cond.fieldLink RX8 25 "CoverSheet" "rules" "LCoverSheet$Rules;", Cond.methodLink RX8 144 yX7_with, Cond.static yX7_with, Cond.code yX7_with cX7_with 4 (some .int), Cond.methodLink RX8 148 yX4_canHave, Cond.instanceMethod yX4_canHave, Cond.selects RX4 yX4_canHave yX4_canHave, Cond.initialized RX4, Cond.code yX4_canHave cX4_canHave 7 (some .boolean), Cond.fieldLink RX4 41 "CoverSheet$Person" "lastEntry" "I", Cond.fieldLink RX4 44 "CoverSheet$Person" "daysInARow" "I", Cond.fieldLink RX4 15 "CoverSheet$Person" "most" "I", Cond.methodLink RX4 24 yX7_at, Cond.methodLink RX4 47 yX4_mayHave, Cond.instanceMethod yX4_mayHave, Cond.selects RX4 yX4_mayHave yX4_mayHave]
def wsL_swapFor_r3 : List Cond := [Cond.code yX4_mayHave cX4_mayHave 4 (some .boolean), Cond.fieldLink RX4 9 "CoverSheet$Person" "skills" "I", Cond.methodLink RX4 37 yX4_fixedAt, Cond.instanceMethod yX4_fixedAt, Cond.selects RX4 yX4_fixedAt yX4_fixedAt, Cond.code yX4_fixedAt cX4_fixedAt 2 (some .int), Cond.fieldLink RX4 34 "CoverSheet$Person" "fixed" "I", Cond.methodLink RX4 50 yX6_allow, Cond.instanceMethod yX6_allow, Cond.selects RX6 yX6_allow yX6_allow, Cond.initialized RX6, Cond.code yX6_allow cX6_allow 4 (some .boolean), Cond.fieldLink RX6 19 "CoverSheet$Rules" "longestRun" "I", Cond.fieldLink RX6 15 "CoverSheet$Rules" "forbidden" "I", Cond.methodLink RX6 9 yX6_pairOf, Cond.static yX6_pairOf, Cond.code yX6_pairOf cX6_pairOf 2 (some .int), Cond.methodLink RX4 56 yX7_shiftsFrom]
def wsL_swapFor : List Cond := .codeWith yL_swapFor cL_swapFor 5 (some .int) [(0, 10, 13, 21)] :: ((wsL_swapFor_r1 ++ (wsL_swapFor_r2 ++ wsL_swapFor_r3)) ++ wsX80 ++ wsX40 ++ wsX60 ++ (vx_atS RX8 82 "java/lang/IndexOutOfBoundsException" ["java/lang/RuntimeException", "java/lang/Exception"]).filter goodWord)
end
section
def wsL_law0_r1 : List Cond := [Cond.classLink RL 8 RX8, Cond.instantiable RX8 9, Cond.initialized RX8, Cond.classLink RL 78 RX9, Cond.instantiable RX9 15, Cond.initialized RX9, Cond.arrayClass .long, Cond.methodLink RL 77 yX8_init, Cond.instanceMethod yX8_init, Cond.code yX8_init cX8_init 1 none, Cond.methodLink RX8 3 objectInit, Cond.instanceMethod objectInit, Cond.code objectInit ⟨#[0xb1]⟩ 1 none, Cond.classLink RX8 9 RX4, Cond.fieldLink RX8 11 "CoverSheet" "team" "[LCoverSheet$Person;", Cond.classLink RX8 15 RX3, Cond.instantiable RX3 1, Cond.initialized RX3, Cond.fieldLink RX8 18 "CoverSheet" "needs" "LCoverSheet$Needs;", Cond.classLink RX8 22 RX6, Cond.instantiable RX6 2, Cond.initialized RX6, Cond.fieldLink RX8 25 "CoverSheet" "rules" "LCoverSheet$Rules;", Cond.classLink RX8 29 RX1]
def wsL_law0_r2 : List Cond := [Cond.instantiable RX1 2, Cond.initialized RX1, Cond.fieldLink RX8 32 "CoverSheet" "table" "LCoverSheet$DayTable;", Cond.classLink RX8 36 RX0, Cond.instantiable RX0 0, Cond.initialized RX0, Cond.fieldLink RX8 39 "CoverSheet" "counting" "LCoverSheet$Counting;", Cond.classLink RX8 43 RX5, Cond.instantiable RX5 1, Cond.initialized RX5, Cond.fieldLink RX8 46 "CoverSheet" "pricing" "LCoverSheet$Pricing;", Cond.instanceMethod yX3_init, Cond.code yX3_init cX3_init 1 none, Cond.methodLink RX3 3 objectInit, Cond.arrayClass .int, Cond.fieldLink RX3 9 "CoverSheet$Needs" "numbers" "[I", Cond.instanceMethod yX6_init, Cond.code yX6_init cX6_init 1 none, Cond.methodLink RX6 3 objectInit, Cond.fieldLink RX6 15 "CoverSheet$Rules" "forbidden" "I", Cond.fieldLink RX6 19 "CoverSheet$Rules" "longestRun" "I", Cond.methodLink RX6 9 yX6_pairOf, Cond.static yX6_pairOf, Cond.code yX6_pairOf cX6_pairOf 2 (some .int)]
def wsL_law0_r3 : List Cond := [Cond.instanceMethod yX1_init, Cond.code yX1_init cX1_init 1 none, Cond.methodLink RX1 5 objectInit, Cond.fieldLink RX1 11 "CoverSheet$DayTable" "values" "[J", Cond.fieldLink RX1 15 "CoverSheet$DayTable" "nextValues" "[J", Cond.instanceMethod yX0_init, Cond.code yX0_init cX0_init 1 none, Cond.instanceMethod yX2_init, Cond.initialized RX2, Cond.code yX2_init cX2_init 1 none, Cond.methodLink RX2 1 objectInit, Cond.instanceMethod yX5_init, Cond.code yX5_init cX5_init 1 none, Cond.fieldLink RX5 15 "CoverSheet$Pricing" "prices" "[J", Cond.methodLink RL 80 yX9_init, Cond.instanceMethod yX9_init, Cond.code yX9_init cX9_init 1 none, Cond.methodLink RX9 1 objectInit, Cond.fieldLink RX9 7 "CoverSheetModel" "run" "I", Cond.fieldLink RX9 13 "CoverSheetModel" "skills" "[I", Cond.fieldLink RX9 17 "CoverSheetModel" "most" "[I", Cond.fieldLink RX9 20 "CoverSheetModel" "need" "[I", Cond.fieldLink RX9 23 "CoverSheetModel" "barred" "[I", Cond.fieldLink RX9 26 "CoverSheetModel" "entries" "[I"]
def wsL_law0_r4 : List Cond := [Cond.fieldLink RX9 29 "CoverSheetModel" "fixed" "[I", Cond.fieldLink RX9 32 "CoverSheetModel" "wished" "[I", Cond.fieldLink RX9 35 "CoverSheetModel" "last" "[I", Cond.fieldLink RX9 38 "CoverSheetModel" "before" "[I", Cond.fieldLink RX9 41 "CoverSheetModel" "ends" "[I", Cond.methodLink RL 81 yL_addPerson, Cond.static yL_addPerson, Cond.initialized RL, Cond.codeWith yL_addPerson cL_addPerson 5 (some .int) [(0, 10, 13, 13), (0, 10, 17, 15)], Cond.classLink RL 13 "java/lang/IllegalArgumentException", Cond.classLink RL 15 "java/lang/IllegalStateException", Cond.methodLink RL 7 yX8_addPerson, Cond.instanceMethod yX8_addPerson, Cond.selects RX8 yX8_addPerson yX8_addPerson, Cond.code yX8_addPerson cX8_addPerson 3 (some .int), Cond.classLink RX8 50 "java/lang/IllegalArgumentException", Cond.initialized "java/lang/IllegalArgumentException", Cond.classLink RX8 63 "java/lang/IllegalStateException", Cond.initialized "java/lang/IllegalStateException", Cond.fieldLink RX8 59 "CoverSheet" "teamSize" "I", Cond.instantiable RX4 8, Cond.initialized RX4, Cond.instanceMethod yX4_init, Cond.code yX4_init cX4_init 3 none]
def wsL_law0_r5 : List Cond := [Cond.methodLink RX4 3 objectInit, Cond.fieldLink RX4 9 "CoverSheet$Person" "skills" "I", Cond.fieldLink RX4 15 "CoverSheet$Person" "most" "I", Cond.methodLink RL 86 yX9_addPerson, Cond.instanceMethod yX9_addPerson, Cond.selects RX9 yX9_addPerson yX9_addPerson, Cond.code yX9_addPerson cX9_addPerson 4 (some .int), Cond.fieldLink RX9 44 "CoverSheetModel" "thrown" "I", Cond.fieldLink RX9 47 "CoverSheetModel" "many" "I", Cond.methodLink RX9 50 yX9_in, Cond.static yX9_in, Cond.code yX9_in cX9_in 3 (some .boolean), Cond.methodLink RX9 66 yX9_fails, Cond.instanceMethod yX9_fails, Cond.selects RX9 yX9_fails yX9_fails, Cond.code yX9_fails cX9_fails 2 (some .int), Cond.methodLink RL 87 yX9_thrown, Cond.instanceMethod yX9_thrown, Cond.selects RX9 yX9_thrown yX9_thrown, Cond.code yX9_thrown cX9_thrown 1 (some .int), Cond.methodLink RL 91 yL_setNeed, Cond.static yL_setNeed, Cond.codeWith yL_setNeed cL_setNeed 6 (some .int) [(0, 12, 15, 21), (0, 12, 19, 13)], Cond.classLink RL 21 "java/lang/IndexOutOfBoundsException"]
def wsL_law0_r6 : List Cond := [Cond.methodLink RL 17 yX8_setNeed, Cond.instanceMethod yX8_setNeed, Cond.selects RX8 yX8_setNeed yX8_setNeed, Cond.code yX8_setNeed cX8_setNeed 5 (some .int), Cond.classLink RX8 78 "java/lang/IndexOutOfBoundsException", Cond.initialized "java/lang/IndexOutOfBoundsException", Cond.methodLink RX8 71 yX8_isDay, Cond.static yX8_isDay, Cond.code yX8_isDay cX8_isDay 1 (some .boolean), Cond.methodLink RX8 75 yX8_isKind, Cond.static yX8_isKind, Cond.code yX8_isKind cX8_isKind 1 (some .boolean), Cond.methodLink RX8 85 yX3_of, Cond.instanceMethod yX3_of, Cond.selects RX3 yX3_of yX3_of, Cond.code yX3_of cX3_of 4 (some .int), Cond.methodLink RX8 89 yX3_put, Cond.instanceMethod yX3_put, Cond.selects RX3 yX3_put yX3_put, Cond.code yX3_put cX3_put 5 none, Cond.methodLink RL 94 yX9_setNeed, Cond.instanceMethod yX9_setNeed, Cond.selects RX9 yX9_setNeed yX9_setNeed, Cond.code yX9_setNeed cX9_setNeed 5 (some .int)]
def wsL_law0_r7 : List Cond := [Cond.methodLink RX9 69 yX9_isDay, Cond.static yX9_isDay, Cond.code yX9_isDay cX9_isDay 1 (some .boolean), Cond.methodLink RX9 72 yX9_isKind, Cond.static yX9_isKind, Cond.code yX9_isKind cX9_isKind 1 (some .boolean), Cond.methodLink RL 95 yL_forbid, Cond.static yL_forbid, Cond.codeWith yL_forbid cL_forbid 6 (some .int) [(0, 19, 22, 21)], Cond.methodLink RL 23 yX8_forbid, Cond.instanceMethod yX8_forbid, Cond.selects RX8 yX8_forbid yX8_forbid, Cond.code yX8_forbid cX8_forbid 4 (some .boolean), Cond.methodLink RX8 95 yX6_changeFollowing, Cond.instanceMethod yX6_changeFollowing, Cond.selects RX6 yX6_changeFollowing yX6_changeFollowing, Cond.code yX6_changeFollowing cX6_changeFollowing 5 (some .boolean), Cond.methodLink RL 98 yX9_forbid, Cond.instanceMethod yX9_forbid, Cond.selects RX9 yX9_forbid yX9_forbid, Cond.code yX9_forbid cX9_forbid 6 (some .boolean), Cond.methodLink RL 99 yL_setRun, Cond.static yL_setRun, Cond.codeWith yL_setRun cL_setRun 4 (some .int) [(0, 9, 12, 13)]]
def wsL_law0_r8 : List Cond := [Cond.methodLink RL 27 yX8_setRun, Cond.instanceMethod yX8_setRun, Cond.selects RX8 yX8_setRun yX8_setRun, Cond.code yX8_setRun cX8_setRun 3 (some .int), Cond.methodLink RL 102 yX9_setRun, Cond.instanceMethod yX9_setRun, Cond.selects RX9 yX9_setRun yX9_setRun, Cond.code yX9_setRun cX9_setRun 3 (some .int), Cond.methodLink RL 103 yL_wish, Cond.static yL_wish, Cond.codeWith yL_wish cL_wish 6 (some .int) [(0, 19, 22, 21)], Cond.methodLink RL 31 yX8_wish, Cond.instanceMethod yX8_wish, Cond.selects RX8 yX8_wish yX8_wish, Cond.code yX8_wish cX8_wish 5 (some .boolean), Cond.methodLink RX8 104 yX8_personAt, Cond.instanceMethod yX8_personAt, Cond.selects RX8 yX8_personAt yX8_personAt, Cond.code yX8_personAt cX8_personAt 2 (some (.object "CoverSheet$Person")), Cond.methodLink RX8 110 yX4_changeWish, Cond.instanceMethod yX4_changeWish, Cond.selects RX4 yX4_changeWish yX4_changeWish, Cond.code yX4_changeWish cX4_changeWish 4 (some .boolean), Cond.fieldLink RX4 18 "CoverSheet$Person" "wishes" "I"]
def wsL_law0_r9 : List Cond := [Cond.methodLink RL 105 yX9_wish, Cond.instanceMethod yX9_wish, Cond.selects RX9 yX9_wish yX9_wish, Cond.code yX9_wish cX9_wish 5 (some .boolean), Cond.methodLink RX9 54 yX9_isPerson, Cond.instanceMethod yX9_isPerson, Cond.selects RX9 yX9_isPerson yX9_isPerson, Cond.code yX9_isPerson cX9_isPerson 2 (some .boolean), Cond.methodLink RL 106 yL_fix, Cond.static yL_fix, Cond.codeWith yL_fix cL_fix 6 (some .int) [(0, 12, 15, 21), (0, 12, 19, 13)], Cond.methodLink RL 34 yX8_fix, Cond.instanceMethod yX8_fix, Cond.selects RX8 yX8_fix yX8_fix, Cond.code yX8_fix cX8_fix 6 (some .int), Cond.methodLink RX8 114 yX8_isEntry, Cond.static yX8_isEntry, Cond.code yX8_isEntry cX8_isEntry 1 (some .boolean), Cond.methodLink RX8 119 yX4_fixedAt, Cond.instanceMethod yX4_fixedAt, Cond.selects RX4 yX4_fixedAt yX4_fixedAt, Cond.code yX4_fixedAt cX4_fixedAt 2 (some .int), Cond.fieldLink RX4 34 "CoverSheet$Person" "fixed" "I", Cond.methodLink RX8 123 yX4_changeFixed]
def wsL_law0_r10 : List Cond := [Cond.instanceMethod yX4_changeFixed, Cond.selects RX4 yX4_changeFixed yX4_changeFixed, Cond.code yX4_changeFixed cX4_changeFixed 4 none, Cond.methodLink RL 108 yX9_fix, Cond.instanceMethod yX9_fix, Cond.selects RX9 yX9_fix yX9_fix, Cond.code yX9_fix cX9_fix 5 (some .int), Cond.methodLink RL 109 yX8_plan, Cond.instanceMethod yX8_plan, Cond.selects RX8 yX8_plan yX8_plan, Cond.code yX8_plan cX8_plan 5 (some .int), Cond.fieldLink RX8 135 "CoverSheet" "lastRounds" "I", Cond.methodLink RX8 131 yX8_planRound, Cond.instanceMethod yX8_planRound, Cond.selects RX8 yX8_planRound yX8_planRound, Cond.code yX8_planRound cX8_planRound 7 (some .boolean), Cond.methodLink RX8 207 yX8_chosenWeek, Cond.instanceMethod yX8_chosenWeek, Cond.selects RX8 yX8_chosenWeek yX8_chosenWeek, Cond.code yX8_chosenWeek cX8_chosenWeek 5 (some .int), Cond.methodLink RX8 174 yX8_gapWithout, Cond.instanceMethod yX8_gapWithout, Cond.selects RX8 yX8_gapWithout yX8_gapWithout, Cond.code yX8_gapWithout cX8_gapWithout 9 (some .int)]
def wsL_law0_r11 : List Cond := [Cond.methodLink RX8 196 Lib.Math.max.name, Cond.static Lib.Math.max.name, Cond.initialized "java/lang/Math", Cond.code Lib.Math.max.name Lib.Math.max.code 2 (some .int), Cond.methodLink RX8 154 yX7_at, Cond.static yX7_at, Cond.initialized RX7, Cond.code yX7_at cX7_at 2 (some .int), Cond.methodLink RX7 9 yX7_placeOf, Cond.static yX7_placeOf, Cond.code yX7_placeOf cX7_placeOf 1 (some .int), Cond.methodLink RX8 211 yX5_priceOf, Cond.static yX5_priceOf, Cond.code yX5_priceOf cX5_priceOf 6 (some .long), Cond.constantLong RX5 23 (4503599627370496), Cond.constantLong RX5 25 (562949953421312), Cond.constantLong RX5 27 (131072), Cond.constantLong RX5 39 (16384), Cond.methodLink RX5 19 yX7_with, Cond.static yX7_with, Cond.code yX7_with cX7_with 4 (some .int), Cond.methodLink RX5 35 yX4_breaksWish, Cond.instanceMethod yX4_breaksWish, Cond.selects RX4 yX4_breaksWish yX4_breaksWish]
def wsL_law0_r12 : List Cond := [Cond.code yX4_breaksWish cX4_breaksWish 3 (some .boolean), Cond.methodLink RX8 215 yX5_put, Cond.instanceMethod yX5_put, Cond.selects RX5 yX5_put yX5_put, Cond.code yX5_put cX5_put 6 none, Cond.methodLink RX8 189 yX1_through, Cond.instanceMethod yX1_through, Cond.selects RX1 yX1_through yX1_through, Cond.code yX1_through cX1_through 12 (some .long), Cond.methodLink RX1 36 Lib.Math.min.name, Cond.static Lib.Math.min.name, Cond.code Lib.Math.min.name Lib.Math.min.code 2 (some .int), Cond.methodLink RX1 18 ⟨"CoverSheet$Measure", "none", "()J"⟩, Cond.sameMethod "CoverSheet$Measure" "CoverSheet$Measure" "none" "()J", Cond.selects RX0 ⟨"CoverSheet$Measure", "none", "()J"⟩ yX0_none, Cond.instanceMethod yX0_none, Cond.code yX0_none cX0_none 1 (some .long), Cond.selects RX5 ⟨"CoverSheet$Measure", "none", "()J"⟩ yX5_none, Cond.instanceMethod yX5_none, Cond.code yX5_none cX5_none 1 (some .long), Cond.constantLong RX5 41 (9223372036854775807), Cond.methodLink RX1 24 yJ7_fill_d0a16, Cond.static yJ7_fill_d0a16, Cond.initialized RJ7]
def wsL_law0_r13 : List Cond := [Cond.code yJ7_fill_d0a16 cJ7_fill_d0a16 5 none, Cond.methodLink RX1 45 yX1_placeOf, Cond.static yX1_placeOf, Cond.code yX1_placeOf cX1_placeOf 3 (some .int), Cond.methodLink RX1 49 ⟨"CoverSheet$Measure", "start", "()J"⟩, Cond.sameMethod "CoverSheet$Measure" "CoverSheet$Measure" "start" "()J", Cond.selects RX0 ⟨"CoverSheet$Measure", "start", "()J"⟩ yX0_start, Cond.instanceMethod yX0_start, Cond.code yX0_start cX0_start 1 (some .long), Cond.selects RX5 ⟨"CoverSheet$Measure", "start", "()J"⟩ yX5_start, Cond.instanceMethod yX5_start, Cond.code yX5_start cX5_start 1 (some .long), Cond.methodLink RX1 52 yX1_goOn, Cond.instanceMethod yX1_goOn, Cond.selects RX1 yX1_goOn yX1_goOn, Cond.code yX1_goOn cX1_goOn 16 none, Cond.methodLink RX1 63 yX4_mayHave, Cond.instanceMethod yX4_mayHave, Cond.selects RX4 yX4_mayHave yX4_mayHave, Cond.code yX4_mayHave cX4_mayHave 4 (some .boolean), Cond.methodLink RX4 37 yX4_fixedAt, Cond.methodLink RX1 67 yX6_allow, Cond.instanceMethod yX6_allow, Cond.selects RX6 yX6_allow yX6_allow]
def wsL_law0_r14 : List Cond := [Cond.code yX6_allow cX6_allow 4 (some .boolean), Cond.methodLink RX1 73 ⟨"CoverSheet$Measure", "longer", "(JII)J"⟩, Cond.sameMethod "CoverSheet$Measure" "CoverSheet$Measure" "longer" "(JII)J", Cond.selects RX0 ⟨"CoverSheet$Measure", "longer", "(JII)J"⟩ yX0_longer, Cond.instanceMethod yX0_longer, Cond.code yX0_longer cX0_longer 5 (some .long), Cond.selects RX5 ⟨"CoverSheet$Measure", "longer", "(JII)J"⟩ yX5_longer, Cond.instanceMethod yX5_longer, Cond.code yX5_longer cX5_longer 6 (some .long), Cond.methodLink RX1 56 ⟨"CoverSheet$Measure", "joined", "(JJ)J"⟩, Cond.sameMethod "CoverSheet$Measure" "CoverSheet$Measure" "joined" "(JJ)J", Cond.selects RX0 ⟨"CoverSheet$Measure", "joined", "(JJ)J"⟩ yX0_joined, Cond.instanceMethod yX0_joined, Cond.code yX0_joined cX0_joined 5 (some .long), Cond.selects RX5 ⟨"CoverSheet$Measure", "joined", "(JJ)J"⟩ yX5_joined, Cond.instanceMethod yX5_joined, Cond.code yX5_joined cX5_joined 5 (some .long), Cond.methodLink RX5 45 Lib.MathLoose.min_long.x, Cond.static Lib.MathLoose.min_long.x, Cond.code Lib.MathLoose.min_long.x Lib.MathLoose.min_long.code 4 (some .long), Cond.methodLink RX8 218 yX5_weekOf, Cond.static yX5_weekOf, Cond.code yX5_weekOf cX5_weekOf 2 (some .int), Cond.constantLong RX5 43 (16383)]
def wsL_law0_r15 : List Cond := [Cond.methodLink RX8 138 yX8_allGaps, Cond.instanceMethod yX8_allGaps, Cond.selects RX8 yX8_allGaps yX8_allGaps, Cond.code yX8_allGaps cX8_allGaps 4 (some .int), Cond.methodLink RL 112 yX9_plan, Cond.instanceMethod yX9_plan, Cond.selects RX9 yX9_plan yX9_plan, Cond.code yX9_plan cX9_plan 4 (some .int), Cond.fieldLink RX9 99 "CoverSheetModel" "rounds" "I", Cond.methodLink RX9 102 yX9_choice, Cond.instanceMethod yX9_choice, Cond.selects RX9 yX9_choice yX9_choice, Cond.code yX9_choice cX9_choice 7 (some .int), Cond.methodLink RX9 89 yX9_fills, Cond.instanceMethod yX9_fills, Cond.selects RX9 yX9_fills yX9_fills, Cond.code yX9_fills cX9_fills 5 (some .int), Cond.methodLink RX9 79 yX9_gapOf, Cond.instanceMethod yX9_gapOf, Cond.selects RX9 yX9_gapOf yX9_gapOf, Cond.code yX9_gapOf cX9_gapOf 5 (some .int), Cond.methodLink RX9 75 yX9_countEntries, Cond.instanceMethod yX9_countEntries, Cond.selects RX9 yX9_countEntries yX9_countEntries]
def wsL_law0_r16 : List Cond := [Cond.code yX9_countEntries cX9_countEntries 6 (some .int), Cond.methodLink RX9 92 yX9_isPossible, Cond.instanceMethod yX9_isPossible, Cond.selects RX9 yX9_isPossible yX9_isPossible, Cond.code yX9_isPossible cX9_isPossible 9 (some .boolean), Cond.methodLink RX9 62 yX9_countShifts, Cond.static yX9_countShifts, Cond.code yX9_countShifts cX9_countShifts 3 (some .int), Cond.methodLink RX9 58 yX9_entryOf, Cond.static yX9_entryOf, Cond.code yX9_entryOf cX9_entryOf 2 (some .int), Cond.methodLink RX9 96 yX9_price, Cond.instanceMethod yX9_price, Cond.selects RX9 yX9_price yX9_price, Cond.code yX9_price cX9_price 7 (some .int), Cond.constant RX9 85 (100000), Cond.methodLink RX9 82 yX9_weekendOf, Cond.static yX9_weekendOf, Cond.code yX9_weekendOf cX9_weekendOf 1 (some .int), Cond.methodLink RX9 86 yX9_brokenBy, Cond.instanceMethod yX9_brokenBy, Cond.selects RX9 yX9_brokenBy yX9_brokenBy, Cond.code yX9_brokenBy cX9_brokenBy 5 (some .int), Cond.methodLink RX9 105 yX9_weekOf]
def wsL_law0_r17 : List Cond := [Cond.instanceMethod yX9_weekOf, Cond.selects RX9 yX9_weekOf yX9_weekOf, Cond.code yX9_weekOf cX9_weekOf 4 (some .int), Cond.methodLink RX9 108 yX9_enter, Cond.instanceMethod yX9_enter, Cond.selects RX9 yX9_enter yX9_enter, Cond.code yX9_enter cX9_enter 4 none, Cond.methodLink RX9 112 yX9_allGaps, Cond.instanceMethod yX9_allGaps, Cond.selects RX9 yX9_allGaps yX9_allGaps, Cond.code yX9_allGaps cX9_allGaps 4 (some .int), Cond.methodLink RL 113 yX8_rounds, Cond.instanceMethod yX8_rounds, Cond.selects RX8 yX8_rounds yX8_rounds, Cond.code yX8_rounds cX8_rounds 1 (some .int), Cond.methodLink RL 116 yX9_rounds, Cond.instanceMethod yX9_rounds, Cond.selects RX9 yX9_rounds yX9_rounds, Cond.code yX9_rounds cX9_rounds 1 (some .int), Cond.methodLink RL 117 yL_set, Cond.static yL_set, Cond.codeWith yL_set cL_set 6 (some .int) [(0, 12, 15, 21), (0, 12, 19, 13), (0, 12, 23, 15)], Cond.methodLink RL 37 yX8_set, Cond.instanceMethod yX8_set]
def wsL_law0_r18 : List Cond := [Cond.selects RX8 yX8_set yX8_set, Cond.code yX8_set cX8_set 7 (some .int), Cond.methodLink RX8 144 yX7_with, Cond.methodLink RX8 148 yX4_canHave, Cond.instanceMethod yX4_canHave, Cond.selects RX4 yX4_canHave yX4_canHave, Cond.code yX4_canHave cX4_canHave 7 (some .boolean), Cond.fieldLink RX4 41 "CoverSheet$Person" "lastEntry" "I", Cond.fieldLink RX4 44 "CoverSheet$Person" "daysInARow" "I", Cond.methodLink RX4 24 yX7_at, Cond.methodLink RX4 47 yX4_mayHave, Cond.methodLink RX4 50 yX6_allow, Cond.methodLink RX4 56 yX7_shiftsFrom, Cond.static yX7_shiftsFrom, Cond.code yX7_shiftsFrom cX7_shiftsFrom 4 (some .int), Cond.methodLink RX7 15 yX7_at, Cond.methodLink RL 119 yX9_set, Cond.instanceMethod yX9_set, Cond.selects RX9 yX9_set yX9_set, Cond.code yX9_set cX9_set 5 (some .int), Cond.methodLink RX9 116 yX9_with, Cond.static yX9_with, Cond.code yX9_with cX9_with 3 (some .int), Cond.methodLink RL 120 yL_swap]
def wsL_law0_r19 : List Cond := [Cond.static yL_swap, Cond.codeWith yL_swap cL_swap 6 (some .int) [(0, 12, 15, 21), (0, 12, 19, 15)], Cond.methodLink RL 40 yX8_swap, Cond.instanceMethod yX8_swap, Cond.selects RX8 yX8_swap yX8_swap, Cond.code yX8_swap cX8_swap 7 (some .int), Cond.methodLink RX8 159 yX8_couldSwap, Cond.instanceMethod yX8_couldSwap, Cond.selects RX8 yX8_couldSwap yX8_couldSwap, Cond.code yX8_couldSwap cX8_couldSwap 6 (some .boolean), Cond.methodLink RX8 165 yX4_brokenWishes, Cond.instanceMethod yX4_brokenWishes, Cond.selects RX4 yX4_brokenWishes yX4_brokenWishes, Cond.code yX4_brokenWishes cX4_brokenWishes 3 (some .int), Cond.fieldLink RX4 21 "CoverSheet$Person" "week" "I", Cond.methodLink RX4 30 yX4_breaksWish, Cond.methodLink RL 122 yX9_swap, Cond.instanceMethod yX9_swap, Cond.selects RX9 yX9_swap yX9_swap, Cond.code yX9_swap cX9_swap 5 (some .int), Cond.methodLink RX9 119 yX9_canSwap, Cond.instanceMethod yX9_canSwap, Cond.selects RX9 yX9_canSwap yX9_canSwap, Cond.code yX9_canSwap cX9_canSwap 6 (some .boolean)]
def wsL_law0_r20 : List Cond := [Cond.methodLink RL 123 yX8_closeWeek, Cond.instanceMethod yX8_closeWeek, Cond.selects RX8 yX8_closeWeek yX8_closeWeek, Cond.code yX8_closeWeek cX8_closeWeek 5 (some .int), Cond.fieldLink RX8 171 "CoverSheet" "closedWeeks" "I", Cond.methodLink RX8 168 yX4_noteWeek, Cond.instanceMethod yX4_noteWeek, Cond.selects RX4 yX4_noteWeek yX4_noteWeek, Cond.code yX4_noteWeek cX4_noteWeek 2 none, Cond.fieldLink RX4 59 "CoverSheet$Person" "weekendShifts" "I", Cond.methodLink RL 126 yX9_closeWeek, Cond.instanceMethod yX9_closeWeek, Cond.selects RX9 yX9_closeWeek yX9_closeWeek, Cond.code yX9_closeWeek cX9_closeWeek 4 (some .int), Cond.fieldLink RX9 122 "CoverSheetModel" "closed" "I", Cond.methodLink RL 127 yX8_people, Cond.instanceMethod yX8_people, Cond.selects RX8 yX8_people yX8_people, Cond.code yX8_people cX8_people 1 (some .int), Cond.methodLink RL 130 yX9_people, Cond.instanceMethod yX9_people, Cond.selects RX9 yX9_people yX9_people, Cond.code yX9_people cX9_people 1 (some .int), Cond.methodLink RL 131 yL_entry]
def wsL_law0_r21 : List Cond := [Cond.static yL_entry, Cond.codeWith yL_entry cL_entry 5 (some .int) [(0, 10, 13, 21)], Cond.methodLink RL 43 yX8_entry, Cond.instanceMethod yX8_entry, Cond.selects RX8 yX8_entry yX8_entry, Cond.code yX8_entry cX8_entry 4 (some .int), Cond.methodLink RL 133 yX9_entry, Cond.instanceMethod yX9_entry, Cond.selects RX9 yX9_entry yX9_entry, Cond.code yX9_entry cX9_entry 3 (some .int), Cond.methodLink RL 134 yX8_gaps, Cond.instanceMethod yX8_gaps, Cond.selects RX8 yX8_gaps yX8_gaps, Cond.code yX8_gaps cX8_gaps 1 (some .int), Cond.methodLink RL 137 yX9_gaps, Cond.instanceMethod yX9_gaps, Cond.selects RX9 yX9_gaps yX9_gaps, Cond.code yX9_gaps cX9_gaps 1 (some .int), Cond.methodLink RL 138 yL_gap, Cond.static yL_gap, Cond.codeWith yL_gap cL_gap 5 (some .int) [(0, 10, 13, 21)], Cond.methodLink RL 46 yX8_gap, Cond.instanceMethod yX8_gap, Cond.selects RX8 yX8_gap yX8_gap]
def wsL_law0_r22 : List Cond := [Cond.code yX8_gap cX8_gap 3 (some .int), Cond.methodLink RL 140 yX9_gap, Cond.instanceMethod yX9_gap, Cond.selects RX9 yX9_gap yX9_gap, Cond.code yX9_gap cX9_gap 3 (some .int), Cond.methodLink RL 141 yL_shifts, Cond.static yL_shifts, Cond.codeWith yL_shifts cL_shifts 4 (some .int) [(0, 9, 12, 21)], Cond.methodLink RL 49 yX8_shifts, Cond.instanceMethod yX8_shifts, Cond.selects RX8 yX8_shifts yX8_shifts, Cond.code yX8_shifts cX8_shifts 3 (some .int), Cond.methodLink RX8 180 yX7_shiftsFrom, Cond.methodLink RL 143 yX9_shifts, Cond.instanceMethod yX9_shifts, Cond.selects RX9 yX9_shifts yX9_shifts, Cond.code yX9_shifts cX9_shifts 2 (some .int), Cond.methodLink RX9 125 yX9_isAsked, Cond.instanceMethod yX9_isAsked, Cond.selects RX9 yX9_isAsked yX9_isAsked, Cond.code yX9_isAsked cX9_isAsked 2 (some .boolean), Cond.methodLink RL 144 yL_weekends, Cond.static yL_weekends, Cond.codeWith yL_weekends cL_weekends 4 (some .int) [(0, 9, 12, 21)]]
def wsL_law0_r23 : List Cond := [Cond.methodLink RL 52 yX8_weekends, Cond.instanceMethod yX8_weekends, Cond.selects RX8 yX8_weekends yX8_weekends, Cond.code yX8_weekends cX8_weekends 3 (some .int), Cond.methodLink RL 146 yX9_weekends, Cond.instanceMethod yX9_weekends, Cond.selects RX9 yX9_weekends yX9_weekends, Cond.code yX9_weekends cX9_weekends 2 (some .int), Cond.methodLink RL 147 yL_broken, Cond.static yL_broken, Cond.codeWith yL_broken cL_broken 4 (some .int) [(0, 9, 12, 21)], Cond.methodLink RL 55 yX8_broken, Cond.instanceMethod yX8_broken, Cond.selects RX8 yX8_broken yX8_broken, Cond.code yX8_broken cX8_broken 3 (some .int), Cond.methodLink RL 149 yX9_broken, Cond.instanceMethod yX9_broken, Cond.selects RX9 yX9_broken yX9_broken, Cond.code yX9_broken cX9_broken 2 (some .int), Cond.methodLink RL 150 yL_runBefore, Cond.static yL_runBefore, Cond.codeWith yL_runBefore cL_runBefore 4 (some .int) [(0, 9, 12, 21)], Cond.methodLink RL 58 yX8_runBefore, Cond.instanceMethod yX8_runBefore]
def wsL_law0_r24 : List Cond := [Cond.selects RX8 yX8_runBefore yX8_runBefore, Cond.code yX8_runBefore cX8_runBefore 3 (some .int), Cond.methodLink RL 152 yX9_runBefore, Cond.instanceMethod yX9_runBefore, Cond.selects RX9 yX9_runBefore yX9_runBefore, Cond.code yX9_runBefore cX9_runBefore 2 (some .int), Cond.methodLink RL 153 yL_isFeasible, Cond.static yL_isFeasible, Cond.codeWith yL_isFeasible cL_isFeasible 4 (some .int) [(0, 16, 19, 21)], Cond.methodLink RL 61 yX8_isFeasible, Cond.instanceMethod yX8_isFeasible, Cond.selects RX8 yX8_isFeasible yX8_isFeasible, Cond.code yX8_isFeasible cX8_isFeasible 3 (some .boolean), Cond.methodLink RL 155 yX9_isFeasible, Cond.instanceMethod yX9_isFeasible, Cond.selects RX9 yX9_isFeasible yX9_isFeasible, Cond.code yX9_isFeasible cX9_isFeasible 2 (some .boolean), Cond.methodLink RL 156 yL_weeks, Cond.static yL_weeks, Cond.codeWith yL_weeks cL_weeks 4 (some .int) [(0, 9, 12, 21)], Cond.methodLink RL 65 yX8_weeks, Cond.instanceMethod yX8_weeks, Cond.selects RX8 yX8_weeks yX8_weeks, Cond.code yX8_weeks cX8_weeks 5 (some .int)]
def wsL_law0_r25 : List Cond := [Cond.methodLink RL 158 yX9_weeks, Cond.instanceMethod yX9_weeks, Cond.selects RX9 yX9_weeks yX9_weeks, Cond.code yX9_weeks cX9_weeks 2 (some .int), Cond.methodLink RX9 128 yX9_countWeeks, Cond.instanceMethod yX9_countWeeks, Cond.selects RX9 yX9_countWeeks yX9_countWeeks, Cond.code yX9_countWeeks cX9_countWeeks 4 (some .int), Cond.methodLink RL 159 yL_weeksByDays, Cond.static yL_weeksByDays, Cond.codeWith yL_weeksByDays cL_weeksByDays 4 (some .int) [(0, 9, 12, 21)], Cond.methodLink RL 68 yX8_weeksByDays, Cond.instanceMethod yX8_weeksByDays, Cond.selects RX8 yX8_weeksByDays yX8_weeksByDays, Cond.code yX8_weeksByDays cX8_weeksByDays 3 (some .int), Cond.methodLink RL 161 yX9_weeksByDays, Cond.instanceMethod yX9_weeksByDays, Cond.selects RX9 yX9_weeksByDays yX9_weeksByDays, Cond.code yX9_weeksByDays cX9_weeksByDays 2 (some .int), Cond.methodLink RL 162 yL_couldTake, Cond.static yL_couldTake, Cond.codeWith yL_couldTake cL_couldTake 5 (some .int) [(0, 10, 13, 21)], Cond.methodLink RL 71 yX8_couldTake, Cond.instanceMethod yX8_couldTake]
def wsL_law0_r26 : List Cond := [Cond.selects RX8 yX8_couldTake yX8_couldTake, Cond.code yX8_couldTake cX8_couldTake 6 (some .int), Cond.methodLink RL 164 yX9_couldTake, Cond.instanceMethod yX9_couldTake, Cond.selects RX9 yX9_couldTake yX9_couldTake, Cond.code yX9_couldTake cX9_couldTake 6 (some .int), Cond.methodLink RL 165 yL_swapFor, Cond.static yL_swapFor, Cond.codeWith yL_swapFor cL_swapFor 5 (some .int) [(0, 10, 13, 21)], Cond.methodLink RL 74 yX8_swapFor, Cond.instanceMethod yX8_swapFor, Cond.selects RX8 yX8_swapFor yX8_swapFor, Cond.code yX8_swapFor cX8_swapFor 9 (some .int), Cond.methodLink RL 167 yX9_swapFor, Cond.instanceMethod yX9_swapFor, Cond.selects RX9 yX9_swapFor yX9_swapFor, Cond.code yX9_swapFor cX9_swapFor 8 (some .int), Cond.methodLink RL 168 yX8_bound, Cond.instanceMethod yX8_bound, Cond.selects RX8 yX8_bound yX8_bound, Cond.code yX8_bound cX8_bound 3 (some .int), Cond.methodLink RX8 193 yX8_leastGapsOf, Cond.instanceMethod yX8_leastGapsOf, Cond.selects RX8 yX8_leastGapsOf yX8_leastGapsOf]
def wsL_law0_r27 : List Cond := [Cond.code yX8_leastGapsOf cX8_leastGapsOf 6 (some .int), Cond.methodLink RX8 201 yX8_peopleWithOneOf, Cond.instanceMethod yX8_peopleWithOneOf, Cond.selects RX8 yX8_peopleWithOneOf yX8_peopleWithOneOf, Cond.code yX8_peopleWithOneOf cX8_peopleWithOneOf 7 (some .int), Cond.methodLink RL 171 yX9_bound, Cond.instanceMethod yX9_bound, Cond.selects RX9 yX9_bound yX9_bound, Cond.code yX9_bound cX9_bound 3 (some .int), Cond.methodLink RX9 131 yX9_lacking, Cond.instanceMethod yX9_lacking, Cond.selects RX9 yX9_lacking yX9_lacking, Cond.code yX9_lacking cX9_lacking 6 (some .int)]
def wsL_law0 : List Cond := (wsL_law0_r1 ++ (wsL_law0_r2 ++ (wsL_law0_r3 ++ (wsL_law0_r4 ++ (wsL_law0_r5 ++ (wsL_law0_r6 ++ (wsL_law0_r7 ++ (wsL_law0_r8 ++ (wsL_law0_r9 ++ (wsL_law0_r10 ++ (wsL_law0_r11 ++ (wsL_law0_r12 ++ (wsL_law0_r13 ++ (wsL_law0_r14 ++ (wsL_law0_r15 ++ (wsL_law0_r16 ++ (wsL_law0_r17 ++ (wsL_law0_r18 ++ (wsL_law0_r19 ++ (wsL_law0_r20 ++ (wsL_law0_r21 ++ (wsL_law0_r22 ++ (wsL_law0_r23 ++ (wsL_law0_r24 ++ (wsL_law0_r25 ++ (wsL_law0_r26 ++ wsL_law0_r27)))))))))))))))))))))))))) ++ wsX80 ++ wsX90 ++ wsX30 ++ wsX60 ++ wsX10 ++ wsX00 ++ wsX50 ++ wsX40 ++ ([] : List Cond)
def wsL_law : List Cond := wsL_law0 ++ (vx_atS RX8 54 "java/lang/IllegalArgumentException" ["java/lang/RuntimeException", "java/lang/Exception"]).filter goodWord ++ (vx_atS RX8 67 "java/lang/IllegalStateException" ["java/lang/RuntimeException", "java/lang/Exception"]).filter goodWord ++ (vx_atS RX8 82 "java/lang/IndexOutOfBoundsException" ["java/lang/RuntimeException", "java/lang/Exception"]).filter goodWord
set_option maxRecDepth 20000 in
theorem wsL_law0_r1_in0 : ∀ w ∈ wsL_law0_r1, w ∈ lw_tbl := fun w h => (goodIn_p wsL_law0_r1 [49, 52] (by decide +kernel) (by decide +kernel) w h).1
set_option maxRecDepth 20000 in
theorem wsL_law0_r2_in0 : ∀ w ∈ wsL_law0_r2, w ∈ lw_tbl := fun w h => (goodIn_p wsL_law0_r2 [59, 70, 74] (by decide +kernel) (by decide +kernel) w h).1
set_option maxRecDepth 20000 in
theorem wsL_law0_r3_in0 : ∀ w ∈ wsL_law0_r3, w ∈ lw_tbl := fun w h => (goodIn_p wsL_law0_r3 [87, 101, 104, 111, 642] (by decide +kernel) (by decide +kernel) w h).1
set_option maxRecDepth 20000 in
theorem wsL_law0_r4_in0 : ∀ w ∈ wsL_law0_r4, w ∈ lw_tbl := fun w h => (goodIn_p wsL_law0_r4 [314, 403] (by decide +kernel) (by decide +kernel) w h).1
set_option maxRecDepth 20000 in
theorem wsL_law0_r5_in0 : ∀ w ∈ wsL_law0_r5, w ∈ lw_tbl := fun w h => (goodIn_p wsL_law0_r5 [697, 700, 704, 693] (by decide +kernel) (by decide +kernel) w h).1
set_option maxRecDepth 20000 in
theorem wsL_law0_r6_in0 : ∀ w ∈ wsL_law0_r6, w ∈ lw_tbl := fun w h => (goodIn_p wsL_law0_r6 [445, 448, 451, 164, 472, 708] (by decide +kernel) (by decide +kernel) w h).1
set_option maxRecDepth 20000 in
theorem wsL_law0_r7_in0 : ∀ w ∈ wsL_law0_r7, w ∈ lw_tbl := fun w h => (goodIn_p wsL_law0_r7 [711, 714, 479, 484, 718] (by decide +kernel) (by decide +kernel) w h).1
set_option maxRecDepth 20000 in
theorem wsL_law0_r8_in0 : ∀ w ∈ wsL_law0_r8, w ∈ lw_tbl := fun w h => (goodIn_p wsL_law0_r8 [491, 722, 499, 503, 508] (by decide +kernel) (by decide +kernel) w h).1
set_option maxRecDepth 20000 in
theorem wsL_law0_r9_in0 : ∀ w ∈ wsL_law0_r9, w ∈ lw_tbl := fun w h => (goodIn_p wsL_law0_r9 [726, 730, 515, 518, 235] (by decide +kernel) (by decide +kernel) w h).1
set_option maxRecDepth 20000 in
theorem wsL_law0_r10_in0 : ∀ w ∈ wsL_law0_r10, w ∈ lw_tbl := fun w h => (goodIn_p wsL_law0_r10 [524, 734, 148, 152, 156, 160] (by decide +kernel) (by decide +kernel) w h).1
set_option maxRecDepth 20000 in
theorem wsL_law0_r11_in0 : ∀ w ∈ wsL_law0_r11, w ∈ lw_tbl := fun w h => (goodIn_p wsL_law0_r11 [173, 167, 170, 176, 179] (by decide +kernel) (by decide +kernel) w h).1
set_option maxRecDepth 20000 in
theorem wsL_law0_r12_in0 : ∀ w ∈ wsL_law0_r12, w ∈ lw_tbl := fun w h => (goodIn_p wsL_law0_r12 [186, 191, 195, 211, 201, 204] (by decide +kernel) (by decide +kernel) w h).1
set_option maxRecDepth 20000 in
theorem wsL_law0_r13_in0 : ∀ w ∈ wsL_law0_r13, w ∈ lw_tbl := fun w h => (goodIn_p wsL_law0_r13 [208, 214, 220, 223, 227, 231] (by decide +kernel) (by decide +kernel) w h).1
set_option maxRecDepth 20000 in
theorem wsL_law0_r14_in0 : ∀ w ∈ wsL_law0_r14, w ∈ lw_tbl := fun w h => (goodIn_p wsL_law0_r14 [239, 245, 248, 254, 257, 260, 263] (by decide +kernel) (by decide +kernel) w h).1
set_option maxRecDepth 20000 in
theorem wsL_law0_r15_in0 : ∀ w ∈ wsL_law0_r15, w ∈ lw_tbl := fun w h => (goodIn_p wsL_law0_r15 [268, 738, 742, 746, 750] (by decide +kernel) (by decide +kernel) w h).1
set_option maxRecDepth 20000 in
theorem wsL_law0_r16_in0 : ∀ w ∈ wsL_law0_r16, w ∈ lw_tbl := fun w h => (goodIn_p wsL_law0_r16 [754, 758, 761, 764, 768, 771, 776] (by decide +kernel) (by decide +kernel) w h).1
set_option maxRecDepth 20000 in
theorem wsL_law0_r17_in0 : ∀ w ∈ wsL_law0_r17, w ∈ lw_tbl := fun w h => (goodIn_p wsL_law0_r17 [780, 784, 788, 272, 792] (by decide +kernel) (by decide +kernel) w h).1
set_option maxRecDepth 20000 in
theorem wsL_law0_r18_in0 : ∀ w ∈ wsL_law0_r18, w ∈ lw_tbl := fun w h => (goodIn_p wsL_law0_r18 [531, 537, 284, 796, 799] (by decide +kernel) (by decide +kernel) w h).1
set_option maxRecDepth 20000 in
theorem wsL_law0_r19_in0 : ∀ w ∈ wsL_law0_r19, w ∈ lw_tbl := fun w h => (goodIn_p wsL_law0_r19 [547, 552, 557, 803, 807] (by decide +kernel) (by decide +kernel) w h).1
set_option maxRecDepth 20000 in
theorem wsL_law0_r20_in0 : ∀ w ∈ wsL_law0_r20, w ∈ lw_tbl := fun w h => (goodIn_p wsL_law0_r20 [276, 280, 811, 289, 815] (by decide +kernel) (by decide +kernel) w h).1
set_option maxRecDepth 20000 in
theorem wsL_law0_r21_in0 : ∀ w ∈ wsL_law0_r21, w ∈ lw_tbl := fun w h => (goodIn_p wsL_law0_r21 [565, 819, 293, 823] (by decide +kernel) (by decide +kernel) w h).1
set_option maxRecDepth 20000 in
theorem wsL_law0_r22_in0 : ∀ w ∈ wsL_law0_r22, w ∈ lw_tbl := fun w h => (goodIn_p wsL_law0_r22 [572, 827, 579, 831, 835] (by decide +kernel) (by decide +kernel) w h).1
set_option maxRecDepth 20000 in
theorem wsL_law0_r23_in0 : ∀ w ∈ wsL_law0_r23, w ∈ lw_tbl := fun w h => (goodIn_p wsL_law0_r23 [588, 839, 595, 843] (by decide +kernel) (by decide +kernel) w h).1
set_option maxRecDepth 20000 in
theorem wsL_law0_r24_in0 : ∀ w ∈ wsL_law0_r24, w ∈ lw_tbl := fun w h => (goodIn_p wsL_law0_r24 [602, 847, 609, 851, 616] (by decide +kernel) (by decide +kernel) w h).1
set_option maxRecDepth 20000 in
theorem wsL_law0_r25_in0 : ∀ w ∈ wsL_law0_r25, w ∈ lw_tbl := fun w h => (goodIn_p wsL_law0_r25 [855, 859, 623, 863] (by decide +kernel) (by decide +kernel) w h).1
set_option maxRecDepth 20000 in
theorem wsL_law0_r26_in0 : ∀ w ∈ wsL_law0_r26, w ∈ lw_tbl := fun w h => (goodIn_p wsL_law0_r26 [630, 867, 637, 871, 297] (by decide +kernel) (by decide +kernel) w h).1
set_option maxRecDepth 20000 in
theorem wsL_law0_r27_in0 : ∀ w ∈ wsL_law0_r27, w ∈ lw_tbl := fun w h => (goodIn_p wsL_law0_r27 [301, 305, 875, 879] (by decide +kernel) (by decide +kernel) w h).1
set_option maxRecDepth 20000 in
theorem wsX80_in0 : ∀ w ∈ wsX80, w ∈ lw_tbl := fun w h => (goodIn_p wsX80 [] (by decide +kernel) (by decide +kernel) w h).1
set_option maxRecDepth 20000 in
theorem wsX90_in0 : ∀ w ∈ wsX90, w ∈ lw_tbl := fun w h => (goodIn_p wsX90 [] (by decide +kernel) (by decide +kernel) w h).1
set_option maxRecDepth 20000 in
theorem wsX30_in0 : ∀ w ∈ wsX30, w ∈ lw_tbl := fun w h => (goodIn_p wsX30 [] (by decide +kernel) (by decide +kernel) w h).1
set_option maxRecDepth 20000 in
theorem wsX60_in0 : ∀ w ∈ wsX60, w ∈ lw_tbl := fun w h => (goodIn_p wsX60 [] (by decide +kernel) (by decide +kernel) w h).1
set_option maxRecDepth 20000 in
theorem wsX10_in0 : ∀ w ∈ wsX10, w ∈ lw_tbl := fun w h => (goodIn_p wsX10 [] (by decide +kernel) (by decide +kernel) w h).1
set_option maxRecDepth 20000 in
theorem wsX00_in0 : ∀ w ∈ wsX00, w ∈ lw_tbl := fun w h => (goodIn_p wsX00 [] (by decide +kernel) (by decide +kernel) w h).1
set_option maxRecDepth 20000 in
theorem wsX50_in0 : ∀ w ∈ wsX50, w ∈ lw_tbl := fun w h => (goodIn_p wsX50 [] (by decide +kernel) (by decide +kernel) w h).1
set_option maxRecDepth 20000 in
theorem wsX40_in0 : ∀ w ∈ wsX40, w ∈ lw_tbl := fun w h => (goodIn_p wsX40 [] (by decide +kernel) (by decide +kernel) w h).1
theorem wsL_law_in0 : ∀ w ∈ wsL_law0, w ∈ lw_tbl := fun w h => (fun h => (List.mem_append.mp h).elim (fun h => (List.mem_append.mp h).elim (fun h => (List.mem_append.mp h).elim (fun h => (List.mem_append.mp h).elim (fun h => (List.mem_append.mp h).elim (fun h => (List.mem_append.mp h).elim (fun h => (List.mem_append.mp h).elim (fun h => (List.mem_append.mp h).elim (fun h => (List.mem_append.mp h).elim (fun h => (List.mem_append.mp h).elim (wsL_law0_r1_in0 w) (fun h => (List.mem_append.mp h).elim (wsL_law0_r2_in0 w) (fun h => (List.mem_append.mp h).elim (wsL_law0_r3_in0 w) (fun h => (List.mem_append.mp h).elim (wsL_law0_r4_in0 w) (fun h => (List.mem_append.mp h).elim (wsL_law0_r5_in0 w) (fun h => (List.mem_append.mp h).elim (wsL_law0_r6_in0 w) (fun h => (List.mem_append.mp h).elim (wsL_law0_r7_in0 w) (fun h => (List.mem_append.mp h).elim (wsL_law0_r8_in0 w) (fun h => (List.mem_append.mp h).elim (wsL_law0_r9_in0 w) (fun h => (List.mem_append.mp h).elim (wsL_law0_r10_in0 w) (fun h => (List.mem_append.mp h).elim (wsL_law0_r11_in0 w) (fun h => (List.mem_append.mp h).elim (wsL_law0_r12_in0 w) (fun h => (List.mem_append.mp h).elim (wsL_law0_r13_in0 w) (fun h => (List.mem_append.mp h).elim (wsL_law0_r14_in0 w) (fun h => (List.mem_append.mp h).elim (wsL_law0_r15_in0 w) (fun h => (List.mem_append.mp h).elim (wsL_law0_r16_in0 w) (fun h => (List.mem_append.mp h).elim (wsL_law0_r17_in0 w) (fun h => (List.mem_append.mp h).elim (wsL_law0_r18_in0 w) (fun h => (List.mem_append.mp h).elim (wsL_law0_r19_in0 w) (fun h => (List.mem_append.mp h).elim (wsL_law0_r20_in0 w) (fun h => (List.mem_append.mp h).elim (wsL_law0_r21_in0 w) (fun h => (List.mem_append.mp h).elim (wsL_law0_r22_in0 w) (fun h => (List.mem_append.mp h).elim (wsL_law0_r23_in0 w) (fun h => (List.mem_append.mp h).elim (wsL_law0_r24_in0 w) (fun h => (List.mem_append.mp h).elim (wsL_law0_r25_in0 w) (fun h => (List.mem_append.mp h).elim (wsL_law0_r26_in0 w) (wsL_law0_r27_in0 w))))))))))))))))))))))))))) (wsX80_in0 w)) (wsX90_in0 w)) (wsX30_in0 w)) (wsX60_in0 w)) (wsX10_in0 w)) (wsX00_in0 w)) (wsX50_in0 w)) (wsX40_in0 w)) (fun h => absurd h List.not_mem_nil)) h
theorem wsL_law_x0 : ∀ w ∈ (vx_atS RX8 54 "java/lang/IllegalArgumentException" ["java/lang/RuntimeException", "java/lang/Exception"]).filter goodWord, w ∈ lw_tbl := by decide +kernel
theorem wsL_law_x1 : ∀ w ∈ (vx_atS RX8 67 "java/lang/IllegalStateException" ["java/lang/RuntimeException", "java/lang/Exception"]).filter goodWord, w ∈ lw_tbl := by decide +kernel
theorem wsL_law_x2 : ∀ w ∈ (vx_atS RX8 82 "java/lang/IndexOutOfBoundsException" ["java/lang/RuntimeException", "java/lang/Exception"]).filter goodWord, w ∈ lw_tbl := by decide +kernel
theorem wsL_law_in : ∀ w ∈ wsL_law, w ∈ lw_tbl := fun w h => (List.mem_append.mp h).elim (fun h => (List.mem_append.mp h).elim (fun h => (List.mem_append.mp h).elim (fun h => wsL_law_in0 w h) (fun h => wsL_law_x0 w h)) (fun h => wsL_law_x1 w h)) (fun h => wsL_law_x2 w h)
theorem inlX0 : ∀ w ∈ wsX00, w ∈ wsL_law := fun _ h => List.mem_append_left _ (List.mem_append_left _ (List.mem_append_left _ (List.mem_append_left _ (List.mem_append_left _ (List.mem_append_left _ (List.mem_append_right _ h))))))
theorem inX0 : ∀ w ∈ wsX00, w ∈ lw_tbl := fun w h => wsL_law_in w (inlX0 w h)
theorem inlX1 : ∀ w ∈ wsX10, w ∈ wsL_law := fun _ h => List.mem_append_left _ (List.mem_append_left _ (List.mem_append_left _ (List.mem_append_left _ (List.mem_append_left _ (List.mem_append_left _ (List.mem_append_left _ (List.mem_append_right _ h)))))))
theorem inX1 : ∀ w ∈ wsX10, w ∈ lw_tbl := fun w h => wsL_law_in w (inlX1 w h)
theorem inX2 : ∀ w ∈ wsX20, w ∈ lw_tbl := by decide +kernel
theorem inlX3 : ∀ w ∈ wsX30, w ∈ wsL_law := fun _ h => List.mem_append_left _ (List.mem_append_left _ (List.mem_append_left _ (List.mem_append_left _ (List.mem_append_left _ (List.mem_append_left _ (List.mem_append_left _ (List.mem_append_left _ (List.mem_append_left _ (List.mem_append_right _ h)))))))))
theorem inX3 : ∀ w ∈ wsX30, w ∈ lw_tbl := fun w h => wsL_law_in w (inlX3 w h)
theorem inlX4 : ∀ w ∈ wsX40, w ∈ wsL_law := fun _ h => List.mem_append_left _ (List.mem_append_left _ (List.mem_append_left _ (List.mem_append_left _ (List.mem_append_right _ h))))
theorem inX4 : ∀ w ∈ wsX40, w ∈ lw_tbl := fun w h => wsL_law_in w (inlX4 w h)
theorem inlX5 : ∀ w ∈ wsX50, w ∈ wsL_law := fun _ h => List.mem_append_left _ (List.mem_append_left _ (List.mem_append_left _ (List.mem_append_left _ (List.mem_append_left _ (List.mem_append_right _ h)))))
theorem inX5 : ∀ w ∈ wsX50, w ∈ lw_tbl := fun w h => wsL_law_in w (inlX5 w h)
theorem inlX6 : ∀ w ∈ wsX60, w ∈ wsL_law := fun _ h => List.mem_append_left _ (List.mem_append_left _ (List.mem_append_left _ (List.mem_append_left _ (List.mem_append_left _ (List.mem_append_left _ (List.mem_append_left _ (List.mem_append_left _ (List.mem_append_right _ h))))))))
theorem inX6 : ∀ w ∈ wsX60, w ∈ lw_tbl := fun w h => wsL_law_in w (inlX6 w h)
theorem inX7 : ∀ w ∈ wsX70, w ∈ lw_tbl := by decide +kernel
theorem inlX8 : ∀ w ∈ wsX80, w ∈ wsL_law := fun _ h => List.mem_append_left _ (List.mem_append_left _ (List.mem_append_left _ (List.mem_append_left _ (List.mem_append_left _ (List.mem_append_left _ (List.mem_append_left _ (List.mem_append_left _ (List.mem_append_left _ (List.mem_append_left _ (List.mem_append_left _ (List.mem_append_right _ h)))))))))))
theorem inX8 : ∀ w ∈ wsX80, w ∈ lw_tbl := fun w h => wsL_law_in w (inlX8 w h)
theorem inlX9 : ∀ w ∈ wsX90, w ∈ wsL_law := fun _ h => List.mem_append_left _ (List.mem_append_left _ (List.mem_append_left _ (List.mem_append_left _ (List.mem_append_left _ (List.mem_append_left _ (List.mem_append_left _ (List.mem_append_left _ (List.mem_append_left _ (List.mem_append_left _ (List.mem_append_right _ h))))))))))
theorem inX9 : ∀ w ∈ wsX90, w ∈ lw_tbl := fun w h => wsL_law_in w (inlX9 w h)
theorem inJx145de : ∀ w ∈ wsJx145de0, w ∈ lw_tbl := by decide +kernel
theorem inJ9 : ∀ w ∈ wsJ90, w ∈ lw_tbl := by decide +kernel
theorem inJ0 : ∀ w ∈ wsJ00, w ∈ lw_tbl := by decide +kernel
theorem inJ7 : ∀ w ∈ wsJ70, w ∈ lw_tbl := by decide +kernel
abbrev vwCl : List vw_C := [(RX0, TX0, 0), (RX1, TX1, 2), (RX3, TX3, 1), (RX4, TX4, 8), (RX5, TX5, 1), (RX6, TX6, 2), (RX8, TX8, 9), (RX9, TX9, 15)]
end
