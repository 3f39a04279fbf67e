/-! calls of a method by the class of its object, longs, arrays of longs seen otherwise -/
section SXU
variable {p : Program} {l : Launch} {e : Env} {R : Room} {s : State} {m : MethodId} {args : Array Value} {below : List Frame} {meth : Method} {c : Code} {H : Heap} {locs : List Loc} {cells slots : Nat} {Q : State → Prop}
variable {cc bytes : ByteArray} {nL maxL n index : Nat} {Ts ws ws' : List Cond} {own : String} {pc : Nat} {ls : Array Slot} {st rest As : List Value} {ret : Option FieldType} {rm : Room} {D : va_G} {tys : List (ClassId × FieldType)} {wc : va_W} {lv : List (Nat × Value)}
theorem rd_callUl {v : Int64} {x y : MethodName} {C owner : String} {b : Nat} (S : CallFix p m c cc nL s args Ts own) (hM : Met l y ws rm (va_Pc (.ref b :: As) (sx_R D tys wc)) (vp_Sl (fun r => r = v)) 0 0 (fun _ => False)) (hT : GoodIn Ts (va_wsU own index C owner x y ws)) (hw : ws = Cond.code y bytes maxL ret :: ws')
    (hz : Cond.declares ⟨owner, x.name, x.desc⟩ ∈ nw_all) (hd : owner ≠ "java/lang/invoke/MethodHandle" ∧ owner ≠ "java/lang/invoke/VarHandle" ∧ (parseMethodDescriptor x.desc).map (fun d => d.parameters.length) = some n) (hR : rm.cells = 0 ∧ rm.slots = 0 ∧ rm.frames + 1 ≤ R.frames ∧ 8 + (maxL + 11) + rm.locals ≤ R.locals)
    (hP : va_P D vwCl wc H) (hK : KN D tys s) (hrecv : ∃ cell : Cell, H[b]? = some cell ∧ cell.vm.isStatics = false ∧ s.vm.findClass C = some cell.cls) (hl : lv_has ls nL lv) (hst : st = As.reverse ++ .ref b :: rest) (hn : As.length = n) (hroom : (rest.map fun v => v.category).sum ≤ 8) (hcs : cells ≤ R.cells ∧ slots ≤ R.slots) (d : decode cc pc = .ok (.invokevirtual index, 3))
    (kk : W p l e R s m args below meth c H locs cells slots Q (F0 m (pc + 3) ls (.long v :: rest))) : W p l e R s m args below meth c H locs cells slots Q (F0 m pc ls st) :=
  vp_callSl (va_runU (As := As) (rest := rest) S hM (va_cwA n S.2.2.2.2 hT hw hR.1 hR.2.1 (hK.2 _ hz) hd ⟨hR.2.2.1, hR.2.2.2⟩) ⟨sx_blind _ _ _ _, hrecv, fun U hU hW => ⟨rfl, by rw [hU]; exact hP, hK.warm hW⟩⟩ rfl hn hl.1 hst (lv_room hroom) d hcs).run (fun r hr => by rw [hr]; exact kk)
/-- two longs compared, and 'ifne' behind it -/
theorem n_lne (S : CallFix p m c cc nL s args Ts own) {x y : Int64} {tgt : Nat} {off : Int} (d : decode cc pc = .ok (.lcmp, 1)) (d2 : decode cc (pc + 1) = .ok (.ifCond .ne off, 3)) (ht : ((pc + 1 : Nat) : Int) + off = (tgt : Int)) (kt : x ≠ y → W p l e R s m args below meth c H locs cells slots Q (F0 m tgt ls rest)) (kf : x = y → W p l e R s m args below meth c H locs cells slots Q (F0 m (pc + 4) ls rest)) : W p l e R s m args below meth c H locs cells slots Q (F0 m pc ls (.long y :: .long x :: rest)) := by
  have e : lg_cmp x y = 0 ↔ x = y := by
    unfold lg_cmp
    by_cases h : x > y
    · rw [if_pos h]
      constructor
      · intro q; exact absurd q (by decide)
      · intro q; rw [q] at h; exact absurd h Int64.lt_irrefl
    · rw [if_neg h]
      by_cases h2 : x = y
      · rw [if_pos h2]; simp [h2]
      · rw [if_neg h2]
        constructor
        · intro q; exact absurd q (by decide)
        · intro q; exact absurd q h2
  refine W.lcmp S.1 S.2.1 d (lv_if_ne S.1 S.2.1 d2 ht (fun q => kt (fun z => q (e.mpr z))) (fun q => kf (e.mp ?_)))
  first | exact q | exact Decidable.byContradiction q
end SXU
theorem arrV_ext {cA : ClassId} {n : Nat} {f g : Nat → Value} (h : ∀ j, j < n → f j = g j) : arrV cA n f = arrV cA n g := by
  unfold arrV
  have : (fun j : Fin n => f j.val) = (fun j : Fin n => g j.val) := by funext j; exact h j.val j.isLt
  rw [this]
theorem la_P {D : va_G} {ws : va_W} {H : Heap} {a n k0 : Nat} {cA : ClassId} {f g : Nat → Int64} (he : ws[k0]? = some (a, .inl (cA, n, .inr (.inl f)))) (hfg : ∀ j, j < n → f j = g j) (hP : va_P D vwCl ws H) : va_P D vwCl (ws.set k0 (a, .inl (cA, n, .inr (.inl g)))) H := by
  intro k q hq
  by_cases hk : k0 = k
  · subst hk
    rw [List.getElem?_set_self (List.getElem?_eq_some_iff.mp he).1] at hq
    cases hq
    have h1 : H[a]? = some (vp_cell cA (n, .inr (.inl f))) := hP _ _ he
    show H[a]? = some (vp_cell cA (n, .inr (.inl g)))
    rw [h1, vp_cell_l, vp_cell_l]
    exact congrArg some (arrV_ext (fun j hj => by rw [hfg j hj]))
  · rw [List.getElem?_set_ne hk] at hq
    exact hP k q hq
theorem la_D {A : Nat → Prop} {ws : va_W} {a n k0 : Nat} {cA : ClassId} {f g : Nat → Int64} (he : ws[k0]? = some (a, .inl (cA, n, .inr (.inl f)))) (hD : va_D A ws) : va_D A (ws.set k0 (a, .inl (cA, n, .inr (.inl g)))) := by
  have key : ∀ (k : Nat) (q : Nat × va_E), (ws.set k0 (a, .inl (cA, n, .inr (.inl g))))[k]? = some q → ∃ e, ws[k]? = some (q.1, e) := by
    intro k q hq
    by_cases hk : k0 = k
    · subst hk
      rw [List.getElem?_set_self (List.getElem?_eq_some_iff.mp he).1] at hq
      cases hq
      exact ⟨_, he⟩
    · rw [List.getElem?_set_ne hk] at hq
      exact ⟨q.2, hq⟩
  refine ⟨fun i j x y hx hy hxy => ?_, fun k q hq => ?_⟩
  · obtain ⟨e1, h1⟩ := key i x hx
    obtain ⟨e2, h2⟩ := key j y hy
    exact hD.1 i j _ _ h1 h2 hxy
  · obtain ⟨e1, h1⟩ := key k q hq
    exact hD.2 k (q.1, e1) h1
/-- the two rows of the table change places -/
def sw67 (c : Nat → Nat) : Nat → Nat := fun k => if k = 6 then c 7 else if k = 7 then c 6 else c k
theorem perm67 {D : va_G} {x0 x1 x2 x3 x4 x5 x6 x7 x8 x9 x10 : Nat × va_E} {pl : va_W} {H : Heap} (h : va_P D vwCl ([x0, x1, x2, x3, x4, x5, x6, x7, x8, x9, x10] ++ pl) H) : va_P D vwCl ([x0, x1, x2, x3, x4, x5, x7, x6, x8, x9, x10] ++ pl) H := by
  refine h.by (fun k => if k = 6 then 7 else if k = 7 then 6 else k) (fun k q hk => ?_)
  match k, hk with
  | 0, hk => exact hk
  | 1, hk => exact hk
  | 2, hk => exact hk
  | 3, hk => exact hk
  | 4, hk => exact hk
  | 5, hk => exact hk
  | 6, hk => exact hk
  | 7, hk => exact hk
  | k + 8, hk => exact hk
theorem perm67D {A : Nat → Prop} {x0 x1 x2 x3 x4 x5 x6 x7 x8 x9 x10 : Nat × va_E} {pl : va_W} (h : va_D A ([x0, x1, x2, x3, x4, x5, x6, x7, x8, x9, x10] ++ pl)) : va_D A ([x0, x1, x2, x3, x4, x5, x7, x6, x8, x9, x10] ++ pl) := by
  refine h.by (fun k => if k = 6 then 7 else if k = 7 then 6 else k) (fun k q hk => ?_) (fun i j _ _ hij => ?_)
  · match k, hk with
    | 0, hk => exact hk
    | 1, hk => exact hk
    | 2, hk => exact hk
    | 3, hk => exact hk
    | 4, hk => exact hk
    | 5, hk => exact hk
    | 6, hk => exact hk
    | 7, hk => exact hk
    | k + 8, hk => exact hk
  · revert hij
    show (if i = 6 then 7 else if i = 7 then 6 else i) = (if j = 6 then 7 else if j = 7 then 6 else j) → i = j
    intro hij
    split at hij <;> split at hij <;> (try split at hij) <;> (try split at hij) <;> omega
/-! the table: places, a day's step, all days; by a measure (none, start, longer, joined) -/
def pl4 (s r e : Nat) : Nat := (s * 15 + r) * 4 + e
def nx (p e : Nat) : Nat := if e = 0 then pl4 (p / 4 / 15) 0 0 else pl4 (p / 4 / 15 + 1) (p / 4 % 15 + 1) e
def okp (sk mo fx fb rn d p e : Nat) : Bool := (e == 0 || decide (p / 4 / 15 < mo)) && (may sk (nib fx) d e && alw (bit fb) rn (p % 4) (p / 4 % 15) e)
def goE (ok : Nat → Nat → Bool) (lg : Int64 → Nat → Int64) (jn : Int64 → Int64 → Int64) (v : Int64) (p : Nat) (N : Nat → Int64) : Nat → Nat → Int64
  | 0 => N
  | e + 1 => if ok p e = true then vp_updL (goE ok lg jn v p N e) (nx p e) (jn (goE ok lg jn v p N e (nx p e)) (lg v e)) else goE ok lg jn v p N e
def goP (ok : Nat → Nat → Bool) (lg : Int64 → Nat → Int64) (jn : Int64 → Int64 → Int64) (no : Int64) (V : Nat → Int64) : Nat → Nat → Int64
  | 0 => fun _ => no
  | p + 1 => if V p = no then goP ok lg jn no V p else goE ok lg jn (V p) p (goP ok lg jn no V p) 4
def dpV (ok : Nat → Nat → Nat → Bool) (lg : Nat → Int64 → Nat → Int64) (jn : Int64 → Int64 → Int64) (no st : Int64) (first : Nat) : Nat → Nat → Int64
  | 0 => vp_updL (fun _ => no) first st
  | d + 1 => goP (ok d) (lg d) jn no (dpV ok lg jn no st first d) 480
def jf (jn : Int64 → Int64 → Int64) (no : Int64) (V : Nat → Int64) : Nat → Int64
  | 0 => no
  | k + 1 => jn (jf jn no V k) (V k)
theorem goE_y {ok : Nat → Nat → Bool} {lg : Int64 → Nat → Int64} {jn : Int64 → Int64 → Int64} {v : Int64} {p e : Nat} {N : Nat → Int64} (h : ok p e = true) : goE ok lg jn v p N (e + 1) = vp_updL (goE ok lg jn v p N e) (nx p e) (jn (goE ok lg jn v p N e (nx p e)) (lg v e)) := if_pos h
theorem goE_n {ok : Nat → Nat → Bool} {lg : Int64 → Nat → Int64} {jn : Int64 → Int64 → Int64} {v : Int64} {p e : Nat} {N : Nat → Int64} (h : ok p e = false) : goE ok lg jn v p N (e + 1) = goE ok lg jn v p N e := if_neg (by rw [h]; decide)
theorem goP_n {ok : Nat → Nat → Bool} {lg : Int64 → Nat → Int64} {jn : Int64 → Int64 → Int64} {no : Int64} {V : Nat → Int64} {p : Nat} (h : V p = no) : goP ok lg jn no V (p + 1) = goP ok lg jn no V p := if_pos h
theorem goP_y {ok : Nat → Nat → Bool} {lg : Int64 → Nat → Int64} {jn : Int64 → Int64 → Int64} {no : Int64} {V : Nat → Int64} {p : Nat} (h : V p ≠ no) : goP ok lg jn no V (p + 1) = goE ok lg jn (V p) p (goP ok lg jn no V p) 4 := if_neg h
def K52 : Nat := 4503599627370496
def K49 : Nat := 562949953421312
def K17 : Nat := 131072
def K14 : Nat := 16384
theorem k52 : (4503599627370496 : Int64) = lN K52 := rfl
theorem k49 : (562949953421312 : Int64) = lN K49 := rfl
theorem k17 : (131072 : Int64) = lN K17 := rfl
theorem k14 : (16384 : Int64) = lN K14 := rfl
/-- the price of an entry on a day -/
def priN (we wi d e : Nat) (fill : Bool) : Nat := wset 0 d e + (if fill = true then 0 else K52) + (if e = 0 then 0 else K49) + (if e = 0 then 0 else if d < 5 then 0 else K17 * we) + (if brk wi d e = true then K14 else 0)
def wkI (v : Int64) : Int32 := if v = 9223372036854775807 then 0 else (v &&& 16383).toInt32
theorem la_hP {D : va_G} {ws : va_W} {H : Heap} {a n k0 : Nat} {cA : ClassId} {f g : Nat → Int64} (he : ws[k0]? = some (a, .inl (cA, n, .inr (.inl f)))) (hfg : ∀ j, j < n → f j = g j) (hP : va_P D vwCl ws H) : va_P D vwCl (ws.set k0 (a, .inl (cA, n, .inr (.inl g)))) H := la_P he hfg hP
theorem la_hD {A : Nat → Prop} {ws : va_W} {a n k0 : Nat} {cA : ClassId} {f g : Nat → Int64} (he : ws[k0]? = some (a, .inl (cA, n, .inr (.inl f)))) (_ : ∀ j, j < n → f j = g j) (hD : va_D A ws) : va_D A (ws.set k0 (a, .inl (cA, n, .inr (.inl g)))) := la_D he hD
theorem nx_lt {p e mo rn b : Nat} {bar : Nat → Nat} (hp : p < 480) (he : e < 4) (hm : e = 0 ∨ p / 4 / 15 < mo) (hmo : mo ≤ 7) (ha : alw bar rn b (p / 4 % 15) e = true) (hrn : rn ≤ 14) : nx p e < 480 := by
  show (if e = 0 then pl4 (p / 4 / 15) 0 0 else pl4 (p / 4 / 15 + 1) (p / 4 % 15 + 1) e) < 480
  by_cases h : e = 0
  · rw [if_pos h]; show (p / 4 / 15 * 15 + 0) * 4 + 0 < 480; omega
  · rw [if_neg h]
    simp only [alw, Bool.or_eq_true, Bool.and_eq_true, decide_eq_true_eq, beq_iff_eq] at ha
    show ((p / 4 / 15 + 1) * 15 + (p / 4 % 15 + 1)) * 4 + e < 480
    omega
theorem nx_0 {p e : Nat} (h : e = 0) : nI (pl4 (p / 4 / 15) 0 0) = nI (nx p e) := congrArg nI (if_pos h).symm
theorem nx_1 {p e : Nat} (h : e ≠ 0) : nI (pl4 (p / 4 / 15 + 1) (p / 4 % 15 + 1) e) = nI (nx p e) := congrArg nI (if_neg h).symm
theorem okp_y {sk mo fx fb rn d p e : Nat} (h1 : e = 0 ∨ p / 4 / 15 < mo) (h2 : may sk (nib fx) d e = true) (h3 : alw (bit fb) rn (p % 4) (p / 4 % 15) e = true) : okp sk mo fx fb rn d p e = true := by
  show ((e == 0 || decide (p / 4 / 15 < mo)) && (may sk (nib fx) d e && alw (bit fb) rn (p % 4) (p / 4 % 15) e)) = true
  rw [h2, h3]
  simpa using h1
theorem okp_n1 {sk mo fx fb rn d p e : Nat} (h1 : e ≠ 0) (h2 : mo ≤ p / 4 / 15) : okp sk mo fx fb rn d p e = false := by
  show ((e == 0 || decide (p / 4 / 15 < mo)) && _) = false
  rw [show (e == 0) = false by simpa using h1, decide_eq_false (by omega)]; rfl
theorem okp_n2 {sk mo fx fb rn d p e : Nat} (h : may sk (nib fx) d e = false) : okp sk mo fx fb rn d p e = false := by
  show (_ && (may sk (nib fx) d e && _)) = false
  rw [h, Bool.false_and, Bool.and_false]
theorem okp_n3 {sk mo fx fb rn d p e : Nat} (h : alw (bit fb) rn (p % 4) (p / 4 % 15) e = false) : okp sk mo fx fb rn d p e = false := by
  show (_ && (_ && alw (bit fb) rn (p % 4) (p / 4 % 15) e)) = false
  rw [h, Bool.and_false, Bool.and_false]
def swn (c : Nat → Nat) : Nat → Nat → Nat
  | 0 => c
  | d + 1 => sw67 (swn c d)
