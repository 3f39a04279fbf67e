/-! the reference's world, in the desk's own numbers, and what its methods answer -/
def enf (wk : Nat → Nat) : Nat → Nat := fun k => ent (wk (k / 7)) (k % 7)
def fxf (fx : Nat → Nat) : Nat → Nat := fun k => nib (fx (k / 7)) (k % 7)
theorem en_at {wk : Nat → Nat} {i d : Nat} (hd : d < 7) : enf wk (7 * i + d) = ent (wk i) d := by
  show ent (wk ((7 * i + d) / 7)) ((7 * i + d) % 7) = _
  rw [show (7 * i + d) / 7 = i by omega, show (7 * i + d) % 7 = d by omega]
theorem fx_at {fx : Nat → Nat} {i d : Nat} (hd : d < 7) : fxf fx (7 * i + d) = nib (fx i) d := by
  show nib (fx ((7 * i + d) / 7)) ((7 * i + d) % 7) = _
  rw [show (7 * i + d) / 7 = i by omega, show (7 * i + d) % 7 = d by omega]
abbrev mX (cT : ClassId × ClassId × ClassId) (q : Nat → Nat) (th n ro cl fb rn : Nat) (nd sk mo wk fx wi la da we : Nat → Nat) : va_W :=
  [(q 0, .inr (7, [.int (nI th), .int (nI n), .int (nI cl), .int (nI ro), .int (nI rn), .ref (q 1), .ref (q 2), .ref (q 3), .ref (q 4), .ref (q 5), .ref (q 6), .ref (q 7), .ref (q 8), .ref (q 9), .ref (q 10)])),
   (q 1, .inl (cT.1, 8, .inl (fun k => nI (sk k)))),
   (q 2, .inl (cT.1, 8, .inl (fun k => nI (mo k)))),
   (q 3, .inl (cT.1, 28, .inl (fun k => nI (nd k)))),
   (q 4, .inl (cT.1, 16, .inl (fun k => nI (bit fb k)))),
   (q 5, .inl (cT.1, 56, .inl (fun k => nI (enf wk k)))),
   (q 6, .inl (cT.1, 56, .inl (fun k => nI (fxf fx k) - nI 1))),
   (q 7, .inl (cT.1, 8, .inl (fun k => nI (wi k)))),
   (q 8, .inl (cT.1, 8, .inl (fun k => nI (la k)))),
   (q 9, .inl (cT.1, 8, .inl (fun k => nI (da k)))),
   (q 10, .inl (cT.1, 8, .inl (fun k => nI (we k))))]
def inb (v lo hi : Int32) : Bool := decide (lo ≤ v) && decide (v ≤ hi)
theorem inb_t {d lo hi : Nat} (h : lo ≤ d ∧ d ≤ hi ∧ hi < 2 ^ 31) : inb (nI d) (nI lo) (nI hi) = true := by
  show (decide (nI lo ≤ nI d) && decide (nI d ≤ nI hi)) = true
  rw [decide_eq_true ((nI_leI (by omega) (by omega)).mpr h.1), decide_eq_true ((nI_leI (by omega) h.2.2).mpr h.2.1)]; rfl
theorem inb_f {x lo hi : Int32} (h : x < lo ∨ hi < x) : inb x lo hi = false := by
  show (decide (lo ≤ x) && decide (x ≤ hi)) = false
  rcases h with h | h
  · rw [decide_eq_false (Int32.not_le.mpr h)]; rfl
  · rw [decide_eq_false (Int32.not_le.mpr h), Bool.and_false]
theorem px_7 {x : Int32} {m : Nat} (h : PX x (m + 1)) (hm : m + 1 < 2 ^ 31) : x < nI 0 ∨ nI m < x := by
  rcases h with h | h
  · exact Or.inl h
  · exact Or.inr (Int32.lt_of_lt_of_le (nI_lt (Nat.lt_succ_self m) hm) h)
theorem px_n {x : Int32} {n : Nat} (h : PX x n) (hn : n ≤ 8) : x < nI 0 ∨ nI n - nI 1 < x := by
  rcases h with h | h
  · exact Or.inl h
  · refine Or.inr (Int32.lt_of_lt_of_le ?_ h)
    revert hn; revert n
    have key : ∀ n, n ≤ 8 → nI n - nI 1 < nI n := by decide +kernel
    intro n _ hn; exact key n hn
theorem inb_n {i n : Nat} (h : i < n) (hn : n ≤ 8) : inb (nI i) (nI 0) (nI n - nI 1) = true := by
  rw [sx_sub (by omega)]; exact inb_t ⟨by omega, by omega, by omega⟩
/-- the first d entries of a week as a number -/
def pre (w d : Nat) : Nat := w / 2 ^ (2 * (7 - d))
theorem pre_0 {w : Nat} (h : w < 16384) : pre w 0 = 0 := Nat.div_eq_of_lt h
theorem pre_7 (w : Nat) : pre w 7 = w := Nat.div_one w
theorem pre_s {w d : Nat} (hd : d < 7) : pre w (d + 1) = 4 * pre w d + ent w d := by
  show w / 2 ^ (2 * (7 - (d + 1))) = 4 * (w / 2 ^ (2 * (7 - d))) + w / 2 ^ (2 * (6 - d)) % 4
  rw [show 7 - (d + 1) = 6 - d by omega, show 2 * (7 - d) = 2 * (6 - d) + 2 by omega, Nat.pow_add, ← Nat.div_div_eq_div_mul]
  generalize w / 2 ^ (2 * (6 - d)) = x
  show x = 4 * (x / 4) + x % 4
  omega
theorem pre_le (w d : Nat) : pre w d ≤ w := Nat.div_le_self _ _
theorem ent_12 {w d : Nat} (hd : d < 7) : w / 2 ^ (12 - 2 * d) &&& 3 = ent w d := by
  rw [ent_and, show 12 - 2 * d = 2 * (6 - d) by omega]; rfl
theorem shc_0 {w d : Nat} (he : ent w d = 0) : shc w 0 (d + 1) = shc w 0 d := by
  have := shc_s0 (a := 0) (Nat.zero_le d) he; exact this
theorem shc_1 {w d : Nat} (he : 0 < ent w d) : shc w 0 (d + 1) = shc w 0 d + 1 := by
  have := shc_s1 (a := 0) (Nat.zero_le d) (Nat.ne_of_gt he); exact this
theorem brk_0 {wi w d : Nat} (h : ent w d = 0 ∨ bit wi d ≠ 1) : brc wi w (d + 1) = brc wi w d := by
  refine brc_0 ?_
  show (ent w d != 0 && bit wi d == 1) = false
  rcases h with h | h
  · simp [h]
  · simp [h]
theorem brk_1 {wi w d : Nat} (h : 0 < ent w d) (h2 : bit wi d = 1) : brc wi w (d + 1) = brc wi w d + 1 := by
  refine brc_1 ?_
  show (ent w d != 0 && bit wi d == 1) = true
  simp [h2]; omega
theorem nz_if (x : Nat) : (x != 0).toNat = if x = 0 then 0 else 1 := by
  by_cases h : x = 0
  · subst h; rfl
  · rw [if_neg h, show (x != 0) = true from bne_iff_ne.mpr h]; rfl
theorem wke (w : Nat) : shc w 5 2 = (if ent w 5 = 0 then 0 else 1) + (if ent w 6 = 0 then 0 else 1) := by
  show 0 + (ent w 5 != 0).toNat + (ent w 6 != 0).toNat = _
  rw [nz_if, nz_if, Nat.zero_add]
theorem nI_m1 {i : Nat} (h : i < 2 ^ 31) : nI i ≠ -1 := by
  intro q
  have := congrArg Int32.toInt q
  rw [nI_toInt h] at this
  have e : ((-1 : Int32)).toInt = -1 := by decide
  omega
theorem cg_n {n : Nat} {wk : Nat → Nat} {w d e : Nat} (k : Nat) : cg n wk w d e (n + k) = cg n wk w d e n := by
  induction k with
  | zero => rfl
  | succ k ih => rw [← Nat.add_assoc, cg_0 (by omega), ih]
theorem cg_8 {n : Nat} (hn : n ≤ 8) (wk : Nat → Nat) (w d e : Nat) : cg n wk w d e n = cg n wk w d e 8 := by
  have := cg_n (n := n) (wk := wk) (w := w) (d := d) (e := e) (8 - n)
  rw [show n + (8 - n) = 8 by omega] at this; exact this.symm
theorem pw_8 {n : Nat} (hn : n ≤ 8) (sk : Nat → Nat) (ks : Nat) : pw n sk ks n = pw n sk ks 8 := by
  have key : ∀ k, pw n sk ks (n + k) = pw n sk ks n := by
    intro k
    induction k with
    | zero => rfl
    | succ k ih => rw [← Nat.add_assoc, pw_0 (by omega), ih]
  have := key (8 - n)
  rw [show n + (8 - n) = 8 by omega] at this; exact this.symm
theorem dif_toI {a c : Nat} (h : a < 2 ^ 30 ∧ c < 2 ^ 30) : (nI a - nI c).toInt = (a : Int) - c := pk_sub_toInt h.1 h.2
theorem dif_le0 {a c : Nat} (h : a < 2 ^ 30 ∧ c < 2 ^ 30) : nI a - nI c ≤ 0 ↔ a ≤ c := by
  rw [Int32.le_iff_toInt_le, dif_toI h, show ((0 : Int32)).toInt = 0 from rfl]; omega
theorem dif_sub (a b c : Nat) : nI a - nI c - nI b = nI a - nI (c + b) := by
  rw [← nI_add, Int32.sub_sub]
theorem dif_leN {a c l : Nat} (h : a < 2 ^ 30 ∧ c < 2 ^ 30 ∧ l < 2 ^ 30) : nI a - nI c ≤ nI l ↔ a ≤ c + l := by
  rw [Int32.le_iff_toInt_le, dif_toI ⟨h.1, h.2.1⟩, nI_toInt (by omega)]; omega
theorem mx_1 {a c l : Nat} (h : a < 2 ^ 30 ∧ c < 2 ^ 30 ∧ l < 2 ^ 30) (q : nI a - nI c ≤ nI l) : nI l = nI (max l (a - c)) := by
  have := (dif_leN h).mp q
  rw [Nat.max_eq_left (by omega)]
theorem mx_2 {a c l : Nat} (h : a < 2 ^ 30 ∧ c < 2 ^ 30 ∧ l < 2 ^ 30) (q : ¬ nI a - nI c ≤ nI l) : nI a - nI c = nI (max l (a - c)) := by
  have : ¬ a ≤ c + l := fun z => q ((dif_leN h).mpr z)
  rw [sx_sub (by omega), Nat.max_eq_right (by omega)]
/-- what gaps a shift would fill if w is left out: a set, by days and kinds, the first m of them looked at -/
def fl (n : Nat) (nd wk : Nat → Nat) (w : Nat) : Nat → Nat
  | 0 => 0
  | m + 1 => fl n nd wk w m ||| (if 0 < gpw n nd wk w (m / 3) (m % 3 + 1) then 1 * 2 ^ (4 * (m / 3) + (m % 3 + 1)) else 0)
theorem fl_s {n : Nat} {nd wk : Nat → Nat} {w d j : Nat} (hj : j < 3) : fl n nd wk w (3 * d + (j + 1)) = fl n nd wk w (3 * d + j) ||| (if 0 < gpw n nd wk w d (j + 1) then 1 * 2 ^ (4 * d + (j + 1)) else 0) := by
  show fl n nd wk w (3 * d + j) ||| (if 0 < gpw n nd wk w ((3 * d + j) / 3) ((3 * d + j) % 3 + 1) then 1 * 2 ^ (4 * ((3 * d + j) / 3) + ((3 * d + j) % 3 + 1)) else 0) = _
  rw [show (3 * d + j) / 3 = d by omega, show (3 * d + j) % 3 = j by omega]
theorem fl_1 {n : Nat} {nd wk : Nat → Nat} {w d j : Nat} (hj : j < 3) (h : 0 < gpw n nd wk w d (j + 1)) : fl n nd wk w (3 * d + j) ||| 1 * 2 ^ (4 * d + (j + 1)) = fl n nd wk w (3 * d + (j + 1)) := by rw [fl_s hj, if_pos h]
theorem fl_0 {n : Nat} {nd wk : Nat → Nat} {w d j : Nat} (hj : j < 3) (h : gpw n nd wk w d (j + 1) = 0) : fl n nd wk w (3 * d + j) ||| 0 = fl n nd wk w (3 * d + (j + 1)) := by rw [fl_s hj, if_neg (by omega)]
theorem fl_lt (n : Nat) (nd wk : Nat → Nat) (w : Nat) : ∀ m, m ≤ 21 → fl n nd wk w m < 2 ^ 28 := by
  intro m
  induction m with
  | zero => intro _; exact (by decide : 0 < 2 ^ 28)
  | succ m ih =>
    intro h
    refine Nat.or_lt_two_pow (ih (by omega)) ?_
    split
    · rw [Nat.one_mul]; exact Nat.pow_lt_pow_right (by decide) (by omega)
    · decide
/-- how many of the first k days fill a gap of the set -/
def fc (f w : Nat) : Nat → Nat
  | 0 => 0
  | k + 1 => fc f w k + (decide (0 < ent w k) && bit f (4 * k + ent w k) == 1).toNat
theorem fc_le (f w k : Nat) : fc f w k ≤ k := by
  induction k with
  | zero => exact Nat.le_refl _
  | succ k ih =>
    have h := Bool.toNat_le (decide (0 < ent w k) && bit f (4 * k + ent w k) == 1)
    show fc f w k + _ ≤ _
    omega
theorem fc_0 {f w k : Nat} (h : ent w k = 0 ∨ bit f (4 * k + ent w k) ≠ 1) : fc f w (k + 1) = fc f w k := by
  show fc f w k + (decide (0 < ent w k) && bit f (4 * k + ent w k) == 1).toNat = _
  rcases h with h | h
  · rw [decide_eq_false (by omega)]; rfl
  · rw [show (bit f (4 * k + ent w k) == 1) = false by simp [h], Bool.and_false]; rfl
theorem fc_1 {f w k : Nat} (h : 0 < ent w k) (h2 : bit f (4 * k + ent w k) = 1) : fc f w (k + 1) = fc f w k + 1 := by
  show fc f w k + (decide (0 < ent w k) && bit f (4 * k + ent w k) == 1).toNat = _
  rw [decide_eq_true h, h2]; rfl
/-- the price of a week -/
def prM (we wi f w : Nat) : Nat := (((7 - fc f w 7) * 8 + shc w 0 7) * 100000 + shc w 5 2 * we) * 8 + brc wi w 7
/-- the week chosen among the first k, and the least price and one more -/
def cst (pr : Nat → Nat) (fs : Nat → Bool) : Nat → Nat × Nat
  | 0 => (0, 0)
  | k + 1 => if fs k = true ∧ ((cst pr fs k).2 = 0 ∨ pr k + 1 < (cst pr fs k).2) then (k, pr k + 1) else cst pr fs k
theorem cst_y {pr : Nat → Nat} {fs : Nat → Bool} {k : Nat} (h : fs k = true) (h2 : (cst pr fs k).2 = 0 ∨ pr k + 1 < (cst pr fs k).2) : cst pr fs (k + 1) = (k, pr k + 1) := if_pos ⟨h, h2⟩
theorem cst_n {pr : Nat → Nat} {fs : Nat → Bool} {k : Nat} (h : fs k = false ∨ (cst pr fs k).2 ≠ 0 ∧ (cst pr fs k).2 ≤ pr k + 1) : cst pr fs (k + 1) = cst pr fs k := by
  refine if_neg (fun q => ?_)
  rcases h with h | h
  · rw [h] at q; exact absurd q.1 (by decide)
  · omega
def cnw (f : Nat → Bool) : Nat → Nat
  | 0 => 0
  | k + 1 => cnw f k + (f k).toNat
theorem cnw_le (f : Nat → Bool) (k : Nat) : cnw f k ≤ k := by
  induction k with
  | zero => exact Nat.le_refl _
  | succ k ih =>
    have := Bool.toNat_le (f k)
    show cnw f k + (f k).toNat ≤ _
    omega
theorem cnw_1 {f : Nat → Bool} {k : Nat} (h : f k = true) : cnw f (k + 1) = cnw f k + 1 := by show cnw f k + (f k).toNat = _; rw [h]; rfl
theorem cnw_0 {f : Nat → Bool} {k : Nat} (h : f k = false) : cnw f (k + 1) = cnw f k := by show cnw f k + (f k).toNat = _; rw [h]; rfl
theorem feas_m {sk mo : Nat} {fx bar : Nat → Nat} {la da rn w d : Nat} (h : (decide (shc w 0 7 ≤ mo) && okn sk fx bar la da rn w d) = false) (hd : d ≤ 7) : feas sk mo fx bar la da rn w = false := by
  show (okn sk fx bar la da rn w 7 && decide (shc w 0 7 ≤ mo)) = false
  rw [Bool.and_eq_false_iff] at h
  rcases h with h | h
  · rw [h, Bool.and_false]
  · have key : ∀ k, okn sk fx bar la da rn w (d + k) = false := by
      intro k
      induction k with
      | zero => exact h
      | succ k ih => show (okn sk fx bar la da rn w (d + k) && _) = false; rw [ih, Bool.false_and]
    have := key (7 - d)
    rw [show d + (7 - d) = 7 by omega] at this
    rw [this, Bool.false_and]
theorem mo_148 {sk fb rn la da w d r1 y r : Nat} {fx : Nat → Nat} {b : Bool} (hz : ∀ b, b < 4 → bit fb (4 * b) = 0) (hr1 : r1 = rnb w da (d + 1)) (hy : y < 4) (hy0 : y = bef w la d) (hr0 : r = rnb w da d)
    (h : (b = true ∧ (ent w d = 0 ∨ bit sk (ent w d) = 1) ∧ (fx d = 0 ∨ fx d = ent w d + 1) ∧ bit fb (4 * y + ent w d) = 0 ∧ r1 ≤ rn) ∨ (b = false ∧ ¬ ((ent w d = 0 ∨ bit sk (ent w d) = 1) ∧ (fx d = 0 ∨ fx d = ent w d + 1) ∧ bit fb (4 * y + ent w d) = 0 ∧ r1 ≤ rn))) : b = okd sk fx (bit fb) la da rn w d := by
  have e : okd sk fx (bit fb) la da rn w d = true ↔ ((ent w d = 0 ∨ bit sk (ent w d) = 1) ∧ (fx d = 0 ∨ fx d = ent w d + 1) ∧ bit fb (4 * y + ent w d) = 0 ∧ r1 ≤ rn) := by
    have hr2 : r1 = if ent w d = 0 then 0 else r + 1 := by rw [hr1, hr0]; rfl
    have hz2 := hz y hy
    rw [hy0] at hz2 ⊢
    simp only [okd, may, alw, ← hr0, Bool.or_eq_true, Bool.and_eq_true, decide_eq_true_eq, beq_iff_eq]
    by_cases he : ent w d = 0
    · rw [if_pos he] at hr2
      rw [he, Nat.add_zero]
      constructor
      · intro q; exact ⟨Or.inl rfl, q.1.1, hz2, by omega⟩
      · intro q; exact ⟨⟨q.2.1, Or.inl rfl⟩, Or.inl rfl⟩
    · rw [if_neg he] at hr2
      constructor
      · intro q
        refine ⟨Or.inr (q.1.2.resolve_left he), q.1.1, (q.2.resolve_left he).2, ?_⟩
        have := (q.2.resolve_left he).1
        omega
      · intro q
        exact ⟨⟨q.2.1, Or.inr (q.1.resolve_left he)⟩, Or.inr ⟨by omega, q.2.2.1⟩⟩
  rcases h with ⟨hb, h⟩ | ⟨hb, h⟩
  · rw [hb, e.mpr h]
  · rw [hb, Bool.eq_false_iff.mpr (fun z => h (e.mp z))]
theorem prM_lt {we : Nat} (h : we ≤ 8192) (wi f w : Nat) : prM we wi f w < 2 ^ 30 := by
  have h1 := fc_le f w 7
  have h2 := shc_le w 0 7
  have h3 := shc_le w 5 2
  have h4 := brc_le wi w 7
  have h5 : shc w 5 2 * we ≤ 2 * 8192 := Nat.mul_le_mul h3 h
  show (((7 - fc f w 7) * 8 + shc w 0 7) * 100000 + shc w 5 2 * we) * 8 + brc wi w 7 < 2 ^ 30
  omega
theorem ch_l {le : Nat} (hl : le ≤ 2 ^ 30) : (nI le - nI 1 = -1) ↔ le = 0 := by
  constructor
  · intro q
    have e := dif_toI (a := le) (c := 1) 
    by_cases h : le = 0
    · exact h
    · rw [sx_sub (by omega)] at q
      exact absurd q (nI_m1 (by omega))
  · intro q; subst q; rfl
theorem ch_lt {pr le : Nat} (hp : pr < 2 ^ 30) (hl : le ≤ 2 ^ 30) (h0 : le ≠ 0) : (nI le - nI 1 ≤ nI pr) ↔ le ≤ pr + 1 := by
  rw [sx_sub (by omega), nI_leI (by omega) (by omega)]; omega
theorem ch_0 {pr : Nat → Nat} {fs : Nat → Bool} {k b le b1 l1 : Nat} (hp : pr k < 2 ^ 30) (hl : le ≤ 2 ^ 30) (hf : fs k = true) (hb : b = (cst pr fs k).1) (hle : le = (cst pr fs k).2)
    (h : (b1 = k ∧ l1 = pr k + 1 ∧ ((nI le - nI 1 = -1) ∨ ¬ (nI le - nI 1 ≤ nI (pr k)))) ∨ (b1 = b ∧ l1 = le ∧ ¬ (nI le - nI 1 = -1) ∧ (nI le - nI 1 ≤ nI (pr k))) ∨ False) : (b1, l1) = cst pr fs (k + 1) := by
  rcases h with ⟨e1, e2, h⟩ | ⟨e1, e2, h, h2⟩ | h
  · rw [e1, e2]
    refine (cst_y hf ?_).symm
    rw [← hle]
    by_cases h0 : le = 0
    · exact Or.inl h0
    · rcases h with h | h
      · exact Or.inl ((ch_l hl).mp h)
      · exact Or.inr (Nat.lt_of_not_le (fun z => h ((ch_lt hp hl h0).mpr z)))
  · have h0 : le ≠ 0 := fun z => h ((ch_l hl).mpr z)
    rw [cst_n (Or.inr ⟨by rw [← hle]; exact h0, by rw [← hle]; exact (ch_lt hp hl h0).mp h2⟩), e1, e2, hb, hle]
  · exact h.elim
theorem ch_1 {pr : Nat → Nat} {fs : Nat → Bool} {k b le b1 l1 : Nat} (hp : pr k < 2 ^ 30) (hl : le ≤ 2 ^ 30) (hf : fs k = true) (hb : b = (cst pr fs k).1) (hle : le = (cst pr fs k).2)
    (h : (b1 = k ∧ l1 = pr k + 1 ∧ ((nI le - nI 1 = -1) ∨ ¬ (nI le - nI 1 ≤ nI (pr k)))) ∨ (b1 = b ∧ l1 = le ∧ ¬ (nI le - nI 1 = -1) ∧ (nI le - nI 1 ≤ nI (pr k))) ∨ False) : b1 = (cst pr fs (k + 1)).1 := congrArg Prod.fst (ch_0 hp hl hf hb hle h)
theorem ch_2 {pr : Nat → Nat} {fs : Nat → Bool} {k b le b1 l1 : Nat} (hp : pr k < 2 ^ 30) (hl : le ≤ 2 ^ 30) (hf : fs k = true) (hb : b = (cst pr fs k).1) (hle : le = (cst pr fs k).2)
    (h : (b1 = k ∧ l1 = pr k + 1 ∧ ((nI le - nI 1 = -1) ∨ ¬ (nI le - nI 1 ≤ nI (pr k)))) ∨ (b1 = b ∧ l1 = le ∧ ¬ (nI le - nI 1 = -1) ∧ (nI le - nI 1 ≤ nI (pr k))) ∨ False) : l1 = (cst pr fs (k + 1)).2 := congrArg Prod.snd (ch_0 hp hl hf hb hle h)
