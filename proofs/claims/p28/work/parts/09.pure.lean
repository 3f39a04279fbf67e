/-! pure words: entries of a week, bits, what a person may have -/
def ent (w d : Nat) : Nat := w / 2 ^ (2 * (6 - d)) % 4
def bit (x k : Nat) : Nat := x / 2 ^ k % 2
def nib (x d : Nat) : Nat := x / 2 ^ (4 * d) % 16
theorem ent_and (x : Nat) : x &&& 3 = x % 4 := Nat.and_two_pow_sub_one_eq_mod x 2
theorem nib_and (x : Nat) : x &&& 15 = x % 16 := Nat.and_two_pow_sub_one_eq_mod x 4
theorem ent_lt (w d : Nat) : ent w d < 4 := Nat.mod_lt _ (by decide)
theorem nib_lt (x d : Nat) : nib x d < 16 := Nat.mod_lt _ (by decide)
theorem bit_lt (x k : Nat) : bit x k < 2 := Nat.mod_lt _ (by decide)
theorem bit_tb (x k : Nat) : x.testBit k = decide (bit x k = 1) := by
  rw [Nat.testBit_eq_decide_div_mod_eq]; rfl
theorem bit_and (x k : Nat) : x &&& 1 * 2 ^ k = 0 ↔ bit x k = 0 := by
  rw [Nat.one_mul]
  have h := bit_tb x k
  constructor
  · intro q
    have h1 : (x &&& 2 ^ k).testBit k = false := by rw [q]; exact Nat.zero_testBit k
    rw [Nat.testBit_and, Nat.testBit_two_pow_self, Bool.and_true, h] at h1
    have h2 := bit_lt x k
    have h3 : ¬ bit x k = 1 := of_decide_eq_false h1
    omega
  · intro q
    apply Nat.eq_of_testBit_eq
    intro i
    rw [Nat.testBit_and, Nat.zero_testBit, Nat.testBit_two_pow]
    by_cases e : k = i
    · subst e
      rw [h, q]; rfl
    · rw [decide_eq_false e, Bool.and_false]
/-- how many of the k days from day a on are worked -/
def shc (w a : Nat) : Nat → Nat
  | 0 => 0
  | k + 1 => shc w a k + (ent w (a + k) != 0).toNat
theorem shc_le (w a k : Nat) : shc w a k ≤ k := by
  induction k with
  | zero => exact Nat.le_refl _
  | succ k ih =>
    show shc w a k + (ent w (a + k) != 0).toNat ≤ k + 1
    have : (ent w (a + k) != 0).toNat ≤ 1 := Bool.toNat_le _
    omega
theorem shc_s {w a d : Nat} (h : a ≤ d) : shc w a (d + 1 - a) = shc w a (d - a) + (ent w d != 0).toNat := by
  rw [show d + 1 - a = (d - a) + 1 by omega]
  show shc w a (d - a) + (ent w (a + (d - a)) != 0).toNat = _
  rw [show a + (d - a) = d by omega]
theorem shc_s0 {w a d : Nat} (h : a ≤ d) (he : ent w d = 0) : shc w a (d + 1 - a) = shc w a (d - a) := by
  rw [shc_s h, he]; rfl
theorem shc_s1 {w a d : Nat} (h : a ≤ d) (he : ent w d ≠ 0) : shc w a (d + 1 - a) = shc w a (d - a) + 1 := by
  rw [shc_s h, show (ent w d != 0) = true by simp [he]]; rfl
/-- a wish is broken by this entry -/
def brk (wi d e : Nat) : Bool := e != 0 && bit wi d == 1
def brc (wi w : Nat) : Nat → Nat
  | 0 => 0
  | k + 1 => brc wi w k + (brk wi k (ent w k)).toNat
theorem brc_le (wi w k : Nat) : brc wi w k ≤ k := by
  induction k with
  | zero => exact Nat.le_refl _
  | succ k ih =>
    show brc wi w k + (brk wi k (ent w k)).toNat ≤ k + 1
    have := Bool.toNat_le (brk wi k (ent w k))
    omega
theorem brc_0 {wi w k : Nat} (h : brk wi k (ent w k) = false) : brc wi w (k + 1) = brc wi w k := by
  show brc wi w k + (brk wi k (ent w k)).toNat = _
  rw [h]; rfl
theorem brc_1 {wi w k : Nat} (h : brk wi k (ent w k) = true) : brc wi w (k + 1) = brc wi w k + 1 := by
  show brc wi w k + (brk wi k (ent w k)).toNat = _
  rw [h]; rfl
/-- left open by the skills and by what is fixed (fx d: 0 for none, else the entry and one more) -/
def may (sk : Nat) (fx : Nat → Nat) (d e : Nat) : Bool := (fx d == 0 || fx d == e + 1) && (e == 0 || bit sk e == 1)
/-- left open by the rules (bar (4 * kind + next) = 1: forbidden) -/
def alw (bar : Nat → Nat) (rn b r e : Nat) : Bool := e == 0 || (decide (r < rn) && bar (4 * b + e) == 0)
theorem fx_m1 {n : Nat} (h : n < 16) : (nI n - nI 1 = -1) ↔ n = 0 := by
  revert n; decide +kernel
theorem fx_ev {n e : Nat} (h : n < 16) (he : e < 4) : (nI n - nI 1 = nI e) ↔ n = e + 1 := by
  have key : ∀ n, n < 16 → ∀ e, e < 4 → ((nI n - nI 1 = nI e) ↔ n = e + 1) := by decide +kernel
  exact key n h e he
/-- the entry ahead of day d, and the days worked in a row ahead of it -/
def bef (w la : Nat) : Nat → Nat
  | 0 => la
  | d + 1 => ent w d
def rnb (w da : Nat) : Nat → Nat
  | 0 => da
  | d + 1 => if ent w d = 0 then 0 else rnb w da d + 1
/-- nothing is broken on day d -/
def okd (sk : Nat) (fx bar : Nat → Nat) (la da rn w d : Nat) : Bool := may sk fx d (ent w d) && alw bar rn (bef w la d) (rnb w da d) (ent w d)
def okn (sk : Nat) (fx bar : Nat → Nat) (la da rn w : Nat) : Nat → Bool
  | 0 => true
  | d + 1 => okn sk fx bar la da rn w d && okd sk fx bar la da rn w d
/-- a week is feasible -/
def feas (sk mo : Nat) (fx bar : Nat → Nat) (la da rn w : Nat) : Bool := okn sk fx bar la da rn w 7 && decide (shc w 0 7 ≤ mo)
theorem rnb_le (w da : Nat) : ∀ d, rnb w da d ≤ da + d := by
  intro d
  induction d with
  | zero => exact Nat.le_refl _
  | succ d ih =>
    show (if ent w d = 0 then 0 else rnb w da d + 1) ≤ _
    split <;> omega
theorem bef_lt {w la : Nat} (h : la < 4) : ∀ d, bef w la d < 4
  | 0 => h
  | d + 1 => ent_lt w d
theorem okn_f {sk : Nat} {fx bar : Nat → Nat} {la da rn w d : Nat} (h : okd sk fx bar la da rn w d = false) (k : Nat) : okn sk fx bar la da rn w (d + 1 + k) = false := by
  induction k with
  | zero => show (okn sk fx bar la da rn w d && okd sk fx bar la da rn w d) = false; rw [h, Bool.and_false]
  | succ k ih => show (okn sk fx bar la da rn w (d + 1 + k) && okd sk fx bar la da rn w (d + 1 + k)) = false; rw [ih, Bool.false_and]
theorem feas_f {sk mo : Nat} {fx bar : Nat → Nat} {la da rn w d : Nat} (h : okd sk fx bar la da rn w d = false) (hd : d < 7) : feas sk mo fx bar la da rn w = false := by
  have := okn_f h (6 - d)
  rw [show d + 1 + (6 - d) = 7 by omega] at this
  show (okn sk fx bar la da rn w 7 && decide (shc w 0 7 ≤ mo)) = false
  rw [this, Bool.false_and]
theorem r_t {b : Bool} (h : b = true) : nI 1 = nI b.toNat := by rw [h]; rfl
theorem r_f {b : Bool} (h : b = true → False) : nI 0 = nI b.toNat := by rw [Bool.eq_false_iff.mpr h]; rfl
theorem okn_s {sk : Nat} {fx bar : Nat → Nat} {la da rn w d : Nat} (h : okn sk fx bar la da rn w d = true) (h1 : may sk fx d (ent w d) = true) (h2 : alw bar rn (bef w la d) (rnb w da d) (ent w d) = true) : okn sk fx bar la da rn w (d + 1) = true := by
  show (okn sk fx bar la da rn w d && (may sk fx d (ent w d) && alw bar rn (bef w la d) (rnb w da d) (ent w d))) = true
  rw [h, h1, h2]; rfl
theorem okd_1 {sk : Nat} {fx bar : Nat → Nat} {la da rn w d : Nat} (h1 : may sk fx d (ent w d) = false) : okd sk fx bar la da rn w d = false := by
  show (may sk fx d (ent w d) && _) = false
  rw [h1]; rfl
theorem okd_2 {sk : Nat} {fx bar : Nat → Nat} {la da rn w d : Nat} (h2 : alw bar rn (bef w la d) (rnb w da d) (ent w d) = false) : okd sk fx bar la da rn w d = false := by
  show (_ && alw bar rn (bef w la d) (rnb w da d) (ent w d)) = false
  rw [h2, Bool.and_false]
/-- a week with another entry on a day -/
def wset (w d e : Nat) : Nat := w - ent w d * 2 ^ (2 * (6 - d)) + e * 2 ^ (2 * (6 - d))
theorem tb3 (a x b p i : Nat) (hx : x < 4) (hb : b < 2 ^ p) : (2 ^ p * (2 ^ 2 * a + x) + b).testBit i = if i < p then b.testBit i else if i - p < 2 then x.testBit (i - p) else a.testBit (i - p - 2) := by
  rw [Nat.testBit_two_pow_mul_add _ hb]
  split
  · rfl
  · rw [Nat.testBit_two_pow_mul_add a (show x < 2 ^ 2 from hx)]
theorem w_cut (w p : Nat) : w = 2 ^ p * (2 ^ 2 * (w / 2 ^ p / 4) + w / 2 ^ p % 4) + w % 2 ^ p := by
  have h1 := Nat.div_add_mod w (2 ^ p)
  have h2 := Nat.div_add_mod (w / 2 ^ p) 4
  rw [show (2 : Nat) ^ 2 = 4 from rfl, h2, h1]
theorem w_clr (w p : Nat) : w - w / 2 ^ p % 4 * 2 ^ p = 2 ^ p * (2 ^ 2 * (w / 2 ^ p / 4) + 0) + w % 2 ^ p := by
  have h := w_cut w p
  generalize w / 2 ^ p / 4 = a at h ⊢
  generalize w / 2 ^ p % 4 = x at h ⊢
  generalize w % 2 ^ p = b at h ⊢
  subst h
  rw [Nat.mul_add, Nat.add_zero, Nat.mul_comm x]
  omega
theorem t3 : ∀ j, j < 2 → (3 : Nat).testBit j = true := by decide
theorem w_clrI (w p : Nat) : nI w &&& (nI (3 * 2 ^ p) ^^^ (-1)) = nI (w - w / 2 ^ p % 4 * 2 ^ p) := by
  apply sx_inj
  show BitVec.ofNat 32 w &&& (BitVec.ofNat 32 (3 * 2 ^ p) ^^^ BitVec.allOnes 32) = BitVec.ofNat 32 (w - w / 2 ^ p % 4 * 2 ^ p)
  apply BitVec.eq_of_getLsbD_eq
  intro i hi
  rw [BitVec.getLsbD_and, BitVec.getLsbD_xor, BitVec.getLsbD_ofNat, BitVec.getLsbD_ofNat, BitVec.getLsbD_ofNat, BitVec.getLsbD_allOnes, w_clr, show 3 * 2 ^ p = 2 ^ p * (2 ^ 2 * 0 + 3) + 0 by rw [Nat.mul_zero, Nat.zero_add, Nat.add_zero, Nat.mul_comm]]
  have e := congrArg (fun z => Nat.testBit z i) (w_cut w p)
  rw [show w.testBit i = (2 ^ p * (2 ^ 2 * (w / 2 ^ p / 4) + w / 2 ^ p % 4) + w % 2 ^ p).testBit i from e]
  have hb : w % 2 ^ p < 2 ^ p := Nat.mod_lt _ (Nat.two_pow_pos p)
  rw [tb3 _ _ _ p i (Nat.mod_lt _ (by decide)) hb, tb3 0 3 0 p i (by decide) (Nat.two_pow_pos p), tb3 _ 0 _ p i (by decide) hb, decide_eq_true hi]
  by_cases h1 : i < p
  · simp [h1]
  · by_cases h2 : i - p < 2
    · simp [h1, h2, t3 _ h2]
    · simp [h1, h2]
theorem w_or (w e p : Nat) (he : e < 4) : (w - w / 2 ^ p % 4 * 2 ^ p) ||| e * 2 ^ p = w - w / 2 ^ p % 4 * 2 ^ p + e * 2 ^ p := by
  have e1 : w - w / 2 ^ p % 4 * 2 ^ p + e * 2 ^ p = 2 ^ p * (2 ^ 2 * (w / 2 ^ p / 4) + e) + w % 2 ^ p := by
    rw [w_clr, Nat.add_zero, Nat.mul_add, Nat.mul_comm e]; omega
  rw [e1, w_clr]
  have hb : w % 2 ^ p < 2 ^ p := Nat.mod_lt _ (Nat.two_pow_pos p)
  apply Nat.eq_of_testBit_eq
  intro i
  rw [Nat.testBit_or, tb3 _ 0 _ p i (by decide) hb, tb3 _ e _ p i he hb, show e * 2 ^ p = 2 ^ p * (2 ^ 2 * 0 + e) + 0 by rw [Nat.mul_zero, Nat.zero_add, Nat.add_zero, Nat.mul_comm], tb3 0 e 0 p i he (Nat.two_pow_pos p)]
  by_cases h1 : i < p
  · simp [h1]
  · by_cases h2 : i - p < 2
    · simp [h1, h2]
    · simp [h1, h2]
