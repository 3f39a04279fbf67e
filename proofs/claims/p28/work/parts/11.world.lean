/-! the desk's world: its fixed cells, and the persons -/
def tm (n : Nat) (pa : Nat → Nat) : Nat → Option Nat := fun k => if k < n then some (pa k) else none
theorem tm_in {n i : Nat} {pa : Nat → Nat} (h : i < n) : tm n pa i = some (pa i) := if_pos h
theorem tm_out {n i : Nat} {pa : Nat → Nat} (h : n ≤ i) : tm n pa i = none := if_neg (Nat.not_lt.mpr h)
abbrev per (sk mo wk fx wi la da we : Nat → Nat) (k : Nat) : va_E := .inr (3, [.int (nI (sk k)), .int (nI (mo k)), .int (nI (wk k)), .int (nI (fx k)), .int (nI (wi k)), .int (nI (la k)), .int (nI (da k)), .int (nI (we k))])
def pool (n : Nat) (pa : Nat → Nat) (P : Nat → va_E) : va_W := (List.range n).map (fun k => (pa k, P k))
theorem pool_at {X : va_W} {n k : Nat} {pa : Nat → Nat} {P : Nat → va_E} (h : k < n) : (X ++ pool n pa P)[X.length + k]? = some (pa k, P k) := by
  rw [List.getElem?_append_right (Nat.le_add_right _ _), Nat.add_sub_cancel_left]
  show ((List.range n).map _)[k]? = _
  rw [List.getElem?_map, List.getElem?_range h]; rfl
theorem pool_one {D : va_G} {X : va_W} {n k : Nat} {pa : Nat → Nat} {P : Nat → va_E} {H : Heap} (hP : va_P D vwCl (X ++ pool n pa P) H) (h : k < n) : va_P D vwCl [(pa k, P k)] H := by
  intro i q hq
  match i, hq with
  | 0, hq => cases hq; exact hP _ _ (pool_at h)
  | i + 1, hq => simp at hq
theorem sx_P2 {D : va_G} {x : Nat × va_E} {ws : va_W} {H : Heap} (h1 : va_P D vwCl [x] H) (h2 : va_P D vwCl ws H) : va_P D vwCl (x :: ws) H := by
  intro i q hq
  match i, hq with
  | 0, hq => exact h1 0 q hq
  | i + 1, hq => exact h2 i q hq
abbrev cX (cT : ClassId × ClassId × ClassId) (c : Nat → Nat) (a6 a7 n ro cl fb rn : Nat) (nd : Nat → Nat) (V V2 PR : Nat → Int64) (pa : Nat → Nat) : va_W :=
  [(c 0, .inr (6, [.ref (c 1), .ref (c 2), .ref (c 4), .ref (c 5), .ref (c 8), .ref (c 9), .int (nI n), .int (nI ro), .int (nI cl)])),
   (c 1, .inl (cT.2.2, 8, .inr (.inr (.inr (.inr (tm n pa)))))),
   (c 2, .inr (2, [.ref (c 3)])),
   (c 3, .inl (cT.1, 28, .inl (fun k => nI (nd k)))),
   (c 4, .inr (5, [.int (nI fb), .int (nI rn)])),
   (c 5, .inr (1, [.ref a6, .ref a7])),
   (a6, .inl (cT.2.1, 480, .inr (.inl V))),
   (a7, .inl (cT.2.1, 480, .inr (.inl V2))),
   (c 8, .inr (0, [])),
   (c 9, .inr (4, [.ref (c 10)])),
   (c 10, .inl (cT.2.1, 28, .inr (.inl PR)))]
/-- what the numbers of a desk keep to -/
def wfC (n cl fb rn : Nat) (nd sk mo wk fx wi la da we : Nat → Nat) : Prop := n ≤ 8 ∧ cl < 4096 ∧ fb < 65536 ∧ rn ≤ 14 ∧ (∀ k, nd k ≤ 5) ∧ ∀ k, sk k < 16 ∧ mo k ≤ 7 ∧ wk k < 16384 ∧ fx k < 2 ^ 28 ∧ wi k < 128 ∧ la k < 4 ∧ da k ≤ 7 * cl ∧ we k ≤ 2 * cl
def inj (n : Nat) (pa : Nat → Nat) : Prop := ∀ i j, i < n → j < n → pa i = pa j → i = j
/-! differences that may be negative -/
theorem dif_neg (a : Nat) : -(nI a) = nI 0 - nI a := (Int32.zero_sub _).symm
theorem dif_add (a b c : Nat) : nI a - nI c + nI b = nI (a + b) - nI c := by
  rw [← nI_add, Int32.sub_eq_add_neg, Int32.sub_eq_add_neg, Int32.add_assoc, Int32.add_assoc, Int32.add_comm (-nI c)]
theorem dif_dec (a c : Nat) : nI a - nI c + (-1) = nI a - nI (c + 1) := by
  rw [← nI_1, Int32.sub_eq_add_neg, Int32.sub_eq_add_neg, Int32.neg_add, Int32.sub_eq_add_neg, Int32.add_assoc]
theorem dif_max {l a c : Nat} (h : l < 2 ^ 30 ∧ a < 2 ^ 30 ∧ c < 2 ^ 30) : (if nI l < nI a - nI c then nI a - nI c else nI l) = nI (max l (a - c)) := by
  have e := pk_sub_toInt h.2.1 h.2.2
  by_cases q : nI l < nI a - nI c
  · rw [if_pos q]
    have q2 := Int32.lt_iff_toInt_lt.mp q
    rw [e, nI_toInt (by omega)] at q2
    rw [sx_sub (by omega), Nat.max_eq_right (by omega)]
  · rw [if_neg q]
    have q2 : ¬ (nI l).toInt < (nI a - nI c).toInt := fun z => q (Int32.lt_iff_toInt_lt.mpr z)
    rw [e, nI_toInt (by omega)] at q2
    rw [Nat.max_eq_left (by omega)]
/-- how many of the first k people, w not looked at, have an entry e on day d -/
def cg (n : Nat) (wk : Nat → Nat) (w d e : Nat) : Nat → Nat
  | 0 => 0
  | k + 1 => cg n wk w d e k + (decide (k < n) && (k != w && ent (wk k) d == e)).toNat
theorem cg_le (n : Nat) (wk : Nat → Nat) (w d e k : Nat) : cg n wk w d e k ≤ k := by
  induction k with
  | zero => exact Nat.le_refl _
  | succ k ih =>
    have h := Bool.toNat_le (decide (k < n) && (k != w && ent (wk k) d == e))
    show cg n wk w d e k + _ ≤ _
    omega
theorem cg_0 {n : Nat} {wk : Nat → Nat} {w d e k : Nat} (h : ¬ (k < n ∧ k ≠ w ∧ ent (wk k) d = e)) : cg n wk w d e (k + 1) = cg n wk w d e k := by
  show cg n wk w d e k + (decide (k < n) && (k != w && ent (wk k) d == e)).toNat = _
  rw [show (decide (k < n) && (k != w && ent (wk k) d == e)) = false from Bool.eq_false_iff.mpr (fun q => h (by simpa using q))]; rfl
theorem cg_1 {n : Nat} {wk : Nat → Nat} {w d e k : Nat} (h : k < n ∧ k ≠ w ∧ ent (wk k) d = e) : cg n wk w d e (k + 1) = cg n wk w d e k + 1 := by
  show cg n wk w d e k + (decide (k < n) && (k != w && ent (wk k) d == e)).toNat = _
  rw [show (decide (k < n) && (k != w && ent (wk k) d == e)) = true by simpa using h]; rfl
/-- the gap that is left when w isn't looked at -/
def gpw (n : Nat) (nd wk : Nat → Nat) (w d e : Nat) : Nat := nd (d * 4 + e) - cg n wk w d e 8
/-- the gaps of the kinds ahead of e on day d, of the days ahead of d -/
def gpk (n : Nat) (nd wk : Nat → Nat) (d : Nat) : Nat → Nat
  | 0 => 0
  | k + 1 => gpk n nd wk d k + gpw n nd wk 99 d (k + 1)
def gpd (n : Nat) (nd wk : Nat → Nat) : Nat → Nat
  | 0 => 0
  | d + 1 => gpd n nd wk d + gpk n nd wk d 3
theorem gpk_le {n : Nat} {nd wk : Nat → Nat} (h : ∀ k, nd k ≤ 5) (d k : Nat) : gpk n nd wk d k ≤ 5 * k := by
  induction k with
  | zero => exact Nat.le_refl _
  | succ k ih =>
    have := h (d * 4 + (k + 1))
    show gpk n nd wk d k + (nd (d * 4 + (k + 1)) - _) ≤ _
    omega
theorem gpd_le {n : Nat} {nd wk : Nat → Nat} (h : ∀ k, nd k ≤ 5) (d : Nat) : gpd n nd wk d ≤ 15 * d := by
  induction d with
  | zero => exact Nat.le_refl _
  | succ d ih =>
    have := gpk_le (n := n) (wk := wk) h d 3
    show gpd n nd wk d + gpk n nd wk d 3 ≤ _
    omega
/-- how many people have one of the kinds -/
def pw (n : Nat) (sk : Nat → Nat) (ks : Nat) : Nat → Nat
  | 0 => 0
  | k + 1 => pw n sk ks k + (decide (k < n) && sk k &&& ks != 0).toNat
theorem pw_le (n : Nat) (sk : Nat → Nat) (ks k : Nat) : pw n sk ks k ≤ k := by
  induction k with
  | zero => exact Nat.le_refl _
  | succ k ih =>
    have h := Bool.toNat_le (decide (k < n) && sk k &&& ks != 0)
    show pw n sk ks k + _ ≤ _
    omega
theorem pw_0 {n : Nat} {sk : Nat → Nat} {ks k : Nat} (h : ¬ (k < n ∧ sk k &&& ks ≠ 0)) : pw n sk ks (k + 1) = pw n sk ks k := by
  show pw n sk ks k + (decide (k < n) && sk k &&& ks != 0).toNat = _
  rw [show (decide (k < n) && sk k &&& ks != 0) = false from Bool.eq_false_iff.mpr (fun q => h (by simpa using q))]; rfl
theorem pw_1 {n : Nat} {sk : Nat → Nat} {ks k : Nat} (h : k < n ∧ sk k &&& ks ≠ 0) : pw n sk ks (k + 1) = pw n sk ks k + 1 := by
  show pw n sk ks k + (decide (k < n) && sk k &&& ks != 0).toNat = _
  rw [show (decide (k < n) && sk k &&& ks != 0) = true by simpa using h]; rfl
/-- the need of the kinds up to k among ks on day d -/
def nks (nd : Nat → Nat) (d ks : Nat) : Nat → Nat
  | 0 => 0
  | k + 1 => nks nd d ks k + bit ks (k + 1) * nd (d * 4 + (k + 1))
theorem nks_le {nd : Nat → Nat} (h : ∀ k, nd k ≤ 5) (d ks k : Nat) : nks nd d ks k ≤ 5 * k := by
  induction k with
  | zero => exact Nat.le_refl _
  | succ k ih =>
    have h1 := h (d * 4 + (k + 1))
    have h2 := bit_lt ks (k + 1)
    have h3 : bit ks (k + 1) * nd (d * 4 + (k + 1)) ≤ 1 * 5 := Nat.mul_le_mul (by omega) h1
    show nks nd d ks k + bit ks (k + 1) * nd (d * 4 + (k + 1)) ≤ _
    omega
theorem nks_0 {nd : Nat → Nat} {d ks k : Nat} (h : bit ks (k + 1) = 0) : nks nd d ks (k + 1) = nks nd d ks k := by
  show nks nd d ks k + bit ks (k + 1) * nd (d * 4 + (k + 1)) = _
  rw [h, Nat.zero_mul]; rfl
theorem nks_1 {nd : Nat → Nat} {d ks k : Nat} (h : bit ks (k + 1) ≠ 0) : nks nd d ks (k + 1) = nks nd d ks k + nd (d * 4 + (k + 1)) := by
  have h2 := bit_lt ks (k + 1)
  show nks nd d ks k + bit ks (k + 1) * nd (d * 4 + (k + 1)) = _
  rw [show bit ks (k + 1) = 1 by omega, Nat.one_mul]
/-- the least that lacks on day d, by the sets 0, 2, .. below 2 * j -/
def lks (n : Nat) (nd sk : Nat → Nat) (d : Nat) : Nat → Nat
  | 0 => 0
  | j + 1 => max (lks n nd sk d j) (nks nd d (2 * j) 3 - pw n sk (2 * j) 8)
theorem lks_le {n : Nat} {nd sk : Nat → Nat} (h : ∀ k, nd k ≤ 5) (d j : Nat) : lks n nd sk d j ≤ 15 := by
  induction j with
  | zero => exact Nat.zero_le _
  | succ j ih =>
    have := nks_le h d (2 * j) 3
    show max _ _ ≤ _
    omega
def bnd (n : Nat) (nd sk : Nat → Nat) : Nat → Nat
  | 0 => 0
  | d + 1 => bnd n nd sk d + lks n nd sk d 8
theorem bnd_le {n : Nat} {nd sk : Nat → Nat} (h : ∀ k, nd k ≤ 5) (d : Nat) : bnd n nd sk d ≤ 15 * d := by
  induction d with
  | zero => exact Nat.le_refl _
  | succ d ih =>
    have := lks_le (n := n) (sk := sk) h d 8
    show bnd n nd sk d + lks n nd sk d 8 ≤ _
    omega
theorem wset_eq (w d e : Nat) : wset w d e = 2 ^ (2 * (6 - d)) * (2 ^ 2 * (w / 2 ^ (2 * (6 - d)) / 4) + e) + w % 2 ^ (2 * (6 - d)) := by
  show w - w / 2 ^ (2 * (6 - d)) % 4 * 2 ^ (2 * (6 - d)) + e * 2 ^ (2 * (6 - d)) = _
  rw [w_clr, Nat.add_zero, Nat.mul_add, Nat.mul_comm e]; omega
theorem wset_lt {w d e : Nat} (hw : w < 16384) (hd : d < 7) (he : e < 4) : wset w d e < 16384 := by
  rw [wset_eq]
  have hp : (2 : Nat) ^ (2 * (6 - d)) * 2 ^ (2 * (d + 1)) = 16384 := by
    rw [← Nat.pow_add, show 2 * (6 - d) + 2 * (d + 1) = 14 by omega]
  have hb : w % 2 ^ (2 * (6 - d)) < 2 ^ (2 * (6 - d)) := Nat.mod_lt _ (Nat.two_pow_pos _)
  have ha : w / 2 ^ (2 * (6 - d)) < 2 ^ (2 * (d + 1)) := Nat.div_lt_of_lt_mul (by rw [hp]; exact hw)
  have hq : (2 : Nat) ^ (2 * (d + 1)) = 4 * 2 ^ (2 * d) := by rw [show 2 * (d + 1) = 2 * d + 2 by omega, Nat.pow_add, Nat.mul_comm]
  generalize 2 ^ (2 * (6 - d)) = P at *
  have hc : 2 ^ 2 * (w / P / 4) + e + 1 ≤ 2 ^ (2 * (d + 1)) := by
    rw [hq] at ha ⊢
    generalize 2 ^ (2 * d) = Z at *
    omega
  calc P * (2 ^ 2 * (w / P / 4) + e) + w % P < P * (2 ^ 2 * (w / P / 4) + e) + P := by omega
    _ = P * (2 ^ 2 * (w / P / 4) + e + 1) := by rw [Nat.mul_succ]
    _ ≤ P * 2 ^ (2 * (d + 1)) := Nat.mul_le_mul_left _ hc
    _ = 16384 := hp
/-- a week is feasible for a person -/
def fe (sk mo fx la da : Nat → Nat) (fb rn k w : Nat) : Bool := feas (sk k) (mo k) (nib (fx k)) (bit fb) (la k) (da k) rn w
/-- two people could swap their entries of a day -/
def csw (sk mo wk fx la da : Nat → Nat) (fb rn i j d : Nat) : Bool := fe sk mo fx la da fb rn i (wset (wk i) d (ent (wk j) d)) && fe sk mo fx la da fb rn j (wset (wk j) d (ent (wk i) d))
