/-! the law's own arrays, in the desk's own numbers; pure words for its methods -/
def hsel (sk mo wi la da we : Nat → Nat) : Nat → Nat → Nat
  | 0 => sk
  | 1 => mo
  | 2 => wi
  | 3 => la
  | 4 => da
  | 5 => we
  | _ => fun _ => 0
def hfn (sk mo wi la da we : Nat → Nat) : Nat → Nat := fun k => hsel sk mo wi la da we (k % 8) (k / 8)
theorem hf_0 {sk mo wi la da we : Nat → Nat} {i : Nat} : hfn sk mo wi la da we (8 * i) = sk i := by
  show hsel sk mo wi la da we ((8 * i) % 8) ((8 * i) / 8) = _
  rw [show (8 * i) % 8 = 0 by omega, show (8 * i) / 8 = i by omega]; rfl
theorem hs_0 {sk mo wi la da we : Nat → Nat} {i v : Nat} : ∀ j m, hsel (va_up sk i v) mo wi la da we j m = if j = 0 ∧ m = i then v else hsel sk mo wi la da we j m := by
  intro j m
  match j with
  | 0 =>
    show (if m = i then v else sk m) = _
    by_cases h : m = i
    · rw [if_pos h, if_pos ⟨rfl, h⟩]
    · rw [if_neg h, if_neg (fun q => h q.2)]; rfl
  | 1 => rw [if_neg (by omega)]; rfl
  | 2 => rw [if_neg (by omega)]; rfl
  | 3 => rw [if_neg (by omega)]; rfl
  | 4 => rw [if_neg (by omega)]; rfl
  | 5 => rw [if_neg (by omega)]; rfl
  | n + 6 => rw [if_neg (by omega)]; rfl
theorem hf_u0 {sk mo wi la da we : Nat → Nat} {i v : Nat} : (fun x => nI (va_up (hfn sk mo wi la da we) (8 * i) v x)) = (fun x => nI (hfn (va_up sk i v) mo wi la da we x)) := by
  funext x
  congr 1
  show (if x = 8 * i then v else hsel sk mo wi la da we (x % 8) (x / 8)) = hsel (va_up sk i v) mo wi la da we (x % 8) (x / 8)
  rw [hs_0]
  by_cases h : x = 8 * i
  · rw [if_pos h, if_pos (by omega)]
  · rw [if_neg h, if_neg (by omega)]
theorem hf_1 {sk mo wi la da we : Nat → Nat} {i : Nat} : hfn sk mo wi la da we (8 * i + 1) = mo i := by
  show hsel sk mo wi la da we ((8 * i + 1) % 8) ((8 * i + 1) / 8) = _
  rw [show (8 * i + 1) % 8 = 1 by omega, show (8 * i + 1) / 8 = i by omega]; rfl
theorem hs_1 {sk mo wi la da we : Nat → Nat} {i v : Nat} : ∀ j m, hsel sk (va_up mo i v) wi la da we j m = if j = 1 ∧ m = i then v else hsel sk mo wi la da we j m := by
  intro j m
  match j with
  | 0 => rw [if_neg (by omega)]; rfl
  | 1 =>
    show (if m = i then v else mo m) = _
    by_cases h : m = i
    · rw [if_pos h, if_pos ⟨rfl, h⟩]
    · rw [if_neg h, if_neg (fun q => h q.2)]; rfl
  | 2 => rw [if_neg (by omega)]; rfl
  | 3 => rw [if_neg (by omega)]; rfl
  | 4 => rw [if_neg (by omega)]; rfl
  | 5 => rw [if_neg (by omega)]; rfl
  | n + 6 => rw [if_neg (by omega)]; rfl
theorem hf_u1 {sk mo wi la da we : Nat → Nat} {i v : Nat} : (fun x => nI (va_up (hfn sk mo wi la da we) (8 * i + 1) v x)) = (fun x => nI (hfn sk (va_up mo i v) wi la da we x)) := by
  funext x
  congr 1
  show (if x = 8 * i + 1 then v else hsel sk mo wi la da we (x % 8) (x / 8)) = hsel sk (va_up mo i v) wi la da we (x % 8) (x / 8)
  rw [hs_1]
  by_cases h : x = 8 * i + 1
  · rw [if_pos h, if_pos (by omega)]
  · rw [if_neg h, if_neg (by omega)]
theorem hf_2 {sk mo wi la da we : Nat → Nat} {i : Nat} : hfn sk mo wi la da we (8 * i + 2) = wi i := by
  show hsel sk mo wi la da we ((8 * i + 2) % 8) ((8 * i + 2) / 8) = _
  rw [show (8 * i + 2) % 8 = 2 by omega, show (8 * i + 2) / 8 = i by omega]; rfl
theorem hs_2 {sk mo wi la da we : Nat → Nat} {i v : Nat} : ∀ j m, hsel sk mo (va_up wi i v) la da we j m = if j = 2 ∧ m = i then v else hsel sk mo wi la da we j m := by
  intro j m
  match j with
  | 0 => rw [if_neg (by omega)]; rfl
  | 1 => rw [if_neg (by omega)]; rfl
  | 2 =>
    show (if m = i then v else wi m) = _
    by_cases h : m = i
    · rw [if_pos h, if_pos ⟨rfl, h⟩]
    · rw [if_neg h, if_neg (fun q => h q.2)]; rfl
  | 3 => rw [if_neg (by omega)]; rfl
  | 4 => rw [if_neg (by omega)]; rfl
  | 5 => rw [if_neg (by omega)]; rfl
  | n + 6 => rw [if_neg (by omega)]; rfl
theorem hf_u2 {sk mo wi la da we : Nat → Nat} {i v : Nat} : (fun x => nI (va_up (hfn sk mo wi la da we) (8 * i + 2) v x)) = (fun x => nI (hfn sk mo (va_up wi i v) la da we x)) := by
  funext x
  congr 1
  show (if x = 8 * i + 2 then v else hsel sk mo wi la da we (x % 8) (x / 8)) = hsel sk mo (va_up wi i v) la da we (x % 8) (x / 8)
  rw [hs_2]
  by_cases h : x = 8 * i + 2
  · rw [if_pos h, if_pos (by omega)]
  · rw [if_neg h, if_neg (by omega)]
theorem hf_3 {sk mo wi la da we : Nat → Nat} {i : Nat} : hfn sk mo wi la da we (8 * i + 3) = la i := by
  show hsel sk mo wi la da we ((8 * i + 3) % 8) ((8 * i + 3) / 8) = _
  rw [show (8 * i + 3) % 8 = 3 by omega, show (8 * i + 3) / 8 = i by omega]; rfl
theorem hs_3 {sk mo wi la da we : Nat → Nat} {i v : Nat} : ∀ j m, hsel sk mo wi (va_up la i v) da we j m = if j = 3 ∧ m = i then v else hsel sk mo wi la da we j m := by
  intro j m
  match j with
  | 0 => rw [if_neg (by omega)]; rfl
  | 1 => rw [if_neg (by omega)]; rfl
  | 2 => rw [if_neg (by omega)]; rfl
  | 3 =>
    show (if m = i then v else la m) = _
    by_cases h : m = i
    · rw [if_pos h, if_pos ⟨rfl, h⟩]
    · rw [if_neg h, if_neg (fun q => h q.2)]; rfl
  | 4 => rw [if_neg (by omega)]; rfl
  | 5 => rw [if_neg (by omega)]; rfl
  | n + 6 => rw [if_neg (by omega)]; rfl
theorem hf_u3 {sk mo wi la da we : Nat → Nat} {i v : Nat} : (fun x => nI (va_up (hfn sk mo wi la da we) (8 * i + 3) v x)) = (fun x => nI (hfn sk mo wi (va_up la i v) da we x)) := by
  funext x
  congr 1
  show (if x = 8 * i + 3 then v else hsel sk mo wi la da we (x % 8) (x / 8)) = hsel sk mo wi (va_up la i v) da we (x % 8) (x / 8)
  rw [hs_3]
  by_cases h : x = 8 * i + 3
  · rw [if_pos h, if_pos (by omega)]
  · rw [if_neg h, if_neg (by omega)]
theorem hf_4 {sk mo wi la da we : Nat → Nat} {i : Nat} : hfn sk mo wi la da we (8 * i + 4) = da i := by
  show hsel sk mo wi la da we ((8 * i + 4) % 8) ((8 * i + 4) / 8) = _
  rw [show (8 * i + 4) % 8 = 4 by omega, show (8 * i + 4) / 8 = i by omega]; rfl
theorem hs_4 {sk mo wi la da we : Nat → Nat} {i v : Nat} : ∀ j m, hsel sk mo wi la (va_up da i v) we j m = if j = 4 ∧ m = i then v else hsel sk mo wi la da we j m := by
  intro j m
  match j with
  | 0 => rw [if_neg (by omega)]; rfl
  | 1 => rw [if_neg (by omega)]; rfl
  | 2 => rw [if_neg (by omega)]; rfl
  | 3 => rw [if_neg (by omega)]; rfl
  | 4 =>
    show (if m = i then v else da m) = _
    by_cases h : m = i
    · rw [if_pos h, if_pos ⟨rfl, h⟩]
    · rw [if_neg h, if_neg (fun q => h q.2)]; rfl
  | 5 => rw [if_neg (by omega)]; rfl
  | n + 6 => rw [if_neg (by omega)]; rfl
theorem hf_u4 {sk mo wi la da we : Nat → Nat} {i v : Nat} : (fun x => nI (va_up (hfn sk mo wi la da we) (8 * i + 4) v x)) = (fun x => nI (hfn sk mo wi la (va_up da i v) we x)) := by
  funext x
  congr 1
  show (if x = 8 * i + 4 then v else hsel sk mo wi la da we (x % 8) (x / 8)) = hsel sk mo wi la (va_up da i v) we (x % 8) (x / 8)
  rw [hs_4]
  by_cases h : x = 8 * i + 4
  · rw [if_pos h, if_pos (by omega)]
  · rw [if_neg h, if_neg (by omega)]
theorem hf_5 {sk mo wi la da we : Nat → Nat} {i : Nat} : hfn sk mo wi la da we (8 * i + 5) = we i := by
  show hsel sk mo wi la da we ((8 * i + 5) % 8) ((8 * i + 5) / 8) = _
  rw [show (8 * i + 5) % 8 = 5 by omega, show (8 * i + 5) / 8 = i by omega]; rfl
theorem hs_5 {sk mo wi la da we : Nat → Nat} {i v : Nat} : ∀ j m, hsel sk mo wi la da (va_up we i v) j m = if j = 5 ∧ m = i then v else hsel sk mo wi la da we j m := by
  intro j m
  match j with
  | 0 => rw [if_neg (by omega)]; rfl
  | 1 => rw [if_neg (by omega)]; rfl
  | 2 => rw [if_neg (by omega)]; rfl
  | 3 => rw [if_neg (by omega)]; rfl
  | 4 => rw [if_neg (by omega)]; rfl
  | 5 =>
    show (if m = i then v else we m) = _
    by_cases h : m = i
    · rw [if_pos h, if_pos ⟨rfl, h⟩]
    · rw [if_neg h, if_neg (fun q => h q.2)]; rfl
  | n + 6 => rw [if_neg (by omega)]; rfl
theorem hf_u5 {sk mo wi la da we : Nat → Nat} {i v : Nat} : (fun x => nI (va_up (hfn sk mo wi la da we) (8 * i + 5) v x)) = (fun x => nI (hfn sk mo wi la da (va_up we i v) x)) := by
  funext x
  congr 1
  show (if x = 8 * i + 5 then v else hsel sk mo wi la da we (x % 8) (x / 8)) = hsel sk mo wi la da (va_up we i v) (x % 8) (x / 8)
  rw [hs_5]
  by_cases h : x = 8 * i + 5
  · rw [if_pos h, if_pos (by omega)]
  · rw [if_neg h, if_neg (by omega)]
def nfn (fb rn : Nat) (nd : Nat → Nat) : Nat → Nat := fun k => if k < 28 then nd k else if k < 44 then bit fb (k - 28) else if k = 44 then rn else 0
theorem nf_n {fb rn k : Nat} {nd : Nat → Nat} (h : k < 28) : nfn fb rn nd k = nd k := if_pos h
theorem nf_f {fb rn j : Nat} {nd : Nat → Nat} (h : j < 16) : nfn fb rn nd (28 + j) = bit fb j := by
  show (if 28 + j < 28 then nd (28 + j) else if 28 + j < 44 then bit fb (28 + j - 28) else if 28 + j = 44 then rn else 0) = _
  rw [if_neg (by omega), if_pos (by omega), Nat.add_sub_cancel_left]
theorem nf_r {fb rn : Nat} {nd : Nat → Nat} : nfn fb rn nd 44 = rn := by
  show (if 44 < 28 then nd 44 else if 44 < 44 then bit fb (44 - 28) else if 44 = 44 then rn else 0) = _
  rw [if_neg (by decide), if_neg (by decide), if_pos rfl]
theorem nf_un {fb rn k v : Nat} {nd : Nat → Nat} (h : k < 28) : (fun x => nI (va_up (nfn fb rn nd) k v x)) = (fun x => nI (nfn fb rn (va_up nd k v) x)) := by
  funext x
  congr 1
  show (if x = k then v else (if x < 28 then nd x else if x < 44 then bit fb (x - 28) else if x = 44 then rn else 0)) = (if x < 28 then va_up nd k v x else if x < 44 then bit fb (x - 28) else if x = 44 then rn else 0)
  by_cases e : x = k
  · subst e; rw [if_pos rfl, if_pos h, vu_s]
  · rw [if_neg e, vu_n e]
theorem nf_uf {fb rn j v : Nat} {nd : Nat → Nat} (hj : j < 16) (hv : v < 2) : (fun x => nI (va_up (nfn fb rn nd) (28 + j) v x)) = (fun x => nI (nfn (bset fb j v) rn nd x)) := by
  funext x
  congr 1
  show (if x = 28 + j then v else (if x < 28 then nd x else if x < 44 then bit fb (x - 28) else if x = 44 then rn else 0)) = (if x < 28 then nd x else if x < 44 then bit (bset fb j v) (x - 28) else if x = 44 then rn else 0)
  by_cases e : x = 28 + j
  · rw [if_pos e, if_neg (by omega), if_pos (by omega), show x - 28 = j by omega, bs_get hv]
  · rw [if_neg e]
    by_cases h : x < 28
    · rw [if_pos h, if_pos h]
    · rw [if_neg h, if_neg h, bs_get2 hv (by omega)]
theorem nf_ur {fb rn v : Nat} {nd : Nat → Nat} : (fun x => nI (va_up (nfn fb rn nd) 44 v x)) = (fun x => nI (nfn fb v nd x)) := by
  funext x
  congr 1
  show (if x = 44 then v else (if x < 28 then nd x else if x < 44 then bit fb (x - 28) else if x = 44 then rn else 0)) = (if x < 28 then nd x else if x < 44 then bit fb (x - 28) else if x = 44 then v else 0)
  by_cases e : x = 44
  · rw [if_pos e, if_neg (by omega), if_neg (by omega), if_pos e]
  · rw [if_neg e, if_neg e, if_neg e]
def qfn (n cl ro : Nat) : Nat → Nat
  | 0 => n
  | 1 => cl
  | 2 => ro
  | _ => 0
theorem qf_u0 {n cl ro v : Nat} : (fun x => nI (va_up (qfn n cl ro) 0 v x)) = (fun x => nI (qfn v cl ro x)) := by
  funext x
  congr 1
  show (if x = 0 then v else qfn n cl ro x) = _
  match x with
  | 0 => rfl
  | 1 => rfl
  | 2 => rfl
  | k + 3 => rw [if_neg (by omega)]; rfl
theorem qf_u1 {n cl ro v : Nat} : (fun x => nI (va_up (qfn n cl ro) 1 v x)) = (fun x => nI (qfn n v ro x)) := by
  funext x
  congr 1
  show (if x = 1 then v else qfn n cl ro x) = _
  match x with
  | 0 => rfl
  | 1 => rfl
  | 2 => rfl
  | k + 3 => rw [if_neg (by omega)]; rfl
theorem qf_u2 {n cl ro v : Nat} : (fun x => nI (va_up (qfn n cl ro) 2 v x)) = (fun x => nI (qfn n cl v x)) := by
  funext x
  congr 1
  show (if x = 2 then v else qfn n cl ro x) = _
  match x with
  | 0 => rfl
  | 1 => rfl
  | 2 => rfl
  | k + 3 => rw [if_neg (by omega)]; rfl
/-- the law's world: persons h, entries e, what is fixed f, needs and rules n, two rows for weeks, how many q -/
abbrev lX (cT : ClassId × ClassId × ClassId) (z : Nat → Nat) (n ro cl fb rn : Nat) (nd sk mo wk fx wi la da we : Nat → Nat) (W B : Nat → Int32) : va_W :=
  [(z 0, .inl (cT.1, 64, .inl (fun k => nI (hfn sk mo wi la da we k)))),
   (z 1, .inl (cT.1, 56, .inl (fun k => nI (enf wk k)))),
   (z 2, .inl (cT.1, 56, .inl (fun k => nI (fxf fx k) - nI 1))),
   (z 3, .inl (cT.1, 45, .inl (fun k => nI (nfn fb rn nd k)))),
   (z 4, .inl (cT.1, 7, .inl W)),
   (z 5, .inl (cT.1, 7, .inl B)),
   (z 6, .inl (cT.1, 3, .inl (fun k => nI (qfn n cl ro k))))]
/-- a day of a week is right by the days before it, as the law looks at it -/
def lmay (sk mo fx la da : Nat → Nat) (fb rn i v d : Nat) : Bool := okd (sk i) (nib (fx i)) (bit fb) (la i) (da i) rn v d && decide (shc v 0 (d + 1) ≤ mo i)
def lal (sk mo fx la da : Nat → Nat) (fb rn i v : Nat) : Nat → Bool
  | 0 => true
  | d + 1 => lal sk mo fx la da fb rn i v d && lmay sk mo fx la da fb rn i v d
theorem shc_mo (v d : Nat) : shc v 0 d ≤ shc v 0 (d + 1) := Nat.le_add_right _ _
theorem lal_f {sk mo fx la da : Nat → Nat} {fb rn i v : Nat} : ∀ d, lal sk mo fx la da fb rn i v d = (okn (sk i) (nib (fx i)) (bit fb) (la i) (da i) rn v d && decide (shc v 0 d ≤ mo i)) := by
  intro d
  induction d with
  | zero =>
    show true = (true && decide (0 ≤ mo i))
    rw [decide_eq_true (Nat.zero_le _)]; rfl
  | succ d ih =>
    have h := shc_mo v d
    show (lal sk mo fx la da fb rn i v d && (okd (sk i) (nib (fx i)) (bit fb) (la i) (da i) rn v d && decide (shc v 0 (d + 1) ≤ mo i))) = ((okn (sk i) (nib (fx i)) (bit fb) (la i) (da i) rn v d && okd (sk i) (nib (fx i)) (bit fb) (la i) (da i) rn v d) && decide (shc v 0 (d + 1) ≤ mo i))
    rw [ih]
    cases okn (sk i) (nib (fx i)) (bit fb) (la i) (da i) rn v d
    · rfl
    cases okd (sk i) (nib (fx i)) (bit fb) (la i) (da i) rn v d
    · rw [Bool.true_and, Bool.false_and, Bool.and_false]; rfl
    by_cases q : shc v 0 (d + 1) ≤ mo i
    · rw [decide_eq_true q, decide_eq_true (Nat.le_trans h q)]; rfl
    · rw [decide_eq_false q, Bool.and_false, Bool.and_false, Bool.and_false]
theorem lal_7 {sk mo fx la da : Nat → Nat} {fb rn i v : Nat} : lal sk mo fx la da fb rn i v 7 = fe sk mo fx la da fb rn i v := lal_f 7
theorem lal_n {sk mo fx la da : Nat → Nat} {fb rn i v d : Nat} (h : lmay sk mo fx la da fb rn i v d = false) : ∀ k, lal sk mo fx la da fb rn i v (d + 1 + k) = false := by
  intro k
  induction k with
  | zero => show (_ && lmay sk mo fx la da fb rn i v d) = false; rw [h, Bool.and_false]
  | succ k ih => show (lal sk mo fx la da fb rn i v (d + 1 + k) && _) = false; rw [ih, Bool.false_and]
theorem fe_n {sk mo fx la da : Nat → Nat} {fb rn i v d : Nat} (hd : d < 7) (h : lmay sk mo fx la da fb rn i v d = false) : fe sk mo fx la da fb rn i v = false := by
  have q := lal_n h (6 - d)
  rw [show d + 1 + (6 - d) = 7 by omega, lal_7] at q; exact q
theorem fe_y {sk mo fx la da : Nat → Nat} {fb rn i v : Nat} (h : ∀ d, d < 7 → lmay sk mo fx la da fb rn i v d = true) : fe sk mo fx la da fb rn i v = true := by
  have key : ∀ d, d ≤ 7 → lal sk mo fx la da fb rn i v d = true := by
    intro d
    induction d with
    | zero => intro _; rfl
    | succ d ih => intro hd; show (lal sk mo fx la da fb rn i v d && lmay sk mo fx la da fb rn i v d) = true; rw [ih (by omega), h d (by omega)]; rfl
  have q := key 7 (Nat.le_refl _)
  rw [lal_7] at q; exact q
/-- what the law asks of a day -/
theorem lm_iff {sk mo fx la da : Nat → Nat} {fb rn i v d : Nat} (hz : ∀ k, k < 4 → bit fb k = 0) : lmay sk mo fx la da fb rn i v d = true ↔ (ent v d = 0 ∨ bit (sk i) (ent v d) = 1) ∧ (nib (fx i) d = 0 ∨ nib (fx i) d = ent v d + 1) ∧ (bef v (la i) d = 0 ∨ ent v d = 0 ∨ bit fb (4 * bef v (la i) d + ent v d) ≠ 1) ∧ shc v 0 (d + 1) ≤ mo i ∧ (ent v d = 0 ∨ rnb v (da i) (d + 1) ≤ rn) := by
  have hr : rnb v (da i) (d + 1) = if ent v d = 0 then 0 else rnb v (da i) d + 1 := rfl
  have hb := bit_lt fb (4 * bef v (la i) d + ent v d)
  simp only [lmay, okd, may, alw, Bool.or_eq_true, Bool.and_eq_true, decide_eq_true_eq, beq_iff_eq]
  by_cases he : ent v d = 0
  · rw [he]
    constructor
    · intro q; exact ⟨Or.inl rfl, q.1.1.1, Or.inr (Or.inl rfl), q.2, Or.inl rfl⟩
    · intro q; exact ⟨⟨⟨q.2.1, Or.inl rfl⟩, Or.inl rfl⟩, q.2.2.2.1⟩
  · rw [if_neg he] at hr
    constructor
    · intro q
      have h1 := q.1.2.resolve_left he
      exact ⟨q.1.1.2, q.1.1.1, Or.inr (Or.inr (by omega)), q.2, Or.inr (by omega)⟩
    · intro q
      refine ⟨⟨⟨q.2.1, q.1⟩, Or.inr ⟨by have := q.2.2.2.2.resolve_left he; omega, ?_⟩⟩, q.2.2.2.1⟩
      rcases q.2.2.1 with h1 | h1 | h1
      · rw [h1, Nat.mul_zero, Nat.zero_add]; exact hz _ (ent_lt _ _)
      · exact absurd h1 he
      · omega
theorem fx_neg {n : Nat} (h : n < 16) : nI n - nI 1 < 0 ↔ n = 0 := by
  revert n; decide +kernel
theorem dec_I (a : Nat) : nI a + (-1) = nI a - nI 1 := by rw [Int32.sub_eq_add_neg]; rfl
/-- days worked in a row up to day d, from day t on -/
theorem rnb_run {v da t : Nat} : ∀ m, (∀ j, t ≤ j → j < t + m → ent v j ≠ 0) → rnb v da (t + m) = rnb v da t + m := by
  intro m
  induction m with
  | zero => intro _; rfl
  | succ m ih =>
    intro h
    show (if ent v (t + m) = 0 then 0 else rnb v da (t + m) + 1) = _
    rw [if_neg (h (t + m) (by omega) (by omega)), ih (fun j h1 h2 => h j h1 (by omega))]; omega
theorem rnb_00 {v da t : Nat} (h : ent v t = 0) : rnb v da (t + 1) = 0 := by show (if ent v t = 0 then 0 else _) = 0; rw [if_pos h]
theorem fx_lt0 {n : Nat} (h : n < 8) : nI n - nI 1 < 0 ↔ n = 0 := fx_neg (Nat.lt_trans h (by decide))

/-! what a day asks depends on the days up to it -/
theorem shc_ext {x y : Nat} : ∀ d, (∀ j, j < d → ent x j = ent y j) → shc x 0 d = shc y 0 d := by
  intro d
  induction d with
  | zero => intro _; rfl
  | succ d ih =>
    intro h
    show shc x 0 d + (ent x (0 + d) != 0).toNat = shc y 0 d + (ent y (0 + d) != 0).toNat
    rw [ih (fun j hj => h j (by omega)), Nat.zero_add, h d (by omega)]
theorem rnb_ext {x y da : Nat} : ∀ d, (∀ j, j < d → ent x j = ent y j) → rnb x da d = rnb y da d := by
  intro d
  induction d with
  | zero => intro _; rfl
  | succ d ih =>
    intro h
    show (if ent x d = 0 then 0 else rnb x da d + 1) = (if ent y d = 0 then 0 else rnb y da d + 1)
    rw [ih (fun j hj => h j (by omega)), h d (by omega)]
theorem bef_ext {x y la : Nat} : ∀ d, (∀ j, j < d → ent x j = ent y j) → bef x la d = bef y la d
  | 0, _ => rfl
  | d + 1, h => h d (by omega)
theorem lmay_ext {sk mo fx la da : Nat → Nat} {fb rn i x y d : Nat} (h : ∀ j, j ≤ d → ent x j = ent y j) : lmay sk mo fx la da fb rn i x d = lmay sk mo fx la da fb rn i y d := by
  show ((_ && alw (bit fb) rn (bef x (la i) d) (rnb x (da i) d) (ent x d)) && decide (shc x 0 (d + 1) ≤ mo i)) = ((_ && alw (bit fb) rn (bef y (la i) d) (rnb y (da i) d) (ent y d)) && decide (shc y 0 (d + 1) ≤ mo i))
  rw [shc_ext (d + 1) (fun j hj => h j (by omega)), rnb_ext d (fun j hj => h j (by omega)), bef_ext d (fun j hj => h j (by omega)), h d (Nat.le_refl _)]
theorem p4 (k : Nat) : 2 ^ (2 * k) = 4 ^ k := Nat.pow_mul 2 2 k
theorem p4_pos (k : Nat) : 0 < 4 ^ k := Nat.pow_pos (by decide)
theorem ent_pre {w d j : Nat} (hj : j ≤ d) (hd : d < 7) : ent w j = pre w (d + 1) / 4 ^ (d - j) % 4 := by
  show w / 2 ^ (2 * (6 - j)) % 4 = w / 2 ^ (2 * (7 - (d + 1))) / 4 ^ (d - j) % 4
  rw [Nat.div_div_eq_div_mul, ← p4 (d - j), ← Nat.pow_add, show 2 * (7 - (d + 1)) + 2 * (d - j) = 2 * (6 - j) by omega]
theorem pre_4 {w d : Nat} : pre w (d + 1) = w / 4 ^ (6 - d) := by
  show w / 2 ^ (2 * (7 - (d + 1))) = _
  rw [p4, show 7 - (d + 1) = 6 - d by omega]
theorem pre_ext {x y d : Nat} (hd : d < 7) (h : pre x (d + 1) = pre y (d + 1)) : ∀ j, j ≤ d → ent x j = ent y j := fun j hj => by rw [ent_pre hj hd, ent_pre hj hd, h]
theorem pre_m {a r d : Nat} (hr : r < 4 ^ (6 - d)) : pre (a * 4 ^ (6 - d) + r) (d + 1) = a := by
  rw [pre_4]
  exact Nat.div_eq_of_lt_le (Nat.le_add_right _ _) (by first | (rw [Nat.add_mul, Nat.one_mul]; exact Nat.add_lt_add_left hr _) | (rw [Nat.succ_mul]; exact Nat.add_lt_add_left hr _))
theorem ent_lo {u c d : Nat} (hd : d < 7) (hc : c < 4) : ent ((4 * u + c) * 4 ^ (6 - d)) d = c := by
  rw [ent_pre (Nat.le_refl d) hd, show (4 * u + c) * 4 ^ (6 - d) = (4 * u + c) * 4 ^ (6 - d) + 0 from rfl, pre_m (p4_pos _), Nat.sub_self]
  show (4 * u + c) / 1 % 4 = c
  rw [Nat.div_one]; omega
theorem ent_hi {u c d j : Nat} (hd : d < 7) (hc : c < 4) (hj : j < d) : ent ((4 * u + c) * 4 ^ (6 - d)) j = u / 4 ^ (d - 1 - j) % 4 := by
  rw [ent_pre (Nat.le_of_lt hj) hd, show (4 * u + c) * 4 ^ (6 - d) = (4 * u + c) * 4 ^ (6 - d) + 0 from rfl, pre_m (p4_pos _), show d - j = (d - 1 - j) + 1 by omega, Nat.pow_succ', ← Nat.div_div_eq_div_mul, show (4 * u + c) / 4 = u by omega]
/-! the search through all weeks, day by day -/
def mq (t c : Nat) : Nat := if c = 4 then 16 + t else 7 - t
theorem mq_pop {t c : Nat} (h1 : 1 ≤ t) (h7 : t ≤ 7) : mq (t - 1) c < mq t 4 := by
  show (if c = 4 then 16 + (t - 1) else 7 - (t - 1)) < 16 + t
  split <;> omega
theorem mq_down {t c : Nat} (hc : c ≤ 3) (h7 : t ≤ 6) : mq (t + 1) 0 < mq t c := by
  show 7 - (t + 1) < (if c = 4 then 16 + t else 7 - t)
  rw [if_neg (by omega)]; omega
theorem mq_le {t c : Nat} (h7 : t ≤ 7) : mq t c ≤ 23 := by
  show (if c = 4 then 16 + t else 7 - t) ≤ 23
  split <;> omega
def WQ (M : Nat → Nat → Bool) (W : Nat → Int32) (t u c x : Nat) : Prop := (t = 0 ∧ x = 16384) ∨ (1 ≤ t ∧ t ≤ 7 ∧ u < 4 ^ (t - 1) ∧ c ≤ 4 ∧ x = (4 * u + c) * 4 ^ (7 - t) ∧ W (t - 1) = nI c - nI 1 ∧ (∀ j, j + 1 < t → W j = nI (u / 4 ^ (t - 2 - j) % 4)) ∧ ∀ j, j + 1 < t → M (u * 4 ^ (8 - t)) j = true)
section WQS
variable {M : Nat → Nat → Bool} {W : Nat → Int32} {t u c x : Nat}
theorem wq_t7 (h : WQ M W t u c x) : t ≤ 7 := by rcases h with h | h <;> omega
theorem wq_c (h : WQ M W t u c x) (ht : 1 ≤ t) : c ≤ 4 ∧ W (t - 1) = nI c - nI 1 := by
  rcases h with h | h
  · omega
  · exact ⟨h.2.2.2.1, h.2.2.2.2.2.1⟩
theorem wq_x (h : WQ M W t u c x) : x ≤ 16384 := by
  rcases h with h | ⟨h1, h7, hu, hc, hx, -⟩
  · omega
  · have e : 4 * 4 ^ (t - 1) * 4 ^ (7 - t) = 16384 := by
      rw [← Nat.pow_succ', ← Nat.pow_add, show t - 1 + 1 + (7 - t) = 7 by omega]
    have h2 : 4 * u + c ≤ 4 * 4 ^ (t - 1) := by omega
    have h3 := Nat.mul_le_mul_right (4 ^ (7 - t)) h2
    omega
theorem wq_0 (h : WQ M W 0 u c x) : x = 16384 := by
  rcases h with h | h
  · exact h.2
  · omega
theorem wq_init (h : W 0 = nI 0 - nI 1) : WQ M W 1 0 0 0 := Or.inr ⟨Nat.le_refl _, by decide, by decide, by decide, by rw [Nat.mul_zero, Nat.zero_mul], h, fun j hj => by omega, fun j hj => by omega⟩
theorem wq_pop (h : WQ M W t u c x) (ht : 1 ≤ t) (hc : 3 < c) (hM : ∀ x y j, (∀ k, k ≤ j → ent x k = ent y k) → M x j = M y j) : WQ M (upd W (t - 1) (nI c)) (t - 1) (u / 4) (u % 4 + 1) x := by
  rcases h with h | ⟨h1, h7, hu, hc4, hx, hw, hd, hm⟩
  · omega
  have ec : c = 4 := by omega
  subst ec
  by_cases h2 : t = 1
  · subst h2
    have eu : u = 0 := by have : u < 1 := hu; omega
    refine Or.inl ⟨rfl, ?_⟩
    rw [hx, eu]
  · refine Or.inr ⟨by omega, by omega, ?_, by omega, ?_, ?_, fun j hj => ?_, fun j hj => ?_⟩
    · rw [show t - 1 = (t - 1 - 1) + 1 by omega, Nat.pow_succ] at hu; omega
    · rw [hx, show 7 - (t - 1) = (7 - t) + 1 by omega, Nat.pow_succ', ← Nat.mul_assoc]
      congr 1; omega
    · show (if t - 1 - 1 = t - 1 then nI 4 else W (t - 1 - 1)) = _
      rw [if_neg (by omega), show t - 1 - 1 = t - 2 by omega, hd (t - 2) (by omega), Nat.sub_self]
      show nI (u / 1 % 4) = _
      rw [Nat.div_one, sx_sub (by omega), Nat.add_sub_cancel]
    · show (if j = t - 1 then nI 4 else W j) = _
      rw [if_neg (by omega), hd j (by omega), show t - 2 - j = (t - 1 - 2 - j) + 1 by omega, Nat.pow_succ', ← Nat.div_div_eq_div_mul]
    · have e := hm j (by omega)
      rw [← e]
      refine hM _ _ _ (fun k hk => ?_)
      have hb : t - 3 < 7 := by omega
      have a2 : pre (u * 4 ^ (8 - t)) (t - 3 + 1) = u / 4 := by
        rw [pre_4, show 6 - (t - 3) = (8 - t) + 1 by omega, Nat.pow_succ', Nat.mul_comm 4 (4 ^ (8 - t)), ← Nat.div_div_eq_div_mul, Nat.mul_div_cancel _ (p4_pos _)]
      have a3 : pre (u / 4 * 4 ^ (8 - (t - 1))) (t - 3 + 1) = u / 4 := by
        rw [pre_4, show 6 - (t - 3) = 8 - (t - 1) by omega, Nat.mul_div_cancel _ (p4_pos _)]
      exact pre_ext hb (a3.trans a2.symm) k (by omega)
theorem wq_ent (h : WQ M W t u c x) (ht : 1 ≤ t) (hc : c ≤ 3) : x < 16384 ∧ ∀ j, j ≤ t - 1 → upd W (t - 1) (nI c) j = nI (ent x j) := by
  rcases h with h | ⟨h1, h7, hu, hc4, hx, hw, hd, hm⟩
  · omega
  refine ⟨?_, fun j hj => ?_⟩
  · have e : 4 * 4 ^ (t - 1) * 4 ^ (7 - t) = 16384 := by
      rw [← Nat.pow_succ', ← Nat.pow_add, show t - 1 + 1 + (7 - t) = 7 by omega]
    have h2 : 4 * u + c < 4 * 4 ^ (t - 1) := by omega
    have h3 := Nat.mul_lt_mul_of_pos_right h2 (p4_pos (7 - t))
    omega
  · show (if j = t - 1 then nI c else W j) = _
    rw [hx, show 7 - t = 6 - (t - 1) by omega]
    by_cases e : j = t - 1
    · rw [if_pos e, e, ent_lo (by omega) (by omega)]
    · rw [if_neg e, hd j (by omega), ent_hi (by omega) (by omega) (by omega), show t - 1 - 1 - j = t - 2 - j by omega]
theorem wq_anc (h : WQ M W t u c x) (ht : 1 ≤ t) (hc : c ≤ 3) (hM : ∀ x y j, (∀ k, k ≤ j → ent x k = ent y k) → M x j = M y j) : ∀ j, j + 1 < t → M x j = true := by
  rcases h with h | ⟨h1, h7, hu, hc4, hx, hw, hd, hm⟩
  · omega
  intro j hj
  rw [← hm j hj]
  refine hM _ _ _ (fun k hk => ?_)
  have a2 : pre (u * 4 ^ (8 - t)) (t - 2 + 1) = u := by
    rw [pre_4, show 6 - (t - 2) = 8 - t by omega, Nat.mul_div_cancel _ (p4_pos _)]
  have a1 : pre x (t - 2 + 1) = u := by
    rw [pre_4, hx, show 6 - (t - 2) = (7 - t) + 1 by omega, Nat.pow_succ', Nat.mul_comm 4 (4 ^ (7 - t)), ← Nat.div_div_eq_div_mul, Nat.mul_div_cancel _ (p4_pos _)]; omega
  exact pre_ext (by omega) (a1.trans a2.symm) k (by omega)
theorem wq_down (h : WQ M W t u c x) (ht : 1 ≤ t) (hc : c ≤ 3) (h6 : t - 1 < 6) (hx1 : M x (t - 1) = true) (hM : ∀ x y j, (∀ k, k ≤ j → ent x k = ent y k) → M x j = M y j) : WQ M (upd (upd W (t - 1) (nI c)) t (nI 0 - nI 1)) (t + 1) (4 * u + c) 0 x := by
  have ha := wq_anc h ht hc hM
  have he := wq_ent h ht hc
  rcases h with h | ⟨h1, h7, hu, hc4, hx, hw, hd, hm⟩
  · omega
  refine Or.inr ⟨by omega, by omega, ?_, by omega, ?_, ?_, fun j hj => ?_, fun j hj => ?_⟩
  · rw [show t + 1 - 1 = (t - 1) + 1 by omega, Nat.pow_succ]; omega
  · rw [hx, show 7 - t = (7 - (t + 1)) + 1 by omega, Nat.pow_succ', ← Nat.mul_assoc]
    congr 1; omega
  · show (if t + 1 - 1 = t then nI 0 - nI 1 else _) = _
    rw [if_pos (by omega)]
  · show (if j = t then nI 0 - nI 1 else upd W (t - 1) (nI c) j) = _
    rw [if_neg (by omega)]
    show (if j = t - 1 then nI c else W j) = _
    by_cases e : j = t - 1
    · rw [if_pos e, show t + 1 - 2 - j = 0 by omega]
      show _ = nI ((4 * u + c) / 1 % 4)
      rw [Nat.div_one]
      congr 1; omega
    · rw [if_neg e, hd j (by omega), show t + 1 - 2 - j = (t - 2 - j) + 1 by omega, Nat.pow_succ', ← Nat.div_div_eq_div_mul, show (4 * u + c) / 4 = u by omega]
  · have e : (4 * u + c) * 4 ^ (8 - (t + 1)) = x := by rw [hx, show 8 - (t + 1) = 7 - t by omega]
    rw [e]
    by_cases e2 : j = t - 1
    · rw [e2]; exact hx1
    · exact ha j (by omega)
theorem wq_next (h : WQ M W t u c x) (ht : 1 ≤ t) (hc : c ≤ 3) : WQ M (upd W (t - 1) (nI c)) t u (c + 1) (x + 4 ^ (7 - t)) := by
  rcases h with h | ⟨h1, h7, hu, hc4, hx, hw, hd, hm⟩
  · omega
  refine Or.inr ⟨h1, h7, hu, by omega, ?_, ?_, fun j hj => ?_, hm⟩
  · rw [hx, show 4 * u + (c + 1) = (4 * u + c) + 1 by omega, Nat.add_mul (4 * u + c) 1, Nat.one_mul]
  · show (if t - 1 = t - 1 then nI c else _) = _
    rw [if_pos rfl, sx_sub (by omega), Nat.add_sub_cancel]
  · show (if j = t - 1 then nI c else W j) = _
    rw [if_neg (by omega)]; exact hd j hj
theorem wq_skip (h : WQ M W t u c x) (ht : 1 ≤ t) (hc : c ≤ 3) (hf : M x (t - 1) = false) (hM : ∀ x y j, (∀ k, k ≤ j → ent x k = ent y k) → M x j = M y j) : ∀ y, x ≤ y → y < x + 4 ^ (7 - t) → M y (t - 1) = false := by
  rcases h with h | ⟨h1, h7, hu, hc4, hx, hw, hd, hm⟩
  · omega
  intro y hy1 hy2
  rw [← hf]
  refine hM _ _ _ (fun k hk => ?_)
  have e : 7 - t = 6 - (t - 1) := by omega
  have a1 : pre x (t - 1 + 1) = 4 * u + c := by
    have := pre_m (a := 4 * u + c) (r := 0) (d := t - 1) (p4_pos _)
    rw [hx, e]; exact this
  have a2 : pre y (t - 1 + 1) = 4 * u + c := by
    have := pre_m (a := 4 * u + c) (r := y - x) (d := t - 1) (by rw [← e]; omega)
    rw [← e, ← hx, show x + (y - x) = y by omega] at this; exact this
  exact pre_ext (by omega) (a2.trans a1.symm) k hk
theorem wq_mnext {y : Nat} (h : WQ M W t u (c + 1) (x + 4 ^ (7 - t))) (hy : 32 * (16384 - x) + mq t c < y + 1) : 32 * (16384 - (x + 4 ^ (7 - t))) + mq t (c + 1) < y := by
  have h1 := wq_x h
  have h2 := p4_pos (7 - t)
  have h3 := mq_le (c := c + 1) (wq_t7 h)
  generalize 4 ^ (7 - t) = p at *
  omega
end WQS
theorem cs_skip {P : Nat → Nat} {F : Nat → Bool} {a : Nat} : ∀ m, (∀ w, a ≤ w → w < a + m → F w = false) → cnw F (a + m) = cnw F a ∧ cst P F (a + m) = cst P F a := by
  intro m
  induction m with
  | zero => intro _; exact ⟨rfl, rfl⟩
  | succ m ih =>
    intro h
    have h1 := ih (fun w q1 q2 => h w q1 (by omega))
    have h2 := h (a + m) (by omega) (by omega)
    refine ⟨?_, ?_⟩
    · show cnw F (a + m + 1) = _
      rw [cnw_0 h2, h1.1]
    · show cst P F (a + m + 1) = _
      rw [cst_n (Or.inl h2), h1.2]
theorem cst_bd {P : Nat → Nat} {F : Nat → Bool} (hP : ∀ w, P w < 2 ^ 30) : ∀ k, (cst P F k).2 ≤ 2 ^ 30 := by
  intro k
  induction k with
  | zero => exact Nat.zero_le _
  | succ k ih =>
    show (if _ then (k, P k + 1) else cst P F k).2 ≤ _
    split
    · exact hP k
    · exact ih
theorem cst_z {P : Nat → Nat} {F : Nat → Bool} : ∀ k, (cnw F k = 0 ↔ (cst P F k).2 = 0) ∧ ((cst P F k).2 = 0 → (cst P F k).1 = 0) := by
  intro k
  induction k with
  | zero => exact ⟨⟨fun _ => rfl, fun _ => rfl⟩, fun _ => rfl⟩
  | succ k ih =>
    cases h : F k with
    | false => rw [cnw_0 h, cst_n (Or.inl h)]; exact ih
    | true =>
      rw [cnw_1 h]
      have e : (cst P F (k + 1)).2 ≠ 0 := by
        by_cases q : (cst P F k).2 = 0 ∨ P k + 1 < (cst P F k).2
        · rw [cst_y h q]; exact Nat.succ_ne_zero _
        · rw [cst_n (Or.inr (by omega))]; omega
      exact ⟨⟨fun q => by omega, fun q => absurd q e⟩, fun q => absurd q e⟩
/-- the law's price of a week -/
def prL (we wi f w : Nat) : Nat := (((7 - fc f w 7) * 10 + shc w 0 7) * 1000000 + shc w 5 2 * we) * 10 + brc wi w 7
theorem prL_lt {we : Nat} (h : we ≤ 8192) (wi f w : Nat) : prL we wi f w < 2 ^ 30 := by
  have h1 := fc_le f w 7
  have h2 := shc_le w 0 7
  have h3 := shc_le w 5 2
  have h4 := brc_le wi w 7
  have h5 : shc w 5 2 * we ≤ 2 * 8192 := Nat.mul_le_mul h3 h
  show (((7 - fc f w 7) * 10 + shc w 0 7) * 1000000 + shc w 5 2 * we) * 10 + brc wi w 7 < 2 ^ 30
  omega
theorem lex1 {K a b a' b' : Nat} (h : b < K) (h' : b' < K) : a * K + b < a' * K + b' ↔ a < a' ∨ (a = a' ∧ b < b') := by
  constructor
  · intro q
    rcases Nat.lt_trichotomy a a' with e | e | e
    · exact Or.inl e
    · subst e; exact Or.inr ⟨rfl, by omega⟩
    · have h2 := Nat.mul_le_mul_right K (Nat.succ_le_of_lt e)
      rw [Nat.succ_mul] at h2; omega
  · intro q
    rcases q with e | ⟨e, q⟩
    · have h2 := Nat.mul_le_mul_right K (Nat.succ_le_of_lt e)
      rw [Nat.succ_mul] at h2; omega
    · subst e; omega
theorem leq1 {K a b a' b' : Nat} (h : b < K) (h' : b' < K) : a * K + b = a' * K + b' ↔ a = a' ∧ b = b' := by
  constructor
  · intro q
    rcases Nat.lt_trichotomy a a' with e | e | e
    · have := (lex1 h h').mpr (Or.inl e); omega
    · subst e; exact ⟨rfl, by omega⟩
    · have := (lex1 h' h).mpr (Or.inl e); omega
  · intro ⟨e, q⟩
    subst e; subst q; rfl
theorem lex3 {K L M a s b w a' s' b' w' : Nat} (h1 : s < K) (h2 : b < L) (h3 : w < M) (h1' : s' < K) (h2' : b' < L) (h3' : w' < M) : ((a * K + s) * L + b) * M + w < ((a' * K + s') * L + b') * M + w' ↔ ((a < a' ∨ (a = a' ∧ s < s')) ∨ ((a = a' ∧ s = s') ∧ b < b')) ∨ (((a = a' ∧ s = s') ∧ b = b') ∧ w < w') := by
  rw [lex1 h3 h3', lex1 h2 h2', lex1 h1 h1', leq1 h2 h2', leq1 h1 h1']
theorem lex4 {a s b w a' s' b' w' : Nat} (h1 : s ≤ 7) (h2 : b ≤ 16384) (h3 : w ≤ 7) (h1' : s' ≤ 7) (h2' : b' ≤ 16384) (h3' : w' ≤ 7) : ((a * 10 + s) * 1000000 + b) * 10 + w < ((a' * 10 + s') * 1000000 + b') * 10 + w' ↔ ((a * 8 + s) * 100000 + b) * 8 + w < ((a' * 8 + s') * 100000 + b') * 8 + w' := by
  rw [lex3 (Nat.lt_of_le_of_lt h1 (by decide)) (Nat.lt_of_le_of_lt h2 (by decide)) (Nat.lt_of_le_of_lt h3 (by decide)) (Nat.lt_of_le_of_lt h1' (by decide)) (Nat.lt_of_le_of_lt h2' (by decide)) (Nat.lt_of_le_of_lt h3' (by decide)), lex3 (Nat.lt_of_le_of_lt h1 (by decide)) (Nat.lt_of_le_of_lt h2 (by decide)) (Nat.lt_of_le_of_lt h3 (by decide)) (Nat.lt_of_le_of_lt h1' (by decide)) (Nat.lt_of_le_of_lt h2' (by decide)) (Nat.lt_of_le_of_lt h3' (by decide))]
theorem prL_M {we wi f x y : Nat} (h : we ≤ 8192) : prL we wi f x < prL we wi f y ↔ prM we wi f x < prM we wi f y :=
  lex4 (shc_le _ _ _) (Nat.mul_le_mul (shc_le x 5 2) h) (brc_le _ _ _) (shc_le _ _ _) (Nat.mul_le_mul (shc_le y 5 2) h) (brc_le _ _ _)
theorem cst_eq {P Q : Nat → Nat} {F : Nat → Bool} (h : ∀ a b, P a < P b ↔ Q a < Q b) : ∀ k, (cst P F k = (0, 0) ∧ cst Q F k = (0, 0)) ∨ ∃ b, cst P F k = (b, P b + 1) ∧ cst Q F k = (b, Q b + 1) := by
  intro k
  induction k with
  | zero => exact Or.inl ⟨rfl, rfl⟩
  | succ k ih =>
    cases hf : F k with
    | false => rw [cst_n (Or.inl hf), cst_n (Or.inl hf)]; exact ih
    | true =>
      rcases ih with ⟨h1, h2⟩ | ⟨b, h1, h2⟩
      · exact Or.inr ⟨k, cst_y hf (Or.inl (by rw [h1])), cst_y hf (Or.inl (by rw [h2]))⟩
      · have e := h k b
        by_cases q : P k < P b
        · exact Or.inr ⟨k, cst_y hf (Or.inr (by rw [h1]; exact Nat.succ_lt_succ q)), cst_y hf (Or.inr (by rw [h2]; exact Nat.succ_lt_succ (e.mp q)))⟩
        · have q2 : ¬ Q k < Q b := fun z => q (e.mpr z)
          refine Or.inr ⟨b, ?_, ?_⟩
          · rw [cst_n (Or.inr (by rw [h1]; exact ⟨Nat.succ_ne_zero _, Nat.succ_le_succ (Nat.le_of_not_lt q)⟩)), h1]
          · rw [cst_n (Or.inr (by rw [h2]; exact ⟨Nat.succ_ne_zero _, Nat.succ_le_succ (Nat.le_of_not_lt q2)⟩)), h2]
theorem cst_eq1 {P Q : Nat → Nat} {F : Nat → Bool} (h : ∀ a b, P a < P b ↔ Q a < Q b) (k : Nat) : (cst P F k).1 = (cst Q F k).1 := by
  rcases cst_eq (F := F) h k with ⟨h1, h2⟩ | ⟨b, h1, h2⟩ <;> rw [h1, h2]
/-- the law's choice is the desk's -/
theorem cho_L {n bd fb rn : Nat} {nd sk mo wk fx wi la da we : Nat → Nat} (hwf : wfC n bd fb rn nd sk mo wk fx wi la da we) (i : Nat) : (cst (fun w => prL (we i) (wi i) (fl n nd wk i 21) w) (fe sk mo fx la da fb rn i) 16384).1 = cho n fb rn nd sk mo fx wi la da we wk i := by
  show _ = hid _
  rw [hid_eq]
  exact cst_eq1 (fun a b => prL_M (by have := hwf.2.1; have := hwf.2.2.2.2.2 i; omega)) 16384
theorem lN_I2 {n : Nat} (h : n < 2 ^ 63) : (lN n).toInt = (n : Int) := lg_ofNat_toInt (by omega)
theorem ll_0 {le : Nat} (h : le ≤ 2 ^ 30) : lN le - lN 1 < 0 ↔ le = 0 := by
  by_cases e : le = 0
  · subst e; exact ⟨fun _ => rfl, fun _ => by decide +kernel⟩
  · rw [lN_sub (by omega), Int64.lt_iff_toInt_lt, lN_I2 (by omega), show ((0 : Int64)).toInt = 0 from rfl]; omega
theorem ll_p {p le : Nat} (hp : p < 2 ^ 30) (h : le ≤ 2 ^ 30) (h1 : le ≠ 0) : lN p < lN le - lN 1 ↔ p + 1 < le := by
  rw [lN_sub (by omega), Int64.lt_iff_toInt_lt, lN_I2 (by omega), lN_I2 (by omega)]; omega
section SXLL
variable {p : Program} {l : Launch} {e : Env} {R : Room} {s : State} {m : MethodId} {args : Array Value} {below : List Frame} {meth : Method} {c : Code} {H : Heap} {locs : List Loc} {cells slots : Nat} {Q : State → Prop}
variable {cc : ByteArray} {nL : Nat} {Ts : List Cond} {own : String} {pc : Nat} {ls : Array Slot} {rest : List Value}
/-- two longs compared, and 'iflt' or 'ifge' behind it -/
theorem n_llt (S : CallFix p m c cc nL s args Ts own) {x y : Int64} {tgt : Nat} {off : Int} (d : decode cc pc = .ok (.lcmp, 1)) (d2 : decode cc (pc + 1) = .ok (.ifCond .lt off, 3)) (ht : ((pc + 1 : Nat) : Int) + off = (tgt : Int)) (kt : x < y → W p l e R s m args below meth c H locs cells slots Q (F0 m tgt ls rest)) (kf : ¬ x < y → W p l e R s m args below meth c H locs cells slots Q (F0 m (pc + 4) ls rest)) : W p l e R s m args below meth c H locs cells slots Q (F0 m pc ls (.long y :: .long x :: rest)) := by
  have e : lg_cmp x y < 0 ↔ x < y := by
    unfold lg_cmp
    by_cases h : x > y
    · rw [if_pos h]
      constructor
      · intro q; exact absurd q (by decide)
      · intro q
        have q1 := Int64.lt_iff_toInt_lt.mp q
        have q2 := Int64.lt_iff_toInt_lt.mp h
        omega
    · rw [if_neg h]
      by_cases h2 : x = y
      · rw [if_pos h2]
        constructor
        · intro q; exact absurd q (by decide)
        · intro q; rw [h2] at q; exact absurd q Int64.lt_irrefl
      · rw [if_neg h2]
        constructor
        · intro _
          rw [Int64.lt_iff_toInt_lt]
          have q1 : ¬ y.toInt < x.toInt := fun z => h (Int64.lt_iff_toInt_lt.mpr z)
          have q2 : x.toInt ≠ y.toInt := fun z => h2 (Int64.toInt_inj.mp z)
          omega
        · intro _; decide
  exact W.lcmp S.1 S.2.1 d (lv_if_lt S.1 S.2.1 d2 ht (fun q => kt (e.mp q)) (fun q => kf (fun z => q (e.mpr z))))
theorem n_lge (S : CallFix p m c cc nL s args Ts own) {x y : Int64} {tgt : Nat} {off : Int} (d : decode cc pc = .ok (.lcmp, 1)) (d2 : decode cc (pc + 1) = .ok (.ifCond .ge off, 3)) (ht : ((pc + 1 : Nat) : Int) + off = (tgt : Int)) (kt : ¬ x < y → W p l e R s m args below meth c H locs cells slots Q (F0 m tgt ls rest)) (kf : x < y → W p l e R s m args below meth c H locs cells slots Q (F0 m (pc + 4) ls rest)) : W p l e R s m args below meth c H locs cells slots Q (F0 m pc ls (.long y :: .long x :: rest)) := by
  have e : 0 ≤ lg_cmp x y ↔ ¬ x < y := by
    unfold lg_cmp
    by_cases h : x > y
    · rw [if_pos h]
      constructor
      · intro _ q
        have q1 := Int64.lt_iff_toInt_lt.mp q
        have q2 := Int64.lt_iff_toInt_lt.mp h
        omega
      · intro _; decide
    · rw [if_neg h]
      by_cases h2 : x = y
      · rw [if_pos h2]
        constructor
        · intro _ q; rw [h2] at q; exact absurd q Int64.lt_irrefl
        · intro _; decide
      · rw [if_neg h2]
        constructor
        · intro q; exact absurd q (by decide)
        · intro q
          exfalso
          apply q
          rw [Int64.lt_iff_toInt_lt]
          have q1 : ¬ y.toInt < x.toInt := fun z => h (Int64.lt_iff_toInt_lt.mpr z)
          have q2 : x.toInt ≠ y.toInt := fun z => h2 (Int64.toInt_inj.mp z)
          omega
  exact W.lcmp S.1 S.2.1 d (lv_if_ge S.1 S.2.1 d2 ht (fun q => kt (e.mp q)) (fun q => kf (Decidable.byContradiction fun z => q (e.mpr z))))
end SXLL

/-! planning: what is lacking, as the law goes through it -/
def lkf (n : Nat) (nd wk : Nat → Nat) (w : Nat) : Nat → Nat
  | 0 => 0
  | k + 1 => lkf n nd wk w k ||| (if 0 < k % 4 ∧ cg n wk w (k / 4) (k % 4) 8 < nd k then 1 * 2 ^ k else 0)
theorem lk_1 {n : Nat} {nd wk : Nat → Nat} {w k : Nat} (h1 : 0 < k % 4) (h2 : cg n wk w (k / 4) (k % 4) 8 < nd k) : lkf n nd wk w k ||| 1 * 2 ^ k = lkf n nd wk w (k + 1) := by
  show _ = lkf n nd wk w k ||| (if 0 < k % 4 ∧ cg n wk w (k / 4) (k % 4) 8 < nd k then 1 * 2 ^ k else 0)
  rw [if_pos ⟨h1, h2⟩]
theorem lk_0 {n : Nat} {nd wk : Nat → Nat} {w k : Nat} (h : k % 4 = 0 ∨ nd k ≤ cg n wk w (k / 4) (k % 4) 8) : lkf n nd wk w k ||| 0 = lkf n nd wk w (k + 1) := by
  show _ = lkf n nd wk w k ||| (if 0 < k % 4 ∧ cg n wk w (k / 4) (k % 4) 8 < nd k then 1 * 2 ^ k else 0)
  rw [if_neg (by omega)]
theorem lk_j {n : Nat} {nd wk : Nat → Nat} {w d j : Nat} (hj : j < 3) : lkf n nd wk w (4 * d + (j + 1) + 1) = lkf n nd wk w (4 * d + (j + 1)) ||| (if 0 < gpw n nd wk w d (j + 1) then 1 * 2 ^ (4 * d + (j + 1)) else 0) := by
  have e1 : (4 * d + (j + 1)) / 4 = d := by omega
  have e2 : (4 * d + (j + 1)) % 4 = j + 1 := by omega
  have e3 : d * 4 + (j + 1) = 4 * d + (j + 1) := by omega
  have e4 : 0 < gpw n nd wk w d (j + 1) ↔ cg n wk w d (j + 1) 8 < nd (4 * d + (j + 1)) := by
    show 0 < nd (d * 4 + (j + 1)) - cg n wk w d (j + 1) 8 ↔ _
    rw [e3]; omega
  by_cases h : cg n wk w d (j + 1) 8 < nd (4 * d + (j + 1))
  · rw [if_pos (e4.mpr h), ← lk_1 (by omega) (by rw [e1, e2]; exact h)]
  · rw [if_neg (fun q => h (e4.mp q)), ← lk_0 (by rw [e1, e2]; omega)]
theorem lk_4 {n : Nat} {nd wk : Nat → Nat} {w : Nat} : ∀ d, lkf n nd wk w (4 * d) = fl n nd wk w (3 * d) := by
  intro d
  induction d with
  | zero => rfl
  | succ d ih =>
    rw [show 4 * (d + 1) = 4 * d + (2 + 1) + 1 by omega, show 3 * (d + 1) = 3 * d + (2 + 1) by omega, lk_j (by decide), fl_s (by decide)]
    congr 1
    show lkf n nd wk w (4 * d + (1 + 1) + 1) = fl n nd wk w (3 * d + (1 + 1))
    rw [lk_j (by decide), fl_s (by decide)]
    congr 1
    show lkf n nd wk w (4 * d + (0 + 1) + 1) = fl n nd wk w (3 * d + (0 + 1))
    rw [lk_j (by decide), fl_s (by decide)]
    congr 1
    show lkf n nd wk w (4 * d + 1) = fl n nd wk w (3 * d)
    rw [← lk_0 (k := 4 * d) (Or.inl (by omega)), Nat.or_zero, ih]
theorem lk_28 {n : Nat} {nd wk : Nat → Nat} {w : Nat} : lkf n nd wk w 28 = fl n nd wk w 21 := lk_4 7
theorem lkf_lt (n : Nat) (nd wk : Nat → Nat) (w : Nat) : ∀ m, m ≤ 28 → lkf n nd wk w m < 2 ^ 28 := by
  intro m
  induction m with
  | zero => intro _; exact (by decide : 0 < 2 ^ 28)
  | succ m ih =>
    intro h
    refine Nat.or_lt_two_pow (ih (by omega)) ?_
    split
    · rw [Nat.one_mul]; exact Nat.pow_lt_pow_right (by decide) (by omega)
    · decide
/-- an entry has changed on one of the first d days -/
def mvd (x b : Nat) : Nat → Bool
  | 0 => false
  | d + 1 => mvd x b d || ent x d != ent b d
theorem mvd_y {m : Bool} {x b d : Nat} (h : (m || mvd x b d) = true ∨ ent x d ≠ ent b d) : true = (m || mvd x b (d + 1)) := by
  show true = (m || (mvd x b d || ent x d != ent b d))
  rcases h with h | h
  · rw [← Bool.or_assoc, h]; rfl
  · rw [bne_iff_ne.mpr h, Bool.or_true, Bool.or_true]
theorem mvd_n {m : Bool} {x b d : Nat} (h : (m || mvd x b d) = false) (h2 : ent x d = ent b d) : false = (m || mvd x b (d + 1)) := by
  show false = (m || (mvd x b d || ent x d != ent b d))
  rw [← Bool.or_assoc, h, h2, bne_x]; rfl
theorem mvd_t {x b : Nat} : ∀ d, mvd x b d = true ↔ ∃ j, j < d ∧ ent x j ≠ ent b j := by
  intro d
  induction d with
  | zero => exact ⟨fun h => (by cases h), fun ⟨j, h, _⟩ => absurd h (Nat.not_lt_zero j)⟩
  | succ d ih =>
    show (mvd x b d || ent x d != ent b d) = true ↔ _
    rw [Bool.or_eq_true, ih, bne_iff_ne]
    constructor
    · intro h
      rcases h with ⟨j, h1, h2⟩ | h
      · exact ⟨j, by omega, h2⟩
      · exact ⟨d, by omega, h⟩
    · intro ⟨j, h1, h2⟩
      by_cases e : j = d
      · subst e; exact Or.inr h2
      · exact Or.inl ⟨j, by omega, h2⟩
theorem mvd_7 {x b : Nat} (hx : x < 16384) (hb : b < 16384) : mvd x b 7 = (b != x) := by
  by_cases h : b = x
  · subst h
    rw [bne_x]
    exact Bool.eq_false_iff.mpr (fun q => by obtain ⟨j, -, h2⟩ := (mvd_t 7).mp q; exact h2 rfl)
  · rw [bne_iff_ne.mpr h]
    refine (mvd_t 7).mpr (Classical.byContradiction fun q => h (week_ext hb hx fun j hj => ?_))
    exact Classical.byContradiction fun z => q ⟨j, hj, fun y => z y.symm⟩
theorem mxw_at {x w d : Nat} (hd : d < 7) : ent (mxw x w d) d = ent x d := by rw [mxw_ent d (by omega) d hd, if_neg (Nat.lt_irrefl d)]
/-! the least that lacks -/
theorem bit_z (k : Nat) : bit 0 k = 0 := by show 0 / _ % 2 = 0; rw [Nat.zero_div]
theorem nks_z {nd : Nat → Nat} {d : Nat} : ∀ k, nks nd d 0 k = 0 := by
  intro k
  induction k with
  | zero => rfl
  | succ k ih => rw [nks_0 (bit_z _), ih]
theorem lks_1 {n : Nat} {nd sk : Nat → Nat} {d : Nat} : lks n nd sk d 1 = 0 := by
  show max 0 (nks nd d 0 3 - _) = 0
  rw [nks_z, Nat.zero_sub]; rfl
/-! a number drawn out of an int -/
def lowb (x : Int32) : Nat := x.toBitVec.toNat % 2 ^ 31
theorem lowb_lt (x : Int32) : lowb x < 2 ^ 31 := Nat.mod_lt _ (by decide)
theorem low_and (x : Int32) : x &&& nI 2147483647 = nI (lowb x) := by
  apply sx_inj
  show x.toBitVec &&& BitVec.ofNat 32 2147483647 = BitVec.ofNat 32 (x.toBitVec.toNat % 2 ^ 31)
  apply BitVec.eq_of_toNat_eq
  rw [BitVec.toNat_and, BitVec.toNat_ofNat, BitVec.toNat_ofNat, show 2147483647 % 2 ^ 32 = 2 ^ 31 - 1 from by decide, Nat.and_two_pow_sub_one_eq_mod]
  exact (Nat.mod_eq_of_lt (Nat.lt_trans (Nat.mod_lt _ (by decide)) (by decide))).symm

