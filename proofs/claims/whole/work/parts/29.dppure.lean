/-! what the table comes to -/
theorem min_I {a : Nat} (h : a < 2 ^ 31) : (if nI 14 < nI a then nI 14 else nI a) = nI (min a 14) := by
  have e := nI_ltI (a := 14) (b := a) (by decide) h
  by_cases q : 14 < a
  · rw [if_pos (e.mpr q), Nat.min_eq_right (by omega)]
  · rw [if_neg (fun z => q (e.mp z)), Nat.min_eq_left (by omega)]
theorem pl4_lt {da la : Nat} (h : la < 4) : pl4 0 (min da 14) la < 480 := by
  show (0 * 15 + min da 14) * 4 + la < 480
  omega
/-- whether an entry fills a gap -/
def fif (n : Nat) (nd wk : Nat → Nat) (i d e : Nat) : Bool := e != 0 && decide (0 < gpw n nd wk i d e)
/-- the prices of the entries -/
def pT (we wi : Nat) (f : Nat → Nat → Bool) : Nat → Int64 := fun k => lN (priN we wi (k / 4) (k % 4) (f (k / 4) (k % 4)))
theorem pT_s {we wi : Nat} {f : Nat → Nat → Bool} {P : Nat → Int64} {d e : Nat} {b : Bool} (he : e < 4) (h : ∀ j, j < 4 * d + e → P j = pT we wi f j) (hb : f d e = b) : ∀ j, j < 4 * d + (e + 1) → vp_updL P (d * 4 + e) (lN (priN we wi d e b)) j = pT we wi f j := by
  intro j hj
  show (if j = d * 4 + e then lN (priN we wi d e b) else P j) = _
  split
  · next q =>
    subst q
    show _ = lN (priN we wi ((d * 4 + e) / 4) ((d * 4 + e) % 4) (f ((d * 4 + e) / 4) ((d * 4 + e) % 4)))
    rw [show (d * 4 + e) / 4 = d by omega, show (d * 4 + e) % 4 = e by omega, hb]
  · exact h j (by omega)
noncomputable def thP (sk mo fx fb rn da la : Nat) (PR : Nat → Int64) : Int64 := hid (jf (fun a b => if b < a then b else a) 9223372036854775807 (dpV (okp sk mo fx fb rn) (fun d v e => v + PR (d * 4 + e)) (fun a b => if b < a then b else a) 9223372036854775807 0 (pl4 0 (min da 14) la) 7) 480)
noncomputable def thC (sk mo fx fb rn da la : Nat) : Int64 := hid (jf (fun a b => a + b) 0 (dpV (okp sk mo fx fb rn) (fun _ v _ => v) (fun a b => a + b) 0 1 (pl4 0 (min da 14) la) 7) 480)
theorem dp_price {n bd fb rn : Nat} {nd sk mo wk fx wi la da we : Nat → Nat} (hwf : wfC n bd fb rn nd sk mo wk fx wi la da we) {i : Nat} (hi : i < n) {PR : Nat → Int64} (h : ∀ j, j < 28 → PR j = pT (we i) (wi i) (fif n nd wk i) j) : wkI (thP (sk i) (mo i) (fx i) fb rn (da i) (la i) PR) = nI (cho n fb rn nd sk mo fx wi la da we wk i) := sorry
theorem dp_count {n bd fb rn : Nat} {nd sk mo wk fx wi la da we : Nat → Nat} (hwf : wfC n bd fb rn nd sk mo wk fx wi la da we) {i : Nat} (hi : i < n) : (thC (sk i) (mo i) (fx i) fb rn (da i) (la i)).toInt32 = nI (cnw (fe sk mo fx la da fb rn i) 16384) := sorry
