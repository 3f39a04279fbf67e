/-! a person of the desk is written; pure words for it -/
theorem per_set_wk {X : va_W} {n i x : Nat} {pa sk mo wk fx wi la da we : Nat → Nat} (hi : i < n) : (X ++ pool n pa (per sk mo wk fx wi la da we)).set (X.length + i) (pa i, .inr (3, [.int (nI (sk i)), .int (nI (mo i)), .int (nI (wk i)), .int (nI (fx i)), .int (nI (wi i)), .int (nI (la i)), .int (nI (da i)), .int (nI (we i))].set 2 (.int (nI x)))) = X ++ pool n pa (per sk mo (va_up wk i x) fx wi la da we) := by
  apply List.ext_getElem?
  intro j
  by_cases hj : j = X.length + i
  · subst hj
    rw [List.getElem?_set_self (by rw [List.length_append]; show _ < _ + ((List.range n).map _).length; rw [List.length_map, List.length_range]; omega), pool_at hi]
    simp only [per, vu_s]
    rfl
  · rw [List.getElem?_set_ne (fun q => hj q.symm)]
    by_cases h2 : j < X.length
    · rw [List.getElem?_append_left h2, List.getElem?_append_left h2]
    · rw [List.getElem?_append_right (Nat.not_lt.mp h2), List.getElem?_append_right (Nat.not_lt.mp h2)]
      show ((List.range n).map _)[_]? = ((List.range n).map _)[_]?
      rw [List.getElem?_map, List.getElem?_map]
      by_cases h3 : j - X.length < n
      · rw [List.getElem?_range h3]
        simp only [Option.map_some, per, vu_n (show j - X.length ≠ i by omega)]
      · rw [List.getElem?_eq_none (by rw [List.length_range]; omega)]; rfl
theorem per_set_fx {X : va_W} {n i x : Nat} {pa sk mo wk fx wi la da we : Nat → Nat} (hi : i < n) : (X ++ pool n pa (per sk mo wk fx wi la da we)).set (X.length + i) (pa i, .inr (3, [.int (nI (sk i)), .int (nI (mo i)), .int (nI (wk i)), .int (nI (fx i)), .int (nI (wi i)), .int (nI (la i)), .int (nI (da i)), .int (nI (we i))].set 3 (.int (nI x)))) = X ++ pool n pa (per sk mo wk (va_up fx i x) wi la da we) := by
  apply List.ext_getElem?
  intro j
  by_cases hj : j = X.length + i
  · subst hj
    rw [List.getElem?_set_self (by rw [List.length_append]; show _ < _ + ((List.range n).map _).length; rw [List.length_map, List.length_range]; omega), pool_at hi]
    simp only [per, vu_s]
    rfl
  · rw [List.getElem?_set_ne (fun q => hj q.symm)]
    by_cases h2 : j < X.length
    · rw [List.getElem?_append_left h2, List.getElem?_append_left h2]
    · rw [List.getElem?_append_right (Nat.not_lt.mp h2), List.getElem?_append_right (Nat.not_lt.mp h2)]
      show ((List.range n).map _)[_]? = ((List.range n).map _)[_]?
      rw [List.getElem?_map, List.getElem?_map]
      by_cases h3 : j - X.length < n
      · rw [List.getElem?_range h3]
        simp only [Option.map_some, per, vu_n (show j - X.length ≠ i by omega)]
      · rw [List.getElem?_eq_none (by rw [List.length_range]; omega)]; rfl
theorem per_set_wi {X : va_W} {n i x : Nat} {pa sk mo wk fx wi la da we : Nat → Nat} (hi : i < n) : (X ++ pool n pa (per sk mo wk fx wi la da we)).set (X.length + i) (pa i, .inr (3, [.int (nI (sk i)), .int (nI (mo i)), .int (nI (wk i)), .int (nI (fx i)), .int (nI (wi i)), .int (nI (la i)), .int (nI (da i)), .int (nI (we i))].set 4 (.int (nI x)))) = X ++ pool n pa (per sk mo wk fx (va_up wi i x) la da we) := by
  apply List.ext_getElem?
  intro j
  by_cases hj : j = X.length + i
  · subst hj
    rw [List.getElem?_set_self (by rw [List.length_append]; show _ < _ + ((List.range n).map _).length; rw [List.length_map, List.length_range]; omega), pool_at hi]
    simp only [per, vu_s]
    rfl
  · rw [List.getElem?_set_ne (fun q => hj q.symm)]
    by_cases h2 : j < X.length
    · rw [List.getElem?_append_left h2, List.getElem?_append_left h2]
    · rw [List.getElem?_append_right (Nat.not_lt.mp h2), List.getElem?_append_right (Nat.not_lt.mp h2)]
      show ((List.range n).map _)[_]? = ((List.range n).map _)[_]?
      rw [List.getElem?_map, List.getElem?_map]
      by_cases h3 : j - X.length < n
      · rw [List.getElem?_range h3]
        simp only [Option.map_some, per, vu_n (show j - X.length ≠ i by omega)]
      · rw [List.getElem?_eq_none (by rw [List.length_range]; omega)]; rfl
theorem per_set_la {X : va_W} {n i x : Nat} {pa sk mo wk fx wi la da we : Nat → Nat} (hi : i < n) : (X ++ pool n pa (per sk mo wk fx wi la da we)).set (X.length + i) (pa i, .inr (3, [.int (nI (sk i)), .int (nI (mo i)), .int (nI (wk i)), .int (nI (fx i)), .int (nI (wi i)), .int (nI (la i)), .int (nI (da i)), .int (nI (we i))].set 5 (.int (nI x)))) = X ++ pool n pa (per sk mo wk fx wi (va_up la i x) da we) := by
  apply List.ext_getElem?
  intro j
  by_cases hj : j = X.length + i
  · subst hj
    rw [List.getElem?_set_self (by rw [List.length_append]; show _ < _ + ((List.range n).map _).length; rw [List.length_map, List.length_range]; omega), pool_at hi]
    simp only [per, vu_s]
    rfl
  · rw [List.getElem?_set_ne (fun q => hj q.symm)]
    by_cases h2 : j < X.length
    · rw [List.getElem?_append_left h2, List.getElem?_append_left h2]
    · rw [List.getElem?_append_right (Nat.not_lt.mp h2), List.getElem?_append_right (Nat.not_lt.mp h2)]
      show ((List.range n).map _)[_]? = ((List.range n).map _)[_]?
      rw [List.getElem?_map, List.getElem?_map]
      by_cases h3 : j - X.length < n
      · rw [List.getElem?_range h3]
        simp only [Option.map_some, per, vu_n (show j - X.length ≠ i by omega)]
      · rw [List.getElem?_eq_none (by rw [List.length_range]; omega)]; rfl
theorem per_set_da {X : va_W} {n i x : Nat} {pa sk mo wk fx wi la da we : Nat → Nat} (hi : i < n) : (X ++ pool n pa (per sk mo wk fx wi la da we)).set (X.length + i) (pa i, .inr (3, [.int (nI (sk i)), .int (nI (mo i)), .int (nI (wk i)), .int (nI (fx i)), .int (nI (wi i)), .int (nI (la i)), .int (nI (da i)), .int (nI (we i))].set 6 (.int (nI x)))) = X ++ pool n pa (per sk mo wk fx wi la (va_up da i x) we) := by
  apply List.ext_getElem?
  intro j
  by_cases hj : j = X.length + i
  · subst hj
    rw [List.getElem?_set_self (by rw [List.length_append]; show _ < _ + ((List.range n).map _).length; rw [List.length_map, List.length_range]; omega), pool_at hi]
    simp only [per, vu_s]
    rfl
  · rw [List.getElem?_set_ne (fun q => hj q.symm)]
    by_cases h2 : j < X.length
    · rw [List.getElem?_append_left h2, List.getElem?_append_left h2]
    · rw [List.getElem?_append_right (Nat.not_lt.mp h2), List.getElem?_append_right (Nat.not_lt.mp h2)]
      show ((List.range n).map _)[_]? = ((List.range n).map _)[_]?
      rw [List.getElem?_map, List.getElem?_map]
      by_cases h3 : j - X.length < n
      · rw [List.getElem?_range h3]
        simp only [Option.map_some, per, vu_n (show j - X.length ≠ i by omega)]
      · rw [List.getElem?_eq_none (by rw [List.length_range]; omega)]; rfl
theorem per_set_we {X : va_W} {n i x : Nat} {pa sk mo wk fx wi la da we : Nat → Nat} (hi : i < n) : (X ++ pool n pa (per sk mo wk fx wi la da we)).set (X.length + i) (pa i, .inr (3, [.int (nI (sk i)), .int (nI (mo i)), .int (nI (wk i)), .int (nI (fx i)), .int (nI (wi i)), .int (nI (la i)), .int (nI (da i)), .int (nI (we i))].set 7 (.int (nI x)))) = X ++ pool n pa (per sk mo wk fx wi la da (va_up we i x)) := by
  apply List.ext_getElem?
  intro j
  by_cases hj : j = X.length + i
  · subst hj
    rw [List.getElem?_set_self (by rw [List.length_append]; show _ < _ + ((List.range n).map _).length; rw [List.length_map, List.length_range]; omega), pool_at hi]
    simp only [per, vu_s]
    rfl
  · rw [List.getElem?_set_ne (fun q => hj q.symm)]
    by_cases h2 : j < X.length
    · rw [List.getElem?_append_left h2, List.getElem?_append_left h2]
    · rw [List.getElem?_append_right (Nat.not_lt.mp h2), List.getElem?_append_right (Nat.not_lt.mp h2)]
      show ((List.range n).map _)[_]? = ((List.range n).map _)[_]?
      rw [List.getElem?_map, List.getElem?_map]
      by_cases h3 : j - X.length < n
      · rw [List.getElem?_range h3]
        simp only [Option.map_some, per, vu_n (show j - X.length ≠ i by omega)]
      · rw [List.getElem?_eq_none (by rw [List.length_range]; omega)]; rfl
theorem bs_I {x k : Nat} {b : Bool} : (if b = true then nI (bset x k 1) else nI (bset x k 0)) = nI (bset x k b.toNat) := by cases b <;> rfl
theorem bs_ne {x k b : Nat} (hb : b < 2) : bset x k b ≠ x ↔ bit x k ≠ b := by
  constructor
  · intro h q; exact h (bs_same q)
  · intro h q
    have := bs_get (x := x) (k := k) hb
    rw [q] at this; exact h this
