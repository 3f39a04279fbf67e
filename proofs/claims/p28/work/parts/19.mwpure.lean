/-! pure words for the calls that change something -/
theorem inb_F {e : Nat} (h : e < 5) : inb (nI e - nI 1) (-1) (nI 3) = true := by
  revert e
  have key : ∀ e, e < 5 → inb (nI e - nI 1) (-1) (nI 3) = true := by decide +kernel
  intro e h; exact key e h
theorem vu_vu {f : Nat → Nat} {i a b : Nat} : va_up (va_up f i a) i b = va_up f i b := by
  funext j
  show (if j = i then b else if j = i then a else f j) = if j = i then b else f j
  split <;> rfl
theorem vu_id {f : Nat → Nat} {i : Nat} : va_up f i (f i) = f := by
  funext j
  show (if j = i then f i else f j) = f j
  split
  · next h => rw [h]
  · rfl
theorem wf_wk {n cl fb rn : Nat} {nd sk mo wk fx wi la da we : Nat → Nat} (h : wfC n cl fb rn nd sk mo wk fx wi la da we) (i : Nat) {x : Nat} (hx : x < 16384) : wfC n cl fb rn nd sk mo (va_up wk i x) fx wi la da we := by
  obtain ⟨h1, h2, h3, h4, h5, h6⟩ := h
  refine ⟨h1, h2, h3, h4, h5, fun k => ?_⟩
  have := h6 k
  by_cases e : k = i
  · subst e; rw [vu_s]; omega
  · rw [vu_n e]; exact this
theorem wf_fun {n cl fb rn : Nat} {nd sk mo wk wk2 fx wi la da we : Nat → Nat} (h : wfC n cl fb rn nd sk mo wk fx wi la da we) (hx : ∀ k, wk2 k < 16384) : wfC n cl fb rn nd sk mo wk2 fx wi la da we := by
  obtain ⟨h1, h2, h3, h4, h5, h6⟩ := h
  refine ⟨h1, h2, h3, h4, h5, fun k => ?_⟩
  have := h6 k
  have := hx k
  omega
/-- the entries of w written over those of x, the first d days -/
def mxw (x w : Nat) : Nat → Nat
  | 0 => x
  | d + 1 => wset (mxw x w d) d (ent w d)
theorem mxw_ent {x w : Nat} : ∀ d, d ≤ 7 → ∀ j, j < 7 → ent (mxw x w d) j = if j < d then ent w j else ent x j := by
  intro d
  induction d with
  | zero => intro _ j _; rfl
  | succ d ih =>
    intro hd j hj
    show ent (wset (mxw x w d) d (ent w d)) j = _
    by_cases h : j = d
    · subst h; rw [ws_get (ent_lt _ _), if_pos (by omega)]
    · rw [ws_get2 (ent_lt _ _) (by omega) hj h, ih (by omega) j hj]
      by_cases h2 : j < d
      · rw [if_pos h2, if_pos (by omega)]
      · rw [if_neg h2, if_neg (by omega)]
theorem mxw_lt {x w : Nat} (hx : x < 16384) : ∀ d, d ≤ 7 → mxw x w d < 16384 := by
  intro d
  induction d with
  | zero => intro _; exact hx
  | succ d ih => intro hd; exact wset_lt (ih (by omega)) (by omega) (ent_lt _ _)
theorem week_ext {x y : Nat} (hx : x < 16384) (hy : y < 16384) (h : ∀ j, j < 7 → ent x j = ent y j) : x = y := by
  have key : ∀ d, d ≤ 7 → pre x d = pre y d := by
    intro d
    induction d with
    | zero => intro _; rw [pre_0 hx, pre_0 hy]
    | succ d ih => intro hd; rw [pre_s (by omega), pre_s (by omega), ih (by omega), h d (by omega)]
  have := key 7 (Nat.le_refl _)
  rw [pre_7, pre_7] at this; exact this
theorem mxw_7 {x w : Nat} (hx : x < 16384) (hw : w < 16384) : mxw x w 7 = w := by
  refine week_ext (mxw_lt hx 7 (Nat.le_refl _)) hw (fun j hj => ?_)
  rw [mxw_ent 7 (Nat.le_refl _) j hj, if_pos hj]
/-- functions changed below m -/
def upn (f g : Nat → Nat) (m : Nat) : Nat → Nat := fun k => if k < m then g k else f k
theorem upn_0 {f g : Nat → Nat} : upn f g 0 = f := rfl
theorem upn_s {f g : Nat → Nat} {m : Nat} : va_up (upn f g m) m (g m) = upn f g (m + 1) := by
  funext k
  show (if k = m then g m else if k < m then g k else f k) = if k < m + 1 then g k else f k
  by_cases h : k = m
  · subst h; rw [if_pos rfl, if_pos (by omega)]
  · rw [if_neg h]
    by_cases h2 : k < m
    · rw [if_pos h2, if_pos (by omega)]
    · rw [if_neg h2, if_neg (by omega)]
theorem upn_at {f g : Nat → Nat} {m : Nat} : upn f g m m = f m := if_neg (Nat.lt_irrefl m)
theorem upn_all {f g : Nat → Nat} {m : Nat} {P : Nat → Prop} (h1 : ∀ k, P (f k)) (h2 : ∀ k, P (g k)) : ∀ k, P (upn f g m k) := by
  intro k
  show P (if k < m then g k else f k)
  split
  · exact h2 k
  · exact h1 k
/-- the first d days' nibbles cleared -/
def ncl (x : Nat) : Nat → Nat
  | 0 => x
  | d + 1 => nset (ncl x d) d 0
theorem ncl_lt {x : Nat} (hx : x < 2 ^ 28) : ∀ d, d ≤ 7 → ncl x d < 2 ^ 28 := by
  intro d
  induction d with
  | zero => intro _; exact hx
  | succ d ih => intro hd; exact ns_lt (by decide) (ih (by omega)) (by omega)
theorem ncl_nib {x : Nat} : ∀ d, ∀ j, j < d → nib (ncl x d) j = 0 := by
  intro d
  induction d with
  | zero => intro j hj; omega
  | succ d ih =>
    intro j hj
    show nib (nset (ncl x d) d 0) j = 0
    by_cases h : j = d
    · subst h; exact ns_get (by decide)
    · rw [ns_get2 (by decide) h]; exact ih j (by omega)
theorem nib_0 {x : Nat} (hx : x < 2 ^ 28) (h : ∀ j, j < 7 → nib x j = 0) : x = 0 := by
  have h0 : x % 16 = 0 := by have := h 0 (by decide); simpa [nib] using this
  have h1 : x / 2 ^ 4 % 16 = 0 := h 1 (by decide)
  have h2 : x / 2 ^ 8 % 16 = 0 := h 2 (by decide)
  have h3 : x / 2 ^ 12 % 16 = 0 := h 3 (by decide)
  have h4 : x / 2 ^ 16 % 16 = 0 := h 4 (by decide)
  have h5 : x / 2 ^ 20 % 16 = 0 := h 5 (by decide)
  have h6 : x / 2 ^ 24 % 16 = 0 := h 6 (by decide)
  omega
theorem ncl_7 {x : Nat} (hx : x < 2 ^ 28) : ncl x 7 = 0 := nib_0 (ncl_lt hx 7 (Nat.le_refl _)) (ncl_nib 7)
/-- who could take: the set of the k below m with f k -/
def ctk (f : Nat → Bool) : Nat → Nat
  | 0 => 0
  | k + 1 => ctk f k ||| (if f k = true then 1 * 2 ^ k else 0)
theorem ctk_lt (f : Nat → Bool) (m : Nat) : ctk f m < 2 ^ m := by
  induction m with
  | zero => exact Nat.zero_lt_one
  | succ m ih =>
    show ctk f m ||| _ < _
    refine Nat.or_lt_two_pow (Nat.lt_of_lt_of_le ih (Nat.pow_le_pow_right (by decide) (by omega))) ?_
    split
    · rw [Nat.one_mul]; exact Nat.pow_lt_pow_right (by decide) (by omega)
    · exact Nat.two_pow_pos _
theorem ctk_1 {f : Nat → Bool} {k : Nat} (h : f k = true) : ctk f k ||| 1 * 2 ^ k = ctk f (k + 1) := by show _ = ctk f k ||| (if f k = true then _ else 0); rw [if_pos h]
theorem ctk_0 {f : Nat → Bool} {k : Nat} (h : f k = false) : ctk f k ||| 0 = ctk f (k + 1) := by show _ = ctk f k ||| (if f k = true then _ else 0); rw [h]; rfl
theorem ctk_0' {f : Nat → Bool} {k : Nat} (h : f k = false) : ctk f k = ctk f (k + 1) := by rw [← ctk_0 h, Nat.or_zero]
def ctf (sk mo wk fx la da : Nat → Nat) (fb rn d e : Nat) : Nat → Bool := fun k => ent (wk k) d == 0 && fe sk mo fx la da fb rn k (wset (wk k) d e)
/-- with whom to swap, and one more; the fewest shifts -/
def swf (can : Nat → Bool) (its : Nat → Nat) : Nat → Nat × Nat
  | 0 => (0, 8)
  | k + 1 => if can k = true ∧ its k < (swf can its k).2 then (k + 1, its k) else swf can its k
theorem swf_y {can : Nat → Bool} {its : Nat → Nat} {k : Nat} (h : can k = true) (h2 : its k < (swf can its k).2) : swf can its (k + 1) = (k + 1, its k) := if_pos ⟨h, h2⟩
theorem swf_n {can : Nat → Bool} {its : Nat → Nat} {k : Nat} (h : can k = false ∨ (swf can its k).2 ≤ its k) : swf can its (k + 1) = swf can its k := by
  refine if_neg (fun q => ?_)
  rcases h with h | h
  · rw [h] at q; exact absurd q.1 (by decide)
  · omega
theorem swf_le {can : Nat → Bool} {its : Nat → Nat} (k : Nat) : (swf can its k).1 ≤ k ∧ (swf can its k).2 ≤ 8 := by
  induction k with
  | zero => exact ⟨Nat.le_refl _, Nat.le_refl _⟩
  | succ k ih =>
    show (if _ then (k + 1, its k) else swf can its k).1 ≤ _ ∧ (if _ then (k + 1, its k) else swf can its k).2 ≤ 8
    split
    · next h => exact ⟨Nat.le_refl _, by show its k ≤ 8; omega⟩
    · omega
def swc (sk mo wk fx la da : Nat → Nat) (fb rn i d : Nat) : Nat → Bool := fun j => ent (wk i) d != ent (wk j) d && csw sk mo wk fx la da fb rn i j d
/-- a value that is not looked into -/
noncomputable def hid {α : Type} (x : α) : α := Classical.choose (⟨x, rfl⟩ : ∃ y, y = x)
theorem hid_eq {α : Type} (x : α) : hid x = x := Classical.choose_spec (⟨x, rfl⟩ : ∃ y, y = x)
/-- the week that a person chooses -/
noncomputable def cho (n fb rn : Nat) (nd sk mo fx wi la da we wk : Nat → Nat) (p : Nat) : Nat := hid ((cst (fun w => prM (we p) (wi p) (fl n nd wk p 21) w) (fe sk mo fx la da fb rn p) 16384).1)
theorem cst_lt {pr : Nat → Nat} {fs : Nat → Bool} (k : Nat) (hk : 0 < k) : (cst pr fs k).1 < k := by
  induction k with
  | zero => omega
  | succ k ih =>
    show (if _ then (k, pr k + 1) else cst pr fs k).1 < k + 1
    split
    · exact Nat.lt_succ_self k
    · cases k with
      | zero => exact Nat.zero_lt_one
      | succ k => have := ih (by omega); omega
theorem cho_lt (n fb rn : Nat) (nd sk mo fx wi la da we wk : Nat → Nat) (p : Nat) : cho n fb rn nd sk mo fx wi la da we wk p < 16384 := by
  show hid _ < 16384
  rw [hid_eq]; exact cst_lt 16384 (by decide)
/-- a round: the first p people have chosen; has something changed? -/
def rst (C : (Nat → Nat) → Nat → Nat) (wk : Nat → Nat) : Nat → (Nat → Nat) × Bool
  | 0 => (wk, false)
  | p + 1 => (va_up (rst C wk p).1 p (C (rst C wk p).1 p), (rst C wk p).2 || C (rst C wk p).1 p != (rst C wk p).1 p)
/-- r rounds -/
def pls (C : (Nat → Nat) → Nat → Nat) (n : Nat) (w0 : Nat → Nat) : Nat → (Nat → Nat) × Bool
  | 0 => (w0, true)
  | r + 1 => rst C (pls C n w0 r).1 n
def PRd (C : (Nat → Nat) → Nat → Nat) (n : Nat) (w0 : Nat → Nat) (r : Nat) : Prop := (∀ k, k < r → (pls C n w0 k).2 = true) ∧ ((pls C n w0 r).2 = false ∨ r = 10) ∧ r ≤ 10
theorem PR_one {C : (Nat → Nat) → Nat → Nat} {n : Nat} {w0 : Nat → Nat} {a b : Nat} (ha : PRd C n w0 a) (hb : PRd C n w0 b) : a = b := by
  rcases Nat.lt_trichotomy a b with h | h | h
  · have := hb.1 a h
    rcases ha.2.1 with q | q
    · rw [q] at this; exact absurd this (by decide)
    · have := hb.2.2; omega
  · exact h
  · have := ha.1 b h
    rcases hb.2.1 with q | q
    · rw [q] at this; exact absurd this (by decide)
    · have := ha.2.2; omega
theorem rst_lt {C : (Nat → Nat) → Nat → Nat} {wk : Nat → Nat} (hC : ∀ w p, C w p < 16384) (hw : ∀ k, wk k < 16384) : ∀ p k, (rst C wk p).1 k < 16384 := by
  intro p
  induction p with
  | zero => exact hw
  | succ p ih =>
    intro k
    show va_up (rst C wk p).1 p (C (rst C wk p).1 p) k < 16384
    by_cases h : k = p
    · rw [h, vu_s]; exact hC _ _
    · rw [vu_n h]; exact ih k
theorem pls_lt {C : (Nat → Nat) → Nat → Nat} {n : Nat} {w0 : Nat → Nat} (hC : ∀ w p, C w p < 16384) (hw : ∀ k, w0 k < 16384) : ∀ r k, (pls C n w0 r).1 k < 16384 := by
  intro r
  induction r with
  | zero => exact hw
  | succ r ih => exact rst_lt hC ih n
/-- all weeks of the first m people off -/
abbrev off (wk : Nat → Nat) (m : Nat) : Nat → Nat := upn wk (fun _ => 0) m
