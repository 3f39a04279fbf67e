/-! what the table comes to -/
theorem min_I {a : Nat} (h : a < 2 ^ 31) : (if nI 14 < nI a then nI 14 else nI a) = nI (min a 14) := by
  have e := nI_ltI (a := 14) (b := a) (by decide) h
  by_cases q : 14 < a
  · rw [if_pos (e.mpr q), Nat.min_eq_right (by omega)]
  · rw [if_neg (fun z => q (e.mp z)), Nat.min_eq_left (by omega)]
theorem pl4_lt {da la : Nat} (h : la < 4) : pl4 0 (min da 14) la < 480 := by
  show (0 * 15 + min da 14) * 4 + la < 480
  omega
/-- whether an entry fills a gap -/
def fif (n : Nat) (nd wk : Nat → Nat) (i d e : Nat) : Bool := e != 0 && decide (0 < gpw n nd wk i d e)
/-- the prices of the entries -/
def pT (we wi : Nat) (f : Nat → Nat → Bool) : Nat → Int64 := fun k => lN (priN we wi (k / 4) (k % 4) (f (k / 4) (k % 4)))
theorem pT_s {we wi : Nat} {f : Nat → Nat → Bool} {P : Nat → Int64} {d e : Nat} {b : Bool} (he : e < 4) (h : ∀ j, j < 4 * d + e → P j = pT we wi f j) (hb : f d e = b) : ∀ j, j < 4 * d + (e + 1) → vp_updL P (d * 4 + e) (lN (priN we wi d e b)) j = pT we wi f j := by
  intro j hj
  show (if j = d * 4 + e then lN (priN we wi d e b) else P j) = _
  split
  · next q =>
    subst q
    show _ = lN (priN we wi ((d * 4 + e) / 4) ((d * 4 + e) % 4) (f ((d * 4 + e) / 4) ((d * 4 + e) % 4)))
    rw [show (d * 4 + e) / 4 = d by omega, show (d * 4 + e) % 4 = e by omega, hb]
  · exact h j (by omega)
noncomputable def thP (sk mo fx fb rn da la : Nat) (PR : Nat → Int64) : Int64 := hid (jf (fun a b => if b < a then b else a) 9223372036854775807 (dpV (okp sk mo fx fb rn) (fun d v e => v + PR (d * 4 + e)) (fun a b => if b < a then b else a) 9223372036854775807 0 (pl4 0 (min da 14) la) 7) 480)
noncomputable def thC (sk mo fx fb rn da la : Nat) : Int64 := hid (jf (fun a b => a + b) 0 (dpV (okp sk mo fx fb rn) (fun _ v _ => v) (fun a b => a + b) 0 1 (pl4 0 (min da 14) la) 7) 480)
/-! the table counts: by what is still to come -/
def sl (f : Nat → Int64) : Nat → Int64
  | 0 => 0
  | e + 1 => sl f e + f e
def sm (f : Nat → Nat) : Nat → Nat
  | 0 => 0
  | e + 1 => sm f e + f e
theorem sl_sm (f : Nat → Nat) : ∀ k, sl (fun e => lN (f e)) k = lN (sm f k)
  | 0 => rfl
  | k + 1 => by show sl (fun e => lN (f e)) k + lN (f k) = lN (sm f k + f k); rw [sl_sm f k, lN_add]
theorem sl_ext {f g : Nat → Int64} (h : ∀ e, f e = g e) (k : Nat) : sl f k = sl g k := by rw [show f = g from funext h]
def ws2 (N B : Nat → Int64) : Nat → Int64 := fun k => sl (fun j => N j * B j) k
theorem ws2_s {N B : Nat → Int64} {k : Nat} : ws2 N B (k + 1) = ws2 N B k + N k * B k := rfl
theorem up_at {N : Nat → Int64} {k : Nat} {v : Int64} : vp_updL N k v k = v := if_pos rfl
theorem up_ne {N : Nat → Int64} {k j : Nat} {v : Int64} (h : j ≠ k) : vp_updL N k v j = N j := if_neg h
theorem ws2_n {N B : Nat → Int64} {k : Nat} {v : Int64} : ∀ m, m ≤ k → ws2 (vp_updL N k v) B m = ws2 N B m
  | 0, _ => rfl
  | m + 1, h => by rw [ws2_s, ws2_s, ws2_n m (by omega), up_ne (by omega)]
theorem ws2_u {N B : Nat → Int64} {k : Nat} {v : Int64} : ∀ m, k < m → ws2 (vp_updL N k (N k + v)) B m = ws2 N B m + v * B k
  | 0, h => absurd h (Nat.not_lt_zero _)
  | m + 1, h => by
    by_cases e : k = m
    · subst e
      rw [ws2_s, ws2_s, ws2_n k (Nat.le_refl _), up_at, Int64.add_mul, Int64.add_assoc]
    · rw [ws2_s, ws2_s, ws2_u m (by omega), up_ne (fun q => e q.symm), Int64.add_assoc, Int64.add_comm (v * B k), ← Int64.add_assoc]
theorem ws2_0 {B : Nat → Int64} : ∀ m, ws2 (fun _ => 0) B m = 0
  | 0 => rfl
  | m + 1 => by rw [ws2_s, ws2_0 m, Int64.zero_mul]; rfl
theorem ctE {ok : Nat → Nat → Bool} {v : Int64} {p : Nat} {N B : Nat → Int64} (hn : ∀ e, e < 4 → ok p e = true → nx p e < 480) : ∀ e, e ≤ 4 → ws2 (goE ok (fun v _ => v) (fun a b => a + b) v p N e) B 480 = ws2 N B 480 + v * sl (fun e => if ok p e = true then B (nx p e) else 0) e := by
  intro e
  induction e with
  | zero => intro _; show ws2 N B 480 = ws2 N B 480 + v * 0; rw [Int64.mul_zero, Int64.add_zero]
  | succ e ih =>
    intro h
    show _ = ws2 N B 480 + v * (sl (fun e => if ok p e = true then B (nx p e) else 0) e + (if ok p e = true then B (nx p e) else 0))
    by_cases q : ok p e = true
    · rw [goE_y q, ws2_u 480 (hn e (by omega) q), ih (by omega), if_pos q, Int64.mul_add, Int64.add_assoc]
    · rw [goE_n (Bool.eq_false_iff.mpr q), ih (by omega), if_neg q, Int64.add_zero]
theorem ctP {ok : Nat → Nat → Bool} {V B : Nat → Int64} (hn : ∀ p, p < 480 → ∀ e, e < 4 → ok p e = true → nx p e < 480) : ∀ p, p ≤ 480 → ws2 (goP ok (fun v _ => v) (fun a b => a + b) 0 V p) B 480 = ws2 V (fun p => sl (fun e => if ok p e = true then B (nx p e) else 0) 4) p := by
  intro p
  induction p with
  | zero => intro _; exact ws2_0 480
  | succ p ih =>
    intro h
    rw [ws2_s (N := V) (k := p)]
    by_cases q : V p = 0
    · rw [goP_n q, ih (by omega), q, Int64.zero_mul, Int64.add_zero]
    · rw [goP_y q, ctE (hn p (by omega)) 4 (Nat.le_refl _), ih (by omega)]
/-- the ways to go on for k days from day d -/
def bk (ok : Nat → Nat → Nat → Bool) : Nat → Nat → Nat → Nat
  | 0 => fun _ _ => 1
  | k + 1 => fun d p => sm (fun e => if ok d p e = true then bk ok k (d + 1) (nx p e) else 0) 4
theorem ctD {ok : Nat → Nat → Nat → Bool} {first : Nat} (hn : ∀ d, d < 7 → ∀ p, p < 480 → ∀ e, e < 4 → ok d p e = true → nx p e < 480) (hf : first < 480) : ∀ d, d ≤ 7 → ws2 (dpV ok (fun _ v _ => v) (fun a b => a + b) 0 1 first d) (fun p => lN (bk ok (7 - d) d p)) 480 = lN (bk ok 7 0 first) := by
  intro d
  induction d with
  | zero =>
    intro _
    have h := ws2_u (N := fun _ => (0 : Int64)) (B := fun p => lN (bk ok 7 0 p)) (v := 1) 480 hf
    rw [ws2_0, Int64.zero_add, Int64.zero_add, Int64.one_mul] at h
    exact h
  | succ d ih =>
    intro h
    have e1 := ctP (V := dpV ok (fun _ v _ => v) (fun a b => a + b) 0 1 first d) (B := fun p => lN (bk ok (7 - (d + 1)) (d + 1) p)) (hn d (by omega)) 480 (Nat.le_refl _)
    refine e1.trans (Eq.trans ?_ (ih (by omega)))
    have e2 : (fun p => sl (fun e => if ok d p e = true then lN (bk ok (7 - (d + 1)) (d + 1) (nx p e)) else 0) 4) = (fun p => lN (bk ok (7 - d) d p)) := by
      funext p
      rw [show 7 - d = (7 - (d + 1)) + 1 by omega]
      show _ = lN (sm (fun e => if ok d p e = true then bk ok (7 - (d + 1)) (d + 1) (nx p e) else 0) 4)
      rw [← sl_sm]
      refine sl_ext (fun e => ?_) 4
      split <;> rfl
    rw [e2]
theorem ct_jf (V : Nat → Int64) : ∀ k, jf (fun a b => a + b) 0 V k = ws2 V (fun _ => lN 1) k
  | 0 => rfl
  | k + 1 => by rw [ws2_s, ← ct_jf V k]; show _ + V k = _ + V k * 1; rw [Int64.mul_one]
/-! weeks by their first days -/
def plP (da la : Nat) : Nat → Nat → Nat
  | 0 => fun _ => pl4 0 (min da 14) la
  | d + 1 => fun u => nx (plP da la d (u / 4)) (u % 4)
def okP (ok : Nat → Nat → Nat → Bool) (da la : Nat) : Nat → Nat → Bool
  | 0 => fun _ => true
  | d + 1 => fun u => okP ok da la d (u / 4) && ok d (plP da la d (u / 4)) (u % 4)
theorem pl_s {s r e : Nat} (hr : r < 15) (he : e < 4) : pl4 s r e / 4 / 15 = s ∧ pl4 s r e / 4 % 15 = r ∧ pl4 s r e % 4 = e := by
  have h : pl4 s r e = (s * 15 + r) * 4 + e := rfl
  omega
theorem okP_f {sk mo fx fb rn la da w : Nat} (hw : w < 16384) (hla : la < 4) (hrn : rn ≤ 14) : ∀ d, d ≤ 7 → (okP (okp sk mo fx fb rn) da la d (pre w d) = true ↔ okn sk (nib fx) (bit fb) la da rn w d = true ∧ shc w 0 d ≤ mo) ∧ (okP (okp sk mo fx fb rn) da la d (pre w d) = true → plP da la d (pre w d) = pl4 (shc w 0 d) (min (rnb w da d) 14) (bef w la d)) := by
  intro d
  induction d with
  | zero => intro _; exact ⟨⟨fun _ => ⟨rfl, Nat.zero_le _⟩, fun _ => rfl⟩, fun _ => rfl⟩
  | succ d ih =>
    intro h
    obtain ⟨i1, i2⟩ := ih (by omega)
    have hx := ent_lt w d
    have hb := bef_lt (w := w) hla d
    rw [pre_s (by omega)]
    have eP : okP (okp sk mo fx fb rn) da la (d + 1) (4 * pre w d + ent w d) = (okP (okp sk mo fx fb rn) da la d (pre w d) && okp sk mo fx fb rn d (plP da la d (pre w d)) (ent w d)) := by
      show (okP _ da la d ((4 * pre w d + ent w d) / 4) && okp sk mo fx fb rn d (plP da la d ((4 * pre w d + ent w d) / 4)) ((4 * pre w d + ent w d) % 4)) = _
      rw [show (4 * pre w d + ent w d) / 4 = pre w d by omega, show (4 * pre w d + ent w d) % 4 = ent w d by omega]
    have eL : plP da la (d + 1) (4 * pre w d + ent w d) = nx (plP da la d (pre w d)) (ent w d) := by
      show nx (plP da la d ((4 * pre w d + ent w d) / 4)) ((4 * pre w d + ent w d) % 4) = _
      rw [show (4 * pre w d + ent w d) / 4 = pre w d by omega, show (4 * pre w d + ent w d) % 4 = ent w d by omega]
    have eN : okn sk (nib fx) (bit fb) la da rn w (d + 1) = (okn sk (nib fx) (bit fb) la da rn w d && (may sk (nib fx) d (ent w d) && alw (bit fb) rn (bef w la d) (rnb w da d) (ent w d))) := rfl
    rw [eP, eL, eN, Bool.and_eq_true, Bool.and_eq_true]
    obtain ⟨s1, s2, s3⟩ := pl_s (s := shc w 0 d) (r := min (rnb w da d) 14) (e := bef w la d) (by omega) hb
    have eA : okP (okp sk mo fx fb rn) da la d (pre w d) = true → (okp sk mo fx fb rn d (plP da la d (pre w d)) (ent w d) = true ↔ (ent w d = 0 ∨ shc w 0 d < mo) ∧ (may sk (nib fx) d (ent w d) && alw (bit fb) rn (bef w la d) (rnb w da d) (ent w d)) = true) := by
      intro q
      rw [i2 q]
      show ((ent w d == 0 || decide (pl4 _ _ _ / 4 / 15 < mo)) && (may sk (nib fx) d (ent w d) && alw (bit fb) rn (pl4 _ _ _ % 4) (pl4 _ _ _ / 4 % 15) (ent w d))) = true ↔ _
      rw [s1, s2, s3]
      have e3 : alw (bit fb) rn (bef w la d) (min (rnb w da d) 14) (ent w d) = alw (bit fb) rn (bef w la d) (rnb w da d) (ent w d) := by
        show (_ || (decide (min (rnb w da d) 14 < rn) && _)) = (_ || (decide (rnb w da d < rn) && _))
        rw [show decide (min (rnb w da d) 14 < rn) = decide (rnb w da d < rn) from decide_eq_decide.mpr (by omega)]
      rw [e3, Bool.and_eq_true, Bool.or_eq_true, beq_iff_eq, decide_eq_true_eq]
    have eS : shc w 0 (d + 1) ≤ mo ↔ shc w 0 d ≤ mo ∧ (ent w d = 0 ∨ shc w 0 d < mo) := by
      by_cases z : ent w d = 0
      · rw [shc_0 z]; omega
      · rw [shc_1 (by omega)]; omega
    refine ⟨?_, fun q => ?_⟩
    · rw [eS]
      constructor
      · rintro ⟨q1, q2⟩
        have q3 := (eA q1).mp q2
        have q4 := i1.mp q1
        exact ⟨⟨q4.1, q3.2⟩, q4.2, q3.1⟩
      · rintro ⟨⟨q1, q2⟩, q3, q4⟩
        have q5 := i1.mpr ⟨q1, q3⟩
        exact ⟨q5, (eA q5).mpr ⟨q4, q2⟩⟩
    · have q2 := (eA q.1).mp q.2
      have q3 : alw (bit fb) rn (bef w la d) (rnb w da d) (ent w d) = true := (Bool.and_eq_true _ _ ▸ q2.2).2
      rw [i2 q.1]
      by_cases z : ent w d = 0
      · show (if ent w d = 0 then pl4 (pl4 _ _ _ / 4 / 15) 0 0 else _) = _
        rw [if_pos z, s1, shc_0 z]
        show _ = pl4 (shc w 0 d) (min (if ent w d = 0 then 0 else rnb w da d + 1) 14) (ent w d)
        rw [if_pos z, z]; rfl
      · show (if ent w d = 0 then _ else pl4 (pl4 _ _ _ / 4 / 15 + 1) (pl4 _ _ _ / 4 % 15 + 1) (ent w d)) = _
        rw [if_neg z, s1, s2, shc_1 (by omega)]
        show _ = pl4 (shc w 0 d + 1) (min (if ent w d = 0 then 0 else rnb w da d + 1) 14) (ent w d)
        have q4 : rnb w da d < rn := by
          simp only [alw, Bool.or_eq_true, Bool.and_eq_true, decide_eq_true_eq, beq_iff_eq] at q3
          exact (q3.resolve_left z).1
        rw [if_neg z, show min (rnb w da d) 14 + 1 = min (rnb w da d + 1) 14 by omega]
theorem okP_7 {sk mo fx fb rn la da w : Nat} (hw : w < 16384) (hla : la < 4) (hrn : rn ≤ 14) : okP (okp sk mo fx fb rn) da la 7 w = feas sk mo (nib fx) (bit fb) la da rn w := by
  have h := (okP_f (sk := sk) (mo := mo) (fx := fx) (fb := fb) (da := da) hw hla hrn 7 (Nat.le_refl _)).1
  rw [pre_7] at h
  rw [Bool.eq_iff_iff, h]
  show _ ↔ (okn _ _ _ _ _ _ _ 7 && decide (shc w 0 7 ≤ mo)) = true
  rw [Bool.and_eq_true, decide_eq_true_eq]
theorem okp_n {sk mo fx fb rn d p e : Nat} (hmo : mo ≤ 7) (hrn : rn ≤ 14) (hp : p < 480) (he : e < 4) (h : okp sk mo fx fb rn d p e = true) : nx p e < 480 := by
  have h2 : ((e == 0 || decide (p / 4 / 15 < mo)) && (may sk (nib fx) d e && alw (bit fb) rn (p % 4) (p / 4 % 15) e)) = true := h
  rw [Bool.and_eq_true, Bool.and_eq_true, Bool.or_eq_true, beq_iff_eq, decide_eq_true_eq] at h2
  exact nx_lt hp he h2.1 hmo h2.2.2 hrn
/-- how many of k numbers from a on hold -/
def cr (f : Nat → Bool) (a : Nat) : Nat → Nat
  | 0 => 0
  | k + 1 => cr f a k + (f (a + k)).toNat
theorem cr_0 (f : Nat → Bool) : ∀ k, cnw f k = cr f 0 k
  | 0 => rfl
  | k + 1 => by show cnw f k + (f k).toNat = cr f 0 k + (f (0 + k)).toNat; rw [cr_0 f k, Nat.zero_add]
theorem cr_a (f : Nat → Bool) (a k : Nat) : ∀ m, cr f a (k + m) = cr f a k + cr f (a + k) m
  | 0 => rfl
  | m + 1 => by
    show cr f a (k + m) + (f (a + (k + m))).toNat = cr f a k + (cr f (a + k) m + (f (a + k + m)).toNat)
    rw [cr_a f a k m, ← Nat.add_assoc a, Nat.add_assoc]
theorem cr_4 (f : Nat → Bool) (a m : Nat) : cr f a (4 * m) = sm (fun e => cr f (a + e * m) m) 4 := by
  have h1 := cr_a f a m m
  have h2 := cr_a f a (m + m) m
  have h3 := cr_a f a (m + m + m) m
  show _ = 0 + cr f (a + 0 * m) m + cr f (a + 1 * m) m + cr f (a + 2 * m) m + cr f (a + 3 * m) m
  rw [show 4 * m = m + m + m + m by omega, h3, h2, h1, Nat.zero_mul, Nat.one_mul, show 2 * m = m + m by omega, show 3 * m = m + m + m by omega, Nat.zero_add, Nat.add_zero]
theorem sm_ext {f g : Nat → Nat} : ∀ k, (∀ e, e < k → f e = g e) → sm f k = sm g k
  | 0, _ => rfl
  | k + 1, h => by show sm f k + f k = sm g k + g k; rw [sm_ext k (fun e q => h e (by omega)), h k (by omega)]
theorem cr_b {ok : Nat → Nat → Nat → Bool} {f : Nat → Bool} {da la : Nat} (h7 : ∀ w, w < 4 ^ 7 → okP ok da la 7 w = f w) : ∀ k d, d + k = 7 → ∀ u, u < 4 ^ d → cr f (u * 4 ^ k) (4 ^ k) = if okP ok da la d u = true then bk ok k d (plP da la d u) else 0 := by
  intro k
  induction k with
  | zero =>
    intro d hd u hu
    have e : d = 7 := hd
    subst e
    show 0 + (f (u * 4 ^ 0 + 0)).toNat = _
    rw [Nat.pow_zero, Nat.mul_one, Nat.add_zero, Nat.zero_add, ← h7 u hu]
    cases okP ok da la 7 u <;> rfl
  | succ k ih =>
    intro d hd u hu
    rw [Nat.pow_succ, Nat.mul_comm (4 ^ k) 4, cr_4]
    have key : ∀ e, e < 4 → cr f (u * (4 * 4 ^ k) + e * 4 ^ k) (4 ^ k) = if okP ok da la d u = true then (if ok d (plP da la d u) e = true then bk ok k (d + 1) (nx (plP da la d u) e) else 0) else 0 := by
      intro e he
      have e1 : u * (4 * 4 ^ k) + e * 4 ^ k = (4 * u + e) * 4 ^ k := by rw [Nat.add_mul, ← Nat.mul_assoc, Nat.mul_comm u 4]
      rw [e1, ih (d + 1) (by omega) (4 * u + e) (by rw [Nat.pow_succ]; omega)]
      show (if (okP ok da la d ((4 * u + e) / 4) && ok d (plP da la d ((4 * u + e) / 4)) ((4 * u + e) % 4)) = true then bk ok k (d + 1) (nx (plP da la d ((4 * u + e) / 4)) ((4 * u + e) % 4)) else 0) = _
      rw [show (4 * u + e) / 4 = u by omega, show (4 * u + e) % 4 = e by omega]
      cases okP ok da la d u <;> cases ok d (plP da la d u) e <;> rfl
    rw [sm_ext 4 key]
    cases okP ok da la d u <;> rfl
theorem dp_count {n bd fb rn : Nat} {nd sk mo wk fx wi la da we : Nat → Nat} (hwf : wfC n bd fb rn nd sk mo wk fx wi la da we) {i : Nat} (hi : i < n) : (thC (sk i) (mo i) (fx i) fb rn (da i) (la i)).toInt32 = nI (cnw (fe sk mo fx la da fb rn i) 16384) := by
  obtain ⟨_, _, _, hrn, _, hp⟩ := hwf
  have hpi := hp i
  have e1 : thC (sk i) (mo i) (fx i) fb rn (da i) (la i) = lN (bk (okp (sk i) (mo i) (fx i) fb rn) 7 0 (pl4 0 (min (da i) 14) (la i))) := by
    unfold thC
    rw [hid_eq, ct_jf]
    exact ctD (fun d _ p hp e he h => okp_n hpi.2.1 hrn hp he h) (pl4_lt (by omega)) 7 (Nat.le_refl _)
  rw [e1, lN_i]
  have e2 := cr_b (ok := okp (sk i) (mo i) (fx i) fb rn) (f := fe sk mo fx la da fb rn i) (da := da i) (la := la i) (fun w hw => okP_7 hw (by omega) hrn) 7 0 (by omega) 0 (by decide)
  rw [Nat.zero_mul, ← cr_0] at e2
  exact congrArg nI e2.symm
/-! the table's least prices -/
def MX : Int64 := 9223372036854775807
theorem lN_I {n : Nat} (h : n < 2 ^ 63) : (lN n).toInt = (n : Int) := lg_ofNat_toInt (by omega)
theorem lN_L {a b : Nat} (ha : a < 2 ^ 63) (hb : b < 2 ^ 63) : lN a < lN b ↔ a < b := by
  rw [Int64.lt_iff_toInt_lt, lN_I ha, lN_I hb]; omega
theorem mx_I : MX.toInt = 9223372036854775807 := by decide +kernel
theorem lN_X {a : Nat} (ha : a < 2 ^ 62) : lN a < MX := by
  rw [Int64.lt_iff_toInt_lt, lN_I (by omega), mx_I]; omega
theorem lN_Y {a : Nat} (ha : a < 2 ^ 62) : ¬ MX < lN a := by
  rw [Int64.lt_iff_toInt_lt, lN_I (by omega), mx_I]; omega
theorem lN_Z {a : Nat} (ha : a < 2 ^ 62) : lN a ≠ MX := by
  intro q
  have h := lN_X ha
  rw [q] at h
  exact Int64.lt_irrefl h
def mnI (a b : Int64) : Int64 := if b < a then b else a
/-- t is the least of T, or T is empty -/
def Lst (t : Int64) (T : Nat → Prop) : Prop := (t = MX ∧ ∀ x, ¬ T x) ∨ ∃ v, t = lN v ∧ T v ∧ ∀ x, T x → v ≤ x
theorem Lst.to {t : Int64} {T T' : Nat → Prop} (h : Lst t T) (e : ∀ x, T x ↔ T' x) : Lst t T' := by
  rw [show T' = T from funext fun x => propext (e x).symm]; exact h
theorem Lst.mn {t t' : Int64} {T T' : Nat → Prop} (h : Lst t T) (h' : Lst t' T') (hb : ∀ x, T x ∨ T' x → x < 2 ^ 62) : Lst (mnI t t') (fun x => T x ∨ T' x) := by
  unfold mnI
  rcases h with ⟨e, h⟩ | ⟨v, e, h1, h2⟩
  · rcases h' with ⟨e', h'⟩ | ⟨v', e', h1', h2'⟩
    · refine Or.inl ⟨by rw [e, e']; exact ite_self _, fun x q => q.elim (h x) (h' x)⟩
    · refine Or.inr ⟨v', by rw [e, e', if_pos (lN_X (hb _ (Or.inr h1')))], Or.inr h1', fun x q => q.elim (fun z => absurd z (h x)) (h2' x)⟩
  · have b1 := hb _ (Or.inl h1)
    rcases h' with ⟨e', h'⟩ | ⟨v', e', h1', h2'⟩
    · refine Or.inr ⟨v, by rw [e, e', if_neg (lN_Y b1)], Or.inl h1, fun x q => q.elim (h2 x) (fun z => absurd z (h' x))⟩
    · have b2 := hb _ (Or.inr h1')
      by_cases q : v' < v
      · refine Or.inr ⟨v', by rw [e, e', if_pos ((lN_L (by omega) (by omega)).mpr q)], Or.inr h1', fun x z => z.elim (fun z => by have := h2 x z; omega) (h2' x)⟩
      · refine Or.inr ⟨v, by rw [e, e', if_neg (fun z => q ((lN_L (by omega) (by omega)).mp z))], Or.inl h1, fun x z => z.elim (h2 x) (fun z => by have := h2' x z; omega)⟩
theorem Lst.up {v : Int64} {S : Nat → Prop} (h : Lst v S) (hv : v ≠ MX) (c : Nat) : Lst (v + lN c) (fun x => ∃ y, S y ∧ x = y + c) := by
  rcases h with ⟨e, _⟩ | ⟨w, e, h1, h2⟩
  · exact absurd e hv
  · refine Or.inr ⟨w + c, by rw [e, lN_add], ⟨w, h1, rfl⟩, ?_⟩
    rintro x ⟨y, hy, rfl⟩
    have := h2 y hy
    omega
theorem Lst.no {v : Int64} {S : Nat → Prop} (h : Lst v S) (hb : ∀ x, S x → x < 2 ^ 62) (hv : v = MX) : ∀ x, ¬ S x := by
  rcases h with ⟨_, h⟩ | ⟨w, e, h1, _⟩
  · exact h
  · exact absurd (e.symm.trans hv) (lN_Z (hb _ h1))
/-- the prices of the ways to a place -/
def Sx (ok : Nat → Nat → Nat → Bool) (c : Nat → Nat → Nat) (first : Nat) : Nat → Nat → Nat → Prop
  | 0 => fun p x => p = first ∧ x = 0
  | d + 1 => fun q x => ∃ p e y, p < 480 ∧ e < 4 ∧ ok d p e = true ∧ q = nx p e ∧ Sx ok c first d p y ∧ x = y + c d e
theorem Sx_b {ok : Nat → Nat → Nat → Bool} {c : Nat → Nat → Nat} {first : Nat} (hc : ∀ d e, c d e < 2 ^ 54) : ∀ d p x, Sx ok c first d p x → x ≤ d * 2 ^ 54
  | 0, _, _, h => by rw [h.2]; exact Nat.zero_le _
  | d + 1, q, x, ⟨p, e, y, _, _, _, _, h, hx⟩ => by
    have h1 := Sx_b hc d p y h
    have h2 := hc d e
    omega
theorem lsE {ok : Nat → Nat → Bool} {lg : Int64 → Nat → Int64} {c : Nat → Nat} {v : Int64} {S : Nat → Prop} {p : Nat} {N : Nat → Int64} {T : Nat → Nat → Prop} (hN : ∀ q, Lst (N q) (T q)) (hT : ∀ q x, T q x → x < 2 ^ 62) (hS : Lst v S) (hv : v ≠ MX) (hSb : ∀ x, S x → ∀ e, e < 4 → x + c e < 2 ^ 62) (hlg : ∀ e, e < 4 → lg v e = v + lN (c e)) : ∀ e, e ≤ 4 → ∀ q, Lst (goE ok lg mnI v p N e q) (fun x => T q x ∨ ∃ e' y, e' < e ∧ ok p e' = true ∧ q = nx p e' ∧ S y ∧ x = y + c e') := by
  intro e
  induction e with
  | zero =>
    intro _ q
    refine (hN q).to (fun x => ⟨Or.inl, fun z => z.elim id (fun ⟨e', _, h, _⟩ => absurd h (Nat.not_lt_zero _))⟩)
  | succ e ih =>
    intro h q
    have ih' := ih (by omega)
    by_cases k : ok p e = true
    · rw [goE_y k]
      by_cases z : q = nx p e
      · subst z
        rw [up_at, hlg e (by omega)]
        refine ((ih' (nx p e)).mn (hS.up hv (c e)) ?_).to (fun x => ?_)
        · rintro x ((h1 | ⟨e', y, h1, h2, h3, h4, h5⟩) | ⟨y, h1, h2⟩)
          · exact hT _ _ h1
          · rw [h5]; exact hSb y h4 e' (by omega)
          · rw [h2]; exact hSb y h1 e (by omega)
        · constructor
          · rintro ((h1 | ⟨e', y, h1, h2, h3, h4, h5⟩) | ⟨y, h1, h2⟩)
            · exact Or.inl h1
            · exact Or.inr ⟨e', y, by omega, h2, h3, h4, h5⟩
            · exact Or.inr ⟨e, y, by omega, k, rfl, h1, h2⟩
          · rintro (h1 | ⟨e', y, h1, h2, h3, h4, h5⟩)
            · exact Or.inl (Or.inl h1)
            · by_cases w : e' = e
              · exact Or.inr ⟨y, h4, by rw [h5, w]⟩
              · exact Or.inl (Or.inr ⟨e', y, by omega, h2, h3, h4, h5⟩)
      · rw [up_ne z]
        refine (ih' q).to (fun x => ⟨?_, ?_⟩)
        · rintro (h1 | ⟨e', y, h1, h2, h3, h4, h5⟩)
          · exact Or.inl h1
          · exact Or.inr ⟨e', y, by omega, h2, h3, h4, h5⟩
        · rintro (h1 | ⟨e', y, h1, h2, h3, h4, h5⟩)
          · exact Or.inl h1
          · by_cases w : e' = e
            · exact absurd (by rw [h3, w]) z
            · exact Or.inr ⟨e', y, by omega, h2, h3, h4, h5⟩
    · rw [goE_n (Bool.eq_false_iff.mpr k)]
      refine (ih' q).to (fun x => ⟨?_, ?_⟩)
      · rintro (h1 | ⟨e', y, h1, h2, h3, h4, h5⟩)
        · exact Or.inl h1
        · exact Or.inr ⟨e', y, by omega, h2, h3, h4, h5⟩
      · rintro (h1 | ⟨e', y, h1, h2, h3, h4, h5⟩)
        · exact Or.inl h1
        · by_cases w : e' = e
          · exact absurd (w ▸ h2) k
          · exact Or.inr ⟨e', y, by omega, h2, h3, h4, h5⟩
theorem lsP {ok : Nat → Nat → Bool} {lg : Int64 → Nat → Int64} {c : Nat → Nat} {V : Nat → Int64} {S : Nat → Nat → Prop} (hV : ∀ p, Lst (V p) (S p)) (hSb : ∀ p x, S p x → x < 2 ^ 61) (hc : ∀ e, c e < 2 ^ 54) (hlg : ∀ v e, e < 4 → lg v e = v + lN (c e)) : ∀ p, p ≤ 480 → ∀ q, Lst (goP ok lg mnI MX V p q) (fun x => ∃ p' e y, p' < p ∧ e < 4 ∧ ok p' e = true ∧ q = nx p' e ∧ S p' y ∧ x = y + c e) := by
  intro p
  induction p with
  | zero => intro _ q; exact Or.inl ⟨rfl, fun x ⟨p', e, y, h, _⟩ => absurd h (Nat.not_lt_zero _)⟩
  | succ p ih =>
    intro h q
    have ih' := ih (by omega)
    by_cases k : V p = MX
    · rw [goP_n k]
      have hno := (hV p).no (fun x z => by have := hSb p x z; omega) k
      refine (ih' q).to (fun x => ⟨?_, ?_⟩)
      · rintro ⟨p', e, y, h1, h2⟩
        exact ⟨p', e, y, by omega, h2⟩
      · rintro ⟨p', e, y, h1, h2, h3, h4, h5, h6⟩
        by_cases w : p' = p
        · exact absurd (w ▸ h5) (hno y)
        · exact ⟨p', e, y, by omega, h2, h3, h4, h5, h6⟩
    · rw [goP_y k]
      refine (lsE (c := c) (S := S p) ih' ?_ (hV p) k ?_ (hlg (V p)) 4 (Nat.le_refl _) q).to (fun x => ⟨?_, ?_⟩)
      · rintro q x ⟨p', e, y, h1, h2, h3, h4, h5, h6⟩
        have := hSb p' y h5; have := hc e; omega
      · intro x z e he
        have := hSb p x z; have := hc e; omega
      · rintro (⟨p', e, y, h1, h2⟩ | ⟨e', y, h1, h2, h3, h4, h5⟩)
        · exact ⟨p', e, y, by omega, h2⟩
        · exact ⟨p, e', y, by omega, h1, h2, h3, h4, h5⟩
      · rintro ⟨p', e, y, h1, h2, h3, h4, h5, h6⟩
        by_cases w : p' = p
        · exact Or.inr ⟨e, y, h2, w ▸ h3, w ▸ h4, w ▸ h5, h6⟩
        · exact Or.inl ⟨p', e, y, by omega, h2, h3, h4, h5, h6⟩
theorem lsD {ok : Nat → Nat → Nat → Bool} {lg : Nat → Int64 → Nat → Int64} {c : Nat → Nat → Nat} {first : Nat} (hc : ∀ d e, c d e < 2 ^ 54) (hlg : ∀ d, d < 7 → ∀ v e, e < 4 → lg d v e = v + lN (c d e)) : ∀ d, d ≤ 7 → ∀ q, Lst (dpV ok lg mnI MX 0 first d q) (Sx ok c first d q) := by
  intro d
  induction d with
  | zero =>
    intro _ q
    by_cases h : q = first
    · exact Or.inr ⟨0, if_pos h, ⟨h, rfl⟩, fun x _ => Nat.zero_le x⟩
    · exact Or.inl ⟨if_neg h, fun x z => h z.1⟩
  | succ d ih =>
    intro h q
    have e1 := lsP (ok := ok d) (lg := lg d) (c := c d) (V := dpV ok lg mnI MX 0 first d) (S := Sx ok c first d) (ih (by omega)) (fun p x z => by have := Sx_b hc d p x z; omega) (hc d) (hlg d (by omega)) 480 (Nat.le_refl _) q
    rw [dpV]
    exact e1
theorem lsJ {V : Nat → Int64} {S : Nat → Nat → Prop} (hV : ∀ p, Lst (V p) (S p)) (hSb : ∀ p x, S p x → x < 2 ^ 61) : ∀ k, Lst (jf mnI MX V k) (fun x => ∃ p, p < k ∧ S p x) := by
  intro k
  induction k with
  | zero => exact Or.inl ⟨rfl, fun x ⟨p, h, _⟩ => absurd h (Nat.not_lt_zero _)⟩
  | succ k ih =>
    refine (ih.mn (hV k) ?_).to (fun x => ⟨?_, ?_⟩)
    · rintro x (⟨p, _, h⟩ | h)
      · have := hSb p x h; omega
      · have := hSb k x h; omega
    · rintro (⟨p, h1, h⟩ | h)
      · exact ⟨p, by omega, h⟩
      · exact ⟨k, by omega, h⟩
    · rintro ⟨p, h1, h⟩
      by_cases w : p = k
      · exact Or.inr (w ▸ h)
      · exact Or.inl ⟨p, by omega, h⟩
/-- the price of the first days -/
def prU (c : Nat → Nat → Nat) : Nat → Nat → Nat
  | 0 => fun _ => 0
  | d + 1 => fun u => prU c d (u / 4) + c d (u % 4)
theorem Sx_u {ok : Nat → Nat → Nat → Bool} {c : Nat → Nat → Nat} {da la : Nat} : ∀ d p x, Sx ok c (pl4 0 (min da 14) la) d p x → ∃ u, u < 4 ^ d ∧ okP ok da la d u = true ∧ plP da la d u = p ∧ x = prU c d u
  | 0, _, _, h => ⟨0, by decide, rfl, h.1.symm, h.2⟩
  | d + 1, q, x, ⟨p, e, y, _, he, hk, hq, h, hx⟩ => by
    obtain ⟨u, h1, h2, h3, h4⟩ := Sx_u d p y h
    have a1 : (4 * u + e) / 4 = u := by omega
    have a2 : (4 * u + e) % 4 = e := by omega
    refine ⟨4 * u + e, by rw [Nat.pow_succ]; omega, ?_, ?_, ?_⟩
    · show (okP ok da la d ((4 * u + e) / 4) && ok d (plP da la d ((4 * u + e) / 4)) ((4 * u + e) % 4)) = true
      rw [a1, a2, h2, h3, hk]; rfl
    · show nx (plP da la d ((4 * u + e) / 4)) ((4 * u + e) % 4) = q
      rw [a1, a2, h3, hq]
    · show x = prU c d ((4 * u + e) / 4) + c d ((4 * u + e) % 4)
      rw [a1, a2, hx, h4]
theorem u_Sx {ok : Nat → Nat → Nat → Bool} {c : Nat → Nat → Nat} {da la : Nat} (hla : la < 4) (hn : ∀ d, d < 7 → ∀ p, p < 480 → ∀ e, e < 4 → ok d p e = true → nx p e < 480) : ∀ d, d ≤ 7 → ∀ u, okP ok da la d u = true → plP da la d u < 480 ∧ Sx ok c (pl4 0 (min da 14) la) d (plP da la d u) (prU c d u) := by
  intro d
  induction d with
  | zero => intro _ u _; exact ⟨pl4_lt hla, rfl, rfl⟩
  | succ d ih =>
    intro h u q
    have q2 : (okP ok da la d (u / 4) && ok d (plP da la d (u / 4)) (u % 4)) = true := q
    rw [Bool.and_eq_true] at q2
    obtain ⟨i1, i2⟩ := ih (by omega) _ q2.1
    exact ⟨hn d (by omega) _ i1 _ (Nat.mod_lt _ (by decide)) q2.2, plP da la d (u / 4), u % 4, prU c d (u / 4), i1, Nat.mod_lt _ (by decide), q2.2, rfl, i2, rfl⟩
theorem fl_bit {n : Nat} {nd wk : Nat → Nat} {w : Nat} (k : Nat) : ∀ m, (fl n nd wk w m).testBit k = true ↔ ∃ j, j < m ∧ 0 < gpw n nd wk w (j / 3) (j % 3 + 1) ∧ k = 4 * (j / 3) + (j % 3 + 1) := by
  intro m
  induction m with
  | zero => exact ⟨fun h => absurd ((Nat.zero_testBit k).symm.trans h) (by decide), fun ⟨j, h, _⟩ => absurd h (Nat.not_lt_zero _)⟩
  | succ m ih =>
    show (fl n nd wk w m ||| (if 0 < gpw n nd wk w (m / 3) (m % 3 + 1) then 1 * 2 ^ (4 * (m / 3) + (m % 3 + 1)) else 0)).testBit k = true ↔ _
    rw [Nat.testBit_or, Bool.or_eq_true, ih]
    constructor
    · rintro (⟨j, h1, h2⟩ | h)
      · exact ⟨j, by omega, h2⟩
      · split at h
        · next g =>
          rw [Nat.one_mul, Nat.testBit_two_pow, decide_eq_true_eq] at h
          exact ⟨m, by omega, g, h.symm⟩
        · exact absurd ((Nat.zero_testBit k).symm.trans h) (by decide)
    · rintro ⟨j, h1, h2, h3⟩
      by_cases e : j = m
      · subst e
        rw [if_pos h2, Nat.one_mul, Nat.testBit_two_pow, decide_eq_true_eq]
        exact Or.inr h3.symm
      · exact Or.inl ⟨j, by omega, h2, h3⟩
theorem fl_fif {n : Nat} {nd wk : Nat → Nat} {w d e : Nat} (hd : d < 7) (h0 : 0 < e) (he : e < 4) : bit (fl n nd wk w 21) (4 * d + e) = 1 ↔ 0 < gpw n nd wk w d e := by
  have h := bit_tb (fl n nd wk w 21) (4 * d + e)
  have h2 := fl_bit (n := n) (nd := nd) (wk := wk) (w := w) (4 * d + e) 21
  rw [h, decide_eq_true_eq] at h2
  rw [h2]
  constructor
  · rintro ⟨j, h1, h3, h4⟩
    rw [show j / 3 = d by omega, show j % 3 + 1 = e by omega] at h3
    exact h3
  · intro q
    refine ⟨3 * d + (e - 1), by omega, ?_, by omega⟩
    rw [show (3 * d + (e - 1)) / 3 = d by omega, show (3 * d + (e - 1)) % 3 + 1 = e by omega]
    exact q
theorem wset_0 {d e : Nat} : wset 0 d e = e * 2 ^ (2 * (6 - d)) := by
  show 0 - ent 0 d * _ + e * _ = _
  rw [ent_0, Nat.zero_mul, Nat.zero_add]
theorem prU_f {n : Nat} {nd wk : Nat → Nat} {i we wi w : Nat} : ∀ d, d ≤ 7 → w < 16384 → prU (fun d e => priN we wi d e (fif n nd wk i d e)) d (pre w d) = pre w d * 2 ^ (2 * (7 - d)) + K52 * (d - fc (fl n nd wk i 21) w d) + K49 * shc w 0 d + K17 * we * shc w 5 (d - 5) + K14 * brc wi w d := by
  intro d
  induction d with
  | zero => intro _ hw; rw [pre_0 hw]; show 0 = 0 * _ + K52 * 0 + K49 * 0 + K17 * we * 0 + K14 * 0; rw [Nat.zero_mul, Nat.mul_zero, Nat.mul_zero, Nat.mul_zero, Nat.mul_zero]
  | succ d ih =>
    intro h hw
    have hx := ent_lt w d
    have hf := fc_le (fl n nd wk i 21) w d
    rw [pre_s (by omega)]
    show prU _ d ((4 * pre w d + ent w d) / 4) + priN we wi d ((4 * pre w d + ent w d) % 4) (fif n nd wk i d ((4 * pre w d + ent w d) % 4)) = _
    rw [show (4 * pre w d + ent w d) / 4 = pre w d by omega, show (4 * pre w d + ent w d) % 4 = ent w d by omega, ih (by omega) hw]
    unfold priN
    have e1 : (4 * pre w d + ent w d) * 2 ^ (2 * (7 - (d + 1))) = pre w d * 2 ^ (2 * (7 - d)) + wset 0 d (ent w d) := by
      rw [wset_0, show 7 - (d + 1) = 6 - d by omega, show 2 * (7 - d) = 2 * (6 - d) + 2 by omega, Nat.pow_add, Nat.add_mul, Nat.mul_comm 4, Nat.mul_assoc (pre w d), Nat.mul_comm 4]
    rw [e1]
    have e2 : K52 * (d - fc (fl n nd wk i 21) w d) + (if fif n nd wk i d (ent w d) = true then 0 else K52) = K52 * (d + 1 - fc (fl n nd wk i 21) w (d + 1)) := by
      by_cases z : ent w d ≠ 0 ∧ 0 < gpw n nd wk i d (ent w d)
      · rw [if_pos (by show (ent w d != 0 && decide (0 < gpw n nd wk i d (ent w d))) = true; rw [decide_eq_true z.2, Bool.and_true]; exact bne_iff_ne.mpr z.1), fc_1 (by omega) ((fl_fif (by omega) (by omega) hx).mpr z.2), Nat.add_sub_add_right]; rfl
      · rw [if_neg (by
            show ¬ (ent w d != 0 && decide (0 < gpw n nd wk i d (ent w d))) = true
            rw [Bool.and_eq_true, decide_eq_true_eq, bne_iff_ne]; exact z), fc_0 (by
            by_cases y : ent w d = 0
            · exact Or.inl y
            · exact Or.inr (fun q => z ⟨y, (fl_fif (by omega) (by omega) hx).mp q⟩)), show d + 1 - fc (fl n nd wk i 21) w d = (d - fc (fl n nd wk i 21) w d) + 1 by omega, Nat.mul_succ]
    have e3 : K49 * shc w 0 d + (if ent w d = 0 then 0 else K49) = K49 * shc w 0 (d + 1) := by
      by_cases z : ent w d = 0
      · rw [if_pos z, shc_0 z]; rfl
      · rw [if_neg z, shc_1 (by omega), Nat.mul_succ]
    have e4 : K17 * we * shc w 5 (d - 5) + (if ent w d = 0 then 0 else if d < 5 then 0 else K17 * we) = K17 * we * shc w 5 (d + 1 - 5) := by
      by_cases y : d < 5
      · rw [show d + 1 - 5 = d - 5 by omega, if_pos y, ite_self]; rfl
      · by_cases z : ent w d = 0
        · rw [if_pos z, shc_s0 (by omega) z]; rfl
        · rw [if_neg z, if_neg y, shc_s1 (by omega) z, Nat.mul_succ]
    have e5 : K14 * brc wi w d + (if brk wi d (ent w d) = true then K14 else 0) = K14 * brc wi w (d + 1) := by
      by_cases z : brk wi d (ent w d) = true
      · rw [if_pos z, brc_1 z, Nat.mul_succ]
      · rw [if_neg z, brc_0 (Bool.eq_false_iff.mpr z)]; rfl
    rw [← e2, ← e3, ← e4, ← e5]
    omega
theorem cst_p {pr : Nat → Nat} {fs : Nat → Bool} : ∀ k, ((∀ w, w < k → fs w = false) ∧ cst pr fs k = (0, 0)) ∨ ((cst pr fs k).1 < k ∧ fs (cst pr fs k).1 = true ∧ (cst pr fs k).2 = pr (cst pr fs k).1 + 1 ∧ ∀ w, w < k → fs w = true → pr (cst pr fs k).1 < pr w ∨ (pr (cst pr fs k).1 = pr w ∧ (cst pr fs k).1 ≤ w)) := by
  intro k
  induction k with
  | zero => exact Or.inl ⟨fun w h => absurd h (Nat.not_lt_zero _), rfl⟩
  | succ k ih =>
    by_cases hf : fs k = true
    · rcases ih with ⟨h1, h2⟩ | ⟨h1, h2, h3, h4⟩
      · refine Or.inr ?_
        rw [cst_y hf (Or.inl (by rw [h2]))]
        refine ⟨by omega, hf, rfl, fun w hw hfw => ?_⟩
        by_cases e : w = k
        · exact Or.inr ⟨by rw [e], by show k ≤ w; omega⟩
        · exact absurd hfw (by rw [h1 w (by omega)]; decide)
      · refine Or.inr ?_
        by_cases c : pr k + 1 < (cst pr fs k).2
        · rw [cst_y hf (Or.inr c)]
          refine ⟨by omega, hf, rfl, fun w hw hfw => ?_⟩
          by_cases e : w = k
          · exact Or.inr ⟨by rw [e], by show k ≤ w; omega⟩
          · have := h4 w (by omega) hfw
            show pr k < pr w ∨ _
            omega
        · rw [cst_n (Or.inr ⟨by omega, by omega⟩)]
          refine ⟨by omega, h2, h3, fun w hw hfw => ?_⟩
          by_cases e : w = k
          · subst e; omega
          · exact h4 w (by omega) hfw
    · have hf' := Bool.eq_false_iff.mpr hf
      rw [cst_n (Or.inl hf')]
      rcases ih with ⟨h1, h2⟩ | ⟨h1, h2, h3, h4⟩
      · refine Or.inl ⟨fun w hw => ?_, h2⟩
        by_cases e : w = k
        · rw [e]; exact hf'
        · exact h1 w (by omega)
      · refine Or.inr ⟨by omega, h2, h3, fun w hw hfw => ?_⟩
        by_cases e : w = k
        · exact absurd (e ▸ hfw) hf
        · exact h4 w (by omega) hfw
/-- both prices order the weeks alike -/
theorem pr_ord {o s t b w o' s' t' b' w' : Nat} (h1 : s ≤ 7) (h2 : t ≤ 16384) (h3 : b ≤ 7) (h4 : w < 16384) (h1' : s' ≤ 7) (h2' : t' ≤ 16384) (h3' : b' ≤ 7) (h4' : w' < 16384)
    (ha : w + 4503599627370496 * o + 562949953421312 * s + 131072 * t + 16384 * b ≤ w' + 4503599627370496 * o' + 562949953421312 * s' + 131072 * t' + 16384 * b')
    (hb : ((o' * 8 + s') * 100000 + t') * 8 + b' < ((o * 8 + s) * 100000 + t) * 8 + b ∨ (((o' * 8 + s') * 100000 + t') * 8 + b' = ((o * 8 + s) * 100000 + t) * 8 + b ∧ w' ≤ w)) : w = w' := by
  omega
theorem lN_and {v : Nat} : lN v &&& 16383 = lN (v % 16384) := by
  rw [← Nat.and_two_pow_sub_one_eq_mod v 14]
  apply Int64.toBitVec_inj.mp
  exact (BitVec.ofNat_and (x := v) (y := 16383) (w := 64)).symm
theorem priN_lt {we wi d e : Nat} {b : Bool} (hw : we ≤ 8192) (hd : d < 7) (he : e < 4) : priN we wi d e b < 2 ^ 54 := by
  have h1 := wset_lt (w := 0) (by decide) hd he
  have a1 : (if b = true then 0 else K52) ≤ K52 := by split <;> omega
  have a2 : (if e = 0 then 0 else K49) ≤ K49 := by split <;> omega
  have a3 : (if e = 0 then 0 else if d < 5 then 0 else K17 * we) ≤ K17 * we := by split; omega; split <;> omega
  have a4 : (if brk wi d e = true then K14 else 0) ≤ K14 := by split <;> omega
  have a5 : K17 * we ≤ K17 * 8192 := Nat.mul_le_mul_left _ hw
  unfold priN
  have b1 : K52 = 4503599627370496 := rfl
  have b2 : K49 = 562949953421312 := rfl
  have b3 : K17 = 131072 := rfl
  have b4 : K14 = 16384 := rfl
  omega
theorem dp_price {n bd fb rn : Nat} {nd sk mo wk fx wi la da we : Nat → Nat} (hwf : wfC n bd fb rn nd sk mo wk fx wi la da we) {i : Nat} (hi : i < n) {PR : Nat → Int64} (h : ∀ j, j < 28 → PR j = pT (we i) (wi i) (fif n nd wk i) j) : wkI (thP (sk i) (mo i) (fx i) fb rn (da i) (la i) PR) = nI (cho n fb rn nd sk mo fx wi la da we wk i) := by
  obtain ⟨_, hbd, _, hrn, _, hp⟩ := hwf
  have hpi := hp i
  have hwe : we i ≤ 8192 := by omega
  let c : Nat → Nat → Nat := fun d e => if d < 7 ∧ e < 4 then priN (we i) (wi i) d e (fif n nd wk i d e) else 0
  have hc : ∀ d e, c d e < 2 ^ 54 := by
    intro d e
    show (if d < 7 ∧ e < 4 then _ else 0) < _
    split
    · next q => exact priN_lt hwe q.1 q.2
    · decide
  have hlg : ∀ d, d < 7 → ∀ (v : Int64) e, e < 4 → v + PR (d * 4 + e) = v + lN (c d e) := by
    intro d hd v e he
    rw [h _ (by omega)]
    show v + lN (priN (we i) (wi i) ((d * 4 + e) / 4) ((d * 4 + e) % 4) (fif n nd wk i ((d * 4 + e) / 4) ((d * 4 + e) % 4))) = v + lN (if d < 7 ∧ e < 4 then _ else 0)
    rw [show (d * 4 + e) / 4 = d by omega, show (d * 4 + e) % 4 = e by omega, if_pos ⟨hd, he⟩]
  have hc2 : ∀ d u, d ≤ 7 → prU c d u = prU (fun d e => priN (we i) (wi i) d e (fif n nd wk i d e)) d u := by
    intro d
    induction d with
    | zero => intro _ _; rfl
    | succ d ih =>
      intro u hd
      show prU c d (u / 4) + (if d < 7 ∧ u % 4 < 4 then _ else 0) = prU _ d (u / 4) + _
      rw [ih _ (by omega), if_pos ⟨by omega, Nat.mod_lt _ (by decide)⟩]
  have hnn : ∀ d, d < 7 → ∀ p, p < 480 → ∀ e, e < 4 → okp (sk i) (mo i) (fx i) fb rn d p e = true → nx p e < 480 := fun d _ p hp e he h => okp_n hpi.2.1 hrn hp he h
  have hD := lsD (ok := okp (sk i) (mo i) (fx i) fb rn) (lg := fun d v e => v + PR (d * 4 + e)) (first := pl4 0 (min (da i) 14) (la i)) hc hlg 7 (Nat.le_refl _)
  have hJ := lsJ hD (fun p x z => by have := Sx_b hc 7 p x z; omega) 480
  have hth : thP (sk i) (mo i) (fx i) fb rn (da i) (la i) PR = jf mnI MX (dpV (okp (sk i) (mo i) (fx i) fb rn) (fun d v e => v + PR (d * 4 + e)) mnI MX 0 (pl4 0 (min (da i) 14) (la i)) 7) 480 := by
    unfold thP
    rw [hid_eq]; rfl
  rw [← hth] at hJ
  have hset : ∀ x, (∃ p, p < 480 ∧ Sx (okp (sk i) (mo i) (fx i) fb rn) c (pl4 0 (min (da i) 14) (la i)) 7 p x) ↔ ∃ w, w < 16384 ∧ fe sk mo fx la da fb rn i w = true ∧ x = prU c 7 w := by
    intro x
    constructor
    · rintro ⟨p, _, z⟩
      obtain ⟨u, h1, h2, _, h4⟩ := Sx_u 7 p x z
      exact ⟨u, h1, (okP_7 h1 (by omega) hrn).symm.trans h2, h4⟩
    · rintro ⟨w, h1, h2, h3⟩
      have q := u_Sx (c := c) (da := da i) (la := la i) (by omega) hnn 7 (Nat.le_refl _) w (by rw [okP_7 h1 (by omega) hrn]; exact h2)
      exact ⟨_, q.1, h3 ▸ q.2⟩
  have hJ2 := hJ.to hset
  have hpr : ∀ w, w < 16384 → prU c 7 w = w + 4503599627370496 * (7 - fc (fl n nd wk i 21) w 7) + 562949953421312 * shc w 0 7 + 131072 * (shc w 5 2 * we i) + 16384 * brc (wi i) w 7 := by
    intro w hw
    have e := prU_f (n := n) (nd := nd) (wk := wk) (i := i) (we := we i) (wi := wi i) 7 (Nat.le_refl _) hw
    rw [pre_7] at e
    rw [hc2 7 w (Nat.le_refl _), e, Nat.mul_comm (shc w 5 2), ← Nat.mul_assoc]
    show w * 1 + _ + _ + _ + _ = _
    rw [Nat.mul_one]; rfl
  unfold cho
  rw [hid_eq]
  have hcs := cst_p (pr := fun w => prM (we i) (wi i) (fl n nd wk i 21) w) (fs := fe sk mo fx la da fb rn i) 16384
  generalize cst (fun w => prM (we i) (wi i) (fl n nd wk i 21) w) (fe sk mo fx la da fb rn i) 16384 = z at hcs ⊢
  rcases hJ2 with ⟨e, hno⟩ | ⟨v, e, ⟨w, hw, hfw, hv⟩, hmin⟩
  · rcases hcs with ⟨_, q⟩ | ⟨q1, q2, _⟩
    · rw [e, q]; rfl
    · exact absurd ⟨_, q1, q2, rfl⟩ (hno _)
  · rcases hcs with ⟨q, _⟩ | ⟨q1, q2, _, q4⟩
    · exact absurd hfw (by rw [q w hw]; decide)
    · have hm := hmin _ ⟨z.1, q1, q2, rfl⟩
      have ho := q4 w hw hfw
      rw [hv, hpr w hw, hpr _ q1] at hm
      have t1 : shc w 5 2 * we i ≤ 2 * 8192 := Nat.mul_le_mul (shc_le _ _ _) hwe
      have t2 : shc z.1 5 2 * we i ≤ 2 * 8192 := Nat.mul_le_mul (shc_le _ _ _) hwe
      have hww : w = z.1 := pr_ord (shc_le w 0 7) t1 (brc_le (wi i) w 7) hw (shc_le z.1 0 7) t2 (brc_le (wi i) z.1 7) q1 hm ho
      have hvb : v < 2 ^ 62 := by
        have f1 := fc_le (fl n nd wk i 21) w 7
        have f2 := shc_le w 0 7
        have f3 := brc_le (wi i) w 7
        rw [hv, hpr w hw]; omega
      rw [e]
      show (if lN v = MX then 0 else (lN v &&& 16383).toInt32) = _
      rw [if_neg (lN_Z hvb), lN_and, lN_i, ← hww]
      have : v % 16384 = w := by rw [hv, hpr w hw]; omega
      rw [this]
