/-! the law's numbers as a tuple, and what they keep to -/
abbrev SG : Type := Nat × Nat × Nat × Nat × Nat × Nat × Nat × (Nat → Nat) × (Nat → Nat) × (Nat → Nat) × (Nat → Nat) × (Nat → Nat) × (Nat → Nat) × (Nat → Nat) × (Nat → Nat) × (Nat → Nat) × (Nat → Nat) × (Nat → Int64) × (Nat → Int64) × (Nat → Int64) × (Nat → Int32) × (Nat → Int32)
abbrev SG.n (x : SG) : Nat := x.1
abbrev SG.ro (x : SG) : Nat := x.2.1
abbrev SG.cl (x : SG) : Nat := x.2.2.1
abbrev SG.fb (x : SG) : Nat := x.2.2.2.1
abbrev SG.rn (x : SG) : Nat := x.2.2.2.2.1
abbrev SG.a6 (x : SG) : Nat := x.2.2.2.2.2.1
abbrev SG.a7 (x : SG) : Nat := x.2.2.2.2.2.2.1
abbrev SG.nd (x : SG) : Nat → Nat := x.2.2.2.2.2.2.2.1
abbrev SG.sk (x : SG) : Nat → Nat := x.2.2.2.2.2.2.2.2.1
abbrev SG.mo (x : SG) : Nat → Nat := x.2.2.2.2.2.2.2.2.2.1
abbrev SG.wk (x : SG) : Nat → Nat := x.2.2.2.2.2.2.2.2.2.2.1
abbrev SG.fx (x : SG) : Nat → Nat := x.2.2.2.2.2.2.2.2.2.2.2.1
abbrev SG.wi (x : SG) : Nat → Nat := x.2.2.2.2.2.2.2.2.2.2.2.2.1
abbrev SG.la (x : SG) : Nat → Nat := x.2.2.2.2.2.2.2.2.2.2.2.2.2.1
abbrev SG.da (x : SG) : Nat → Nat := x.2.2.2.2.2.2.2.2.2.2.2.2.2.2.1
abbrev SG.we (x : SG) : Nat → Nat := x.2.2.2.2.2.2.2.2.2.2.2.2.2.2.2.1
abbrev SG.pa (x : SG) : Nat → Nat := x.2.2.2.2.2.2.2.2.2.2.2.2.2.2.2.2.1
abbrev SG.V (x : SG) : Nat → Int64 := x.2.2.2.2.2.2.2.2.2.2.2.2.2.2.2.2.2.1
abbrev SG.V2 (x : SG) : Nat → Int64 := x.2.2.2.2.2.2.2.2.2.2.2.2.2.2.2.2.2.2.1
abbrev SG.PR (x : SG) : Nat → Int64 := x.2.2.2.2.2.2.2.2.2.2.2.2.2.2.2.2.2.2.2.1
abbrev SG.Wv (x : SG) : Nat → Int32 := x.2.2.2.2.2.2.2.2.2.2.2.2.2.2.2.2.2.2.2.2.1
abbrev SG.Bv (x : SG) : Nat → Int32 := x.2.2.2.2.2.2.2.2.2.2.2.2.2.2.2.2.2.2.2.2.2
abbrev sg_mk (n : Nat) (ro : Nat) (cl : Nat) (fb : Nat) (rn : Nat) (a6 : Nat) (a7 : Nat) (nd : Nat → Nat) (sk : Nat → Nat) (mo : Nat → Nat) (wk : Nat → Nat) (fx : Nat → Nat) (wi : Nat → Nat) (la : Nat → Nat) (da : Nat → Nat) (we : Nat → Nat) (pa : Nat → Nat) (V : Nat → Int64) (V2 : Nat → Int64) (PR : Nat → Int64) (Wv : Nat → Int32) (Bv : Nat → Int32) : SG := (n, ro, cl, fb, rn, a6, a7, nd, sk, mo, wk, fx, wi, la, da, we, pa, V, V2, PR, Wv, Bv)
abbrev SG.w (x : SG) (cT : ClassId × ClassId × ClassId) (z c : Nat → Nat) : va_W := lX cT z x.n x.ro x.cl x.fb x.rn x.nd x.sk x.mo x.wk x.fx x.wi x.la x.da x.we x.Wv x.Bv ++ (cX cT c x.a6 x.a7 x.n x.ro x.cl x.fb x.rn x.nd x.V x.V2 x.PR x.pa ++ pool x.n x.pa (per x.sk x.mo x.wk x.fx x.wi x.la x.da x.we))
def okN (k n ro fb rn : Nat) (nd sk mo wk fx wi la da we : Nat → Nat) : Prop := wfC n k fb rn nd sk mo wk fx wi la da we ∧ (∀ j, j < 4 → bit fb j = 0) ∧ ro ≤ 10 ∧ ∀ j, n ≤ j → wk j = 0 ∧ wi j = 0 ∧ la j = 0 ∧ da j = 0 ∧ we j = 0 ∧ fx j = 0
def SG.ok (x : SG) (k : Nat) : Prop := okN k x.n x.ro x.fb x.rn x.nd x.sk x.mo x.wk x.fx x.wi x.la x.da x.we
section OKS
variable {k n ro fb rn : Nat} {nd sk mo wk fx wi la da we : Nat → Nat}
theorem wf_bd (h : wfC n k fb rn nd sk mo wk fx wi la da we) (hk : k < 1000) : wfC n (k + 1) fb rn nd sk mo wk fx wi la da we := by
  obtain ⟨h1, h2, h3, h4, h5, h6⟩ := h
  refine ⟨h1, by omega, h3, h4, h5, fun j => ?_⟩
  have q := h6 j
  exact ⟨q.1, q.2.1, q.2.2.1, q.2.2.2.1, q.2.2.2.2.1, q.2.2.2.2.2.1, by omega, by omega⟩
theorem on_id (h : okN k n ro fb rn nd sk mo wk fx wi la da we) (hk : k < 1000) : okN (k + 1) n ro fb rn nd sk mo wk fx wi la da we := ⟨wf_bd h.1 hk, h.2⟩
theorem on_nd {j v : Nat} (h : okN k n ro fb rn nd sk mo wk fx wi la da we) (hk : k < 1000) (hv : v < 6) : okN (k + 1) n ro fb rn (va_up nd j v) sk mo wk fx wi la da we := by
  obtain ⟨⟨h1, h2, h3, h4, h5, h6⟩, hz, ho, hc⟩ := on_id h hk
  exact ⟨⟨h1, h2, h3, h4, up_all (P := fun z => z ≤ 5) h5 (by omega), h6⟩, hz, ho, hc⟩
theorem on_fb {e f b : Nat} (h : okN k n ro fb rn nd sk mo wk fx wi la da we) (hk : k < 1000) (hb : b < 2) (he : 1 ≤ e ∧ e < 4) (hf : 1 ≤ f ∧ f < 4) : okN (k + 1) n ro (bset fb (4 * e + f) b) rn nd sk mo wk fx wi la da we := by
  obtain ⟨⟨h1, h2, h3, h4, h5, h6⟩, hz, ho, hc⟩ := on_id h hk
  exact ⟨⟨h1, h2, bs_lt (n := 16) hb h3 (by omega), h4, h5, h6⟩, fun j hj => by rw [bs_get2 hb (by omega)]; exact hz j hj, ho, hc⟩
theorem on_rn {v : Nat} (h : okN k n ro fb rn nd sk mo wk fx wi la da we) (hk : k < 1000) (hv : v < 15) : okN (k + 1) n ro fb v nd sk mo wk fx wi la da we := by
  obtain ⟨⟨h1, h2, h3, h4, h5, h6⟩, hz, ho, hc⟩ := on_id h hk
  exact ⟨⟨h1, h2, h3, by omega, h5, h6⟩, hz, ho, hc⟩
theorem on_wi {i d b : Nat} (h : okN k n ro fb rn nd sk mo wk fx wi la da we) (hk : k < 1000) (hi : i < n) (hd : d < 7) (hb : b < 2) : okN (k + 1) n ro fb rn nd sk mo wk fx (va_up wi i (bset (wi i) d b)) la da we := by
  obtain ⟨⟨h1, h2, h3, h4, h5, h6⟩, hz, ho, hc⟩ := on_id h hk
  refine ⟨⟨h1, h2, h3, h4, h5, fun j => ?_⟩, hz, ho, fun j hj => ?_⟩
  · have q := h6 j
    exact ⟨q.1, q.2.1, q.2.2.1, q.2.2.2.1, up_all (P := fun z => z < 128) (fun j => (h6 j).2.2.2.2.1) (bs_lt (n := 7) hb (h6 i).2.2.2.2.1 (by omega)) j, q.2.2.2.2.2⟩
  · have q := hc j hj
    exact ⟨q.1, by rw [vu_n (by omega)]; exact q.2.1, q.2.2⟩
theorem on_fx {i d v : Nat} (h : okN k n ro fb rn nd sk mo wk fx wi la da we) (hk : k < 1000) (hi : i < n) (hd : d < 7) (hv : v < 5) : okN (k + 1) n ro fb rn nd sk mo wk (va_up fx i (nset (fx i) d v)) wi la da we := by
  obtain ⟨⟨h1, h2, h3, h4, h5, h6⟩, hz, ho, hc⟩ := on_id h hk
  refine ⟨⟨h1, h2, h3, h4, h5, fun j => ?_⟩, hz, ho, fun j hj => ?_⟩
  · have q := h6 j
    exact ⟨q.1, q.2.1, q.2.2.1, up_all (P := fun z => z < 2 ^ 28) (fun j => (h6 j).2.2.2.1) (ns_lt (by omega) (h6 i).2.2.2.1 hd) j, q.2.2.2.2⟩
  · have q := hc j hj
    exact ⟨q.1, q.2.1, q.2.2.1, q.2.2.2.1, q.2.2.2.2.1, by rw [vu_n (by omega)]; exact q.2.2.2.2.2⟩
theorem on_wk {w : Nat → Nat} {r : Nat} (h : okN k n ro fb rn nd sk mo wk fx wi la da we) (hk : k < 1000) (hw : ∀ j, w j < 16384) (h0 : ∀ j, n ≤ j → w j = 0) (hr : r ≤ 10) : okN (k + 1) n r fb rn nd sk mo w fx wi la da we := by
  obtain ⟨h1, hz, ho, hc⟩ := on_id h hk
  exact ⟨wf_fun h1 hw, hz, hr, fun j hj => ⟨h0 j hj, (hc j hj).2⟩⟩
theorem on_cl (h : okN k n ro fb rn nd sk mo wk fx wi la da we) (hk : k < 1000) : okN (k + 1) n ro fb rn nd sk mo (upn wk (fun _ => 0) n) (upn fx (fun _ => 0) n) (upn wi (fun _ => 0) n) (upn la (clL wk) n) (upn da (clG wk da) n) (upn we (clE wk we) n) := by
  obtain ⟨h1, hz, ho, hc⟩ := h
  refine ⟨wf_close h1 (by omega) n n, hz, ho, fun j hj => ?_⟩
  have q := hc j hj
  have e : ∀ f g : Nat → Nat, upn f g n j = f j := fun f g => if_neg (by omega)
  exact ⟨(e _ _).trans q.1, (e _ _).trans q.2.1, (e _ _).trans q.2.2.1, (e _ _).trans q.2.2.2.1, (e _ _).trans q.2.2.2.2.1, (e _ _).trans q.2.2.2.2.2⟩
theorem on_add {v m : Nat} (h : okN k n ro fb rn nd sk mo wk fx wi la da we) (hk : k < 1000) (hn : n < 8) (hv : v ≤ 14) (hm : m ≤ 7) : okN (k + 1) (n + 1) ro fb rn nd (va_up sk n v) (va_up mo n m) wk fx wi la da we := by
  obtain ⟨⟨h1, h2, h3, h4, h5, h6⟩, hz, ho, hc⟩ := on_id h hk
  refine ⟨⟨hn, h2, h3, h4, h5, fun j => ?_⟩, hz, ho, fun j hj => hc j (Nat.le_of_succ_le hj)⟩
  have q := h6 j
  exact ⟨up_all (P := fun z => z < 16) (fun j => (h6 j).1) (by omega) j, up_all (P := fun z => z ≤ 7) (fun j => (h6 j).2.1) hm j, q.2.2⟩
end OKS
theorem rst_out {C : (Nat → Nat) → Nat → Nat} {wk : Nat → Nat} : ∀ p k, p ≤ k → (rst C wk p).1 k = wk k := by
  intro p
  induction p with
  | zero => intro k _; rfl
  | succ p ih =>
    intro k hk
    show va_up (rst C wk p).1 p (C (rst C wk p).1 p) k = wk k
    rw [vu_n (by omega)]; exact ih k (by omega)
theorem pls_out {C : (Nat → Nat) → Nat → Nat} {n : Nat} : ∀ r k, n ≤ k → (pls C n (fun _ => 0) r).1 k = 0 := by
  intro r
  induction r with
  | zero => intro k _; rfl
  | succ r ih =>
    intro k hk
    show (rst C _ n).1 k = 0
    rw [rst_out n k hk]; exact ih k hk
