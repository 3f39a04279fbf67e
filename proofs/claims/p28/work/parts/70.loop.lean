/-! the law's numbers as a tuple, and what they keep to -/
abbrev SG : Type := Nat × Nat × Nat × Nat × Nat × Nat × Nat × (Nat → Nat) × (Nat → Nat) × (Nat → Nat) × (Nat → Nat) × (Nat → Nat) × (Nat → Nat) × (Nat → Nat) × (Nat → Nat) × (Nat → Nat) × (Nat → Nat) × (Nat → Int64) × (Nat → Int64) × (Nat → Int64) × (Nat → Int32) × (Nat → Int32)
abbrev SG.n (x : SG) : Nat := x.1
abbrev SG.ro (x : SG) : Nat := x.2.1
abbrev SG.cl (x : SG) : Nat := x.2.2.1
abbrev SG.fb (x : SG) : Nat := x.2.2.2.1
abbrev SG.rn (x : SG) : Nat := x.2.2.2.2.1
abbrev SG.a6 (x : SG) : Nat := x.2.2.2.2.2.1
abbrev SG.a7 (x : SG) : Nat := x.2.2.2.2.2.2.1
abbrev SG.nd (x : SG) : Nat → Nat := x.2.2.2.2.2.2.2.1
abbrev SG.sk (x : SG) : Nat → Nat := x.2.2.2.2.2.2.2.2.1
abbrev SG.mo (x : SG) : Nat → Nat := x.2.2.2.2.2.2.2.2.2.1
abbrev SG.wk (x : SG) : Nat → Nat := x.2.2.2.2.2.2.2.2.2.2.1
abbrev SG.fx (x : SG) : Nat → Nat := x.2.2.2.2.2.2.2.2.2.2.2.1
abbrev SG.wi (x : SG) : Nat → Nat := x.2.2.2.2.2.2.2.2.2.2.2.2.1
abbrev SG.la (x : SG) : Nat → Nat := x.2.2.2.2.2.2.2.2.2.2.2.2.2.1
abbrev SG.da (x : SG) : Nat → Nat := x.2.2.2.2.2.2.2.2.2.2.2.2.2.2.1
abbrev SG.we (x : SG) : Nat → Nat := x.2.2.2.2.2.2.2.2.2.2.2.2.2.2.2.1
abbrev SG.pa (x : SG) : Nat → Nat := x.2.2.2.2.2.2.2.2.2.2.2.2.2.2.2.2.1
abbrev SG.V (x : SG) : Nat → Int64 := x.2.2.2.2.2.2.2.2.2.2.2.2.2.2.2.2.2.1
abbrev SG.V2 (x : SG) : Nat → Int64 := x.2.2.2.2.2.2.2.2.2.2.2.2.2.2.2.2.2.2.1
abbrev SG.PR (x : SG) : Nat → Int64 := x.2.2.2.2.2.2.2.2.2.2.2.2.2.2.2.2.2.2.2.1
abbrev SG.Wv (x : SG) : Nat → Int32 := x.2.2.2.2.2.2.2.2.2.2.2.2.2.2.2.2.2.2.2.2.1
abbrev SG.Bv (x : SG) : Nat → Int32 := x.2.2.2.2.2.2.2.2.2.2.2.2.2.2.2.2.2.2.2.2.2
abbrev sg_mk (n : Nat) (ro : Nat) (cl : Nat) (fb : Nat) (rn : Nat) (a6 : Nat) (a7 : Nat) (nd : Nat → Nat) (sk : Nat → Nat) (mo : Nat → Nat) (wk : Nat → Nat) (fx : Nat → Nat) (wi : Nat → Nat) (la : Nat → Nat) (da : Nat → Nat) (we : Nat → Nat) (pa : Nat → Nat) (V : Nat → Int64) (V2 : Nat → Int64) (PR : Nat → Int64) (Wv : Nat → Int32) (Bv : Nat → Int32) : SG := (n, ro, cl, fb, rn, a6, a7, nd, sk, mo, wk, fx, wi, la, da, we, pa, V, V2, PR, Wv, Bv)
abbrev SG.w (x : SG) (cT : ClassId × ClassId × ClassId) (z c : Nat → Nat) : va_W := lX cT z x.n x.ro x.cl x.fb x.rn x.nd x.sk x.mo x.wk x.fx x.wi x.la x.da x.we x.Wv x.Bv ++ (cX cT c x.a6 x.a7 x.n x.ro x.cl x.fb x.rn x.nd x.V x.V2 x.PR x.pa ++ pool x.n x.pa (per x.sk x.mo x.wk x.fx x.wi x.la x.da x.we))
def okN (k n ro fb rn : Nat) (nd sk mo wk fx wi la da we : Nat → Nat) : Prop := wfC n k fb rn nd sk mo wk fx wi la da we ∧ (∀ j, j < 4 → bit fb j = 0) ∧ ro ≤ 10 ∧ ∀ j, n ≤ j → wk j = 0 ∧ wi j = 0 ∧ la j = 0 ∧ da j = 0 ∧ we j = 0 ∧ fx j = 0
def SG.ok (x : SG) (k : Nat) : Prop := okN k x.n x.ro x.fb x.rn x.nd x.sk x.mo x.wk x.fx x.wi x.la x.da x.we
section OKS
variable {k n ro fb rn : Nat} {nd sk mo wk fx wi la da we : Nat → Nat}
theorem wf_bd (h : wfC n k fb rn nd sk mo wk fx wi la da we) (hk : k < 1000) : wfC n (k + 1) fb rn nd sk mo wk fx wi la da we := by
  obtain ⟨h1, h2, h3, h4, h5, h6⟩ := h
  refine ⟨h1, by omega, h3, h4, h5, fun j => ?_⟩
  have q := h6 j
  exact ⟨q.1, q.2.1, q.2.2.1, q.2.2.2.1, q.2.2.2.2.1, q.2.2.2.2.2.1, by omega, by omega⟩
theorem on_id (h : okN k n ro fb rn nd sk mo wk fx wi la da we) (hk : k < 1000) : okN (k + 1) n ro fb rn nd sk mo wk fx wi la da we := ⟨wf_bd h.1 hk, h.2⟩
theorem on_nd {j v : Nat} (h : okN k n ro fb rn nd sk mo wk fx wi la da we) (hk : k < 1000) (hv : v < 6) : okN (k + 1) n ro fb rn (va_up nd j v) sk mo wk fx wi la da we := by
  obtain ⟨⟨h1, h2, h3, h4, h5, h6⟩, hz, ho, hc⟩ := on_id h hk
  exact ⟨⟨h1, h2, h3, h4, up_all (P := fun z => z ≤ 5) h5 (by omega), h6⟩, hz, ho, hc⟩
theorem on_fb {e f b : Nat} (h : okN k n ro fb rn nd sk mo wk fx wi la da we) (hk : k < 1000) (hb : b < 2) (he : 1 ≤ e ∧ e < 4) (hf : 1 ≤ f ∧ f < 4) : okN (k + 1) n ro (bset fb (4 * e + f) b) rn nd sk mo wk fx wi la da we := by
  obtain ⟨⟨h1, h2, h3, h4, h5, h6⟩, hz, ho, hc⟩ := on_id h hk
  exact ⟨⟨h1, h2, bs_lt (n := 16) hb h3 (by omega), h4, h5, h6⟩, fun j hj => by rw [bs_get2 hb (by omega)]; exact hz j hj, ho, hc⟩
theorem on_rn {v : Nat} (h : okN k n ro fb rn nd sk mo wk fx wi la da we) (hk : k < 1000) (hv : v < 15) : okN (k + 1) n ro fb v nd sk mo wk fx wi la da we := by
  obtain ⟨⟨h1, h2, h3, h4, h5, h6⟩, hz, ho, hc⟩ := on_id h hk
  exact ⟨⟨h1, h2, h3, by omega, h5, h6⟩, hz, ho, hc⟩
theorem on_wi {i d b : Nat} (h : okN k n ro fb rn nd sk mo wk fx wi la da we) (hk : k < 1000) (hi : i < n) (hd : d < 7) (hb : b < 2) : okN (k + 1) n ro fb rn nd sk mo wk fx (va_up wi i (bset (wi i) d b)) la da we := by
  obtain ⟨⟨h1, h2, h3, h4, h5, h6⟩, hz, ho, hc⟩ := on_id h hk
  refine ⟨⟨h1, h2, h3, h4, h5, fun j => ?_⟩, hz, ho, fun j hj => ?_⟩
  · have q := h6 j
    exact ⟨q.1, q.2.1, q.2.2.1, q.2.2.2.1, up_all (P := fun z => z < 128) (fun j => (h6 j).2.2.2.2.1) (bs_lt (n := 7) hb (h6 i).2.2.2.2.1 (by omega)) j, q.2.2.2.2.2⟩
  · have q := hc j hj
    exact ⟨q.1, by rw [vu_n (by omega)]; exact q.2.1, q.2.2⟩
theorem on_fx {i d v : Nat} (h : okN k n ro fb rn nd sk mo wk fx wi la da we) (hk : k < 1000) (hi : i < n) (hd : d < 7) (hv : v < 5) : okN (k + 1) n ro fb rn nd sk mo wk (va_up fx i (nset (fx i) d v)) wi la da we := by
  obtain ⟨⟨h1, h2, h3, h4, h5, h6⟩, hz, ho, hc⟩ := on_id h hk
  refine ⟨⟨h1, h2, h3, h4, h5, fun j => ?_⟩, hz, ho, fun j hj => ?_⟩
  · have q := h6 j
    exact ⟨q.1, q.2.1, q.2.2.1, up_all (P := fun z => z < 2 ^ 28) (fun j => (h6 j).2.2.2.1) (ns_lt (by omega) (h6 i).2.2.2.1 hd) j, q.2.2.2.2⟩
  · have q := hc j hj
    exact ⟨q.1, q.2.1, q.2.2.1, q.2.2.2.1, q.2.2.2.2.1, by rw [vu_n (by omega)]; exact q.2.2.2.2.2⟩
theorem on_wk {w : Nat → Nat} {r : Nat} (h : okN k n ro fb rn nd sk mo wk fx wi la da we) (hk : k < 1000) (hw : ∀ j, w j < 16384) (h0 : ∀ j, n ≤ j → w j = 0) (hr : r ≤ 10) : okN (k + 1) n r fb rn nd sk mo w fx wi la da we := by
  obtain ⟨h1, hz, ho, hc⟩ := on_id h hk
  exact ⟨wf_fun h1 hw, hz, hr, fun j hj => ⟨h0 j hj, (hc j hj).2⟩⟩
theorem on_cl (h : okN k n ro fb rn nd sk mo wk fx wi la da we) (hk : k < 1000) : okN (k + 1) n ro fb rn nd sk mo (upn wk (fun _ => 0) n) (upn fx (fun _ => 0) n) (upn wi (fun _ => 0) n) (upn la (clL wk) n) (upn da (clG wk da) n) (upn we (clE wk we) n) := by
  obtain ⟨h1, hz, ho, hc⟩ := h
  refine ⟨wf_close h1 (by omega) n n, hz, ho, fun j hj => ?_⟩
  have q := hc j hj
  have e : ∀ f g : Nat → Nat, upn f g n j = f j := fun f g => if_neg (by omega)
  exact ⟨(e _ _).trans q.1, (e _ _).trans q.2.1, (e _ _).trans q.2.2.1, (e _ _).trans q.2.2.2.1, (e _ _).trans q.2.2.2.2.1, (e _ _).trans q.2.2.2.2.2⟩
theorem on_add {v m : Nat} (h : okN k n ro fb rn nd sk mo wk fx wi la da we) (hk : k < 1000) (hn : n < 8) (hv : v ≤ 14) (hm : m ≤ 7) : okN (k + 1) (n + 1) ro fb rn nd (va_up sk n v) (va_up mo n m) wk fx wi la da we := by
  obtain ⟨⟨h1, h2, h3, h4, h5, h6⟩, hz, ho, hc⟩ := on_id h hk
  refine ⟨⟨hn, h2, h3, h4, h5, fun j => ?_⟩, hz, ho, fun j hj => hc j (Nat.le_of_succ_le hj)⟩
  have q := h6 j
  exact ⟨up_all (P := fun z => z < 16) (fun j => (h6 j).1) (by omega) j, up_all (P := fun z => z ≤ 7) (fun j => (h6 j).2.1) hm j, q.2.2⟩
end OKS
theorem rst_out {C : (Nat → Nat) → Nat → Nat} {wk : Nat → Nat} : ∀ p k, p ≤ k → (rst C wk p).1 k = wk k := by
  intro p
  induction p with
  | zero => intro k _; rfl
  | succ p ih =>
    intro k hk
    show va_up (rst C wk p).1 p (C (rst C wk p).1 p) k = wk k
    rw [vu_n (by omega)]; exact ih k (by omega)
theorem pls_out {C : (Nat → Nat) → Nat → Nat} {n : Nat} : ∀ r k, n ≤ k → (pls C n (fun _ => 0) r).1 k = 0 := by
  intro r
  induction r with
  | zero => intro k _; rfl
  | succ r ih =>
    intro k hk
    show (rst C _ n).1 k = 0
    rw [rst_out n k hk]; exact ih k hk
set_option maxHeartbeats 4000000 in
set_option maxRecDepth 100000 in
/-- THE LAW'S LOOP: at its head, after k turns, the law's arrays and the desk stand in the same numbers -/
theorem law_loop {p0 : Program} {l : Launch} {e0 : Env} {s0 : State} {m0 : MethodId} {b0 : List Frame} {t0 : Method} {c0 : Code} {bb L : Nat} {xs : Nat → Int32} {D : va_G} {cT : ClassId × ClassId × ClassId} {z c : Nat → Nat} (X : LA p0 s0 m0 t0 c0 bb L xs D cT) (hfl : l.stackTraces = false) (hr : t0.sig.returnType = ret) (hlocks : t0.locks = false) :
    ∀ (q : Nat) (k : Nat) (x : SG) (H : Heap) (locs : List Loc), 81 ≤ k + q → k ≤ 80 → x.ok k → va_P D vwCl (x.w cT z c) H → va_D (AL s0) (x.w cT z c) → va_S (AL s0) s0.heap H locs → ∀ ls : Array Slot, lv_has ls 19 [(0, .ref bb), (1, .ref (c 0)), (2, .ref (z 0)), (3, .ref (z 1)), (4, .ref (z 2)), (5, .ref (z 3)), (6, .ref (z 4)), (7, .ref (z 5)), (8, .ref (z 6)), (9, .int (nI k))] → W p0 l e0 room_1 s0 m0 #[Value.ref bb] b0 t0 c0 H locs (18 + k) (1277 + 8 * k) (lw_Z b0 #[Value.ref bb] s0) (F0 m0 96 ls []) := by
  obtain ⟨S, hL, hX, hbl, hK, hXS⟩ := id X
  have hA : ∀ q : Nat, s0.heap.size ≤ q → AL s0 q := fun _ h => h
  intro q
  induction q with
  | zero => intro k x H locs h1 h2; exact absurd h1 (by omega)
  | succ q ih =>
    intro k x H locs h1 h2 hx hP hD hS ls hl
    obtain ⟨hwf, hz, hro, h0⟩ := id (show okN k x.n x.ro x.fb x.rn x.nd x.sk x.mo x.wk x.fx x.wi x.la x.da x.we from hx)
    obtain ⟨hn, hcl, hfb, hrn, hnd, hper⟩ := id hwf
    have hP : va_P D vwCl (lX cT z x.n x.ro x.cl x.fb x.rn x.nd x.sk x.mo x.wk x.fx x.wi x.la x.da x.we x.Wv x.Bv ++ (cX cT c x.a6 x.a7 x.n x.ro x.cl x.fb x.rn x.nd x.V x.V2 x.PR x.pa ++ pool x.n x.pa (per x.sk x.mo x.wk x.fx x.wi x.la x.da x.we))) H := hP
    have hD : va_D (AL s0) (lX cT z x.n x.ro x.cl x.fb x.rn x.nd x.sk x.mo x.wk x.fx x.wi x.la x.da x.we x.Wv x.Bv ++ (cX cT c x.a6 x.a7 x.n x.ro x.cl x.fb x.rn x.nd x.V x.V2 x.PR x.pa ++ pool x.n x.pa (per x.sk x.mo x.wk x.fx x.wi x.la x.da x.we))) := hD
    have hcs0 : 18 + k ≤ room_1.cells ∧ 1277 + 8 * k ≤ room_1.slots := ⟨by show 18 + k ≤ 600130; omega, by show 1277 + 8 * k ≤ 7301080; omega⟩
    have hroom : 18 + k + 1 ≤ room_1.cells ∧ 1277 + 8 * k + 8 ≤ room_1.slots := ⟨by show 18 + k + 1 ≤ 600130; omega, by show 1277 + 8 * k + 8 ≤ 7301080; omega⟩
    have hcs1 : 18 + k + 1 ≤ room_1.cells ∧ 1277 + 8 * k + 8 ≤ room_1.slots := hroom
    have tail : k < 80 → ∀ (zz : Int32) (y : SG) (v : Int32) (H : Heap) (locs : List Loc), y.ok (k + 1) → va_P D vwCl (lX cT z y.n y.ro y.cl y.fb y.rn y.nd y.sk y.mo y.wk y.fx y.wi y.la y.da y.we y.Wv y.Bv ++ (cX cT c y.a6 y.a7 y.n y.ro y.cl y.fb y.rn y.nd y.V y.V2 y.PR y.pa ++ pool y.n y.pa (per y.sk y.mo y.wk y.fx y.wi y.la y.da y.we))) H → va_D (AL s0) (lX cT z y.n y.ro y.cl y.fb y.rn y.nd y.sk y.mo y.wk y.fx y.wi y.la y.da y.we y.Wv y.Bv ++ (cX cT c y.a6 y.a7 y.n y.ro y.cl y.fb y.rn y.nd y.V y.V2 y.PR y.pa ++ pool y.n y.pa (per y.sk y.mo y.wk y.fx y.wi y.la y.da y.we))) → va_S (AL s0) s0.heap H locs → ∀ ls : Array Slot, lv_has ls 19 [(0, .ref bb), (1, .ref (c 0)), (2, .ref (z 0)), (3, .ref (z 1)), (4, .ref (z 2)), (5, .ref (z 3)), (6, .ref (z 4)), (7, .ref (z 5)), (8, .ref (z 6)), (9, .int (nI k)), (10, .int zz), (14, .int v), (15, .int v)] → W p0 l e0 room_1 s0 m0 #[Value.ref bb] b0 t0 c0 H locs (18 + k + 1) (1277 + 8 * k + 8) (lw_Z b0 #[Value.ref bb] s0) (F0 m0 1009 ls []) := by
      intro hk80 zz y v H locs hy hP hD hS ls hl
      obtain ⟨hwf, hz, hro, h0⟩ := id (show okN (k + 1) y.n y.ro y.fb y.rn y.nd y.sk y.mo y.wk y.fx y.wi y.la y.da y.we from hy)
      obtain ⟨hn, hcl, hfb, hrn, hnd, hper⟩ := id hwf
      refine lv_iload S.1 S.2.1 dL_law_1009 (lv_at hl 12 rfl) ?_
      refine lv_iload S.1 S.2.1 dL_law_1011 (lv_at hl 11 rfl) ?_
      refine lv_icmp_ne (tgt := 1046) S.1 S.2.1 dL_law_1013 (by decide) (fun c1013 => ?_) (fun c1013 => ?_)
      · exact absurd rfl c1013
      refine lv_iload S.1 S.2.1 dL_law_1016 (lv_at hl 9 rfl) ?_
      refine lv_iconst (v := (nI 2)) S.1 S.2.1 dL_law_1018 (by decide) ?_
      refine n_rem S (by omega) dL_law_1019 ?_
      refine n_zne S (tgt := 1048) (by omega) dL_law_1020 (by decide) (fun c1020 => ?_) (fun c1020 => ?_)
      · refine lv_iinc (v := (nI (k + 1))) (lv' := [(9, .int (nI (k + 1))), (0, .ref bb), (1, .ref (c 0)), (2, .ref (z 0)), (3, .ref (z 1)), (4, .ref (z 2)), (5, .ref (z 3)), (6, .ref (z 4)), (7, .ref (z 5)), (8, .ref (z 6)), (10, .int zz), (14, .int v), (15, .int v)]) S.1 S.2.1 dL_law_1048 hl (k := 9) rfl (nI_1 _) (by decide) rfl (fun ls hl => ?_)
        refine lv_goto (tgt := 96) S.1 S.2.1 dL_law_1051 (by decide) ?_
        refine W.widen (k := 18 + (k + 1)) (n := 1277 + 8 * (k + 1)) (by omega) (by omega) ?_
        exact ih (k + 1) (sg_mk y.n y.ro y.cl y.fb y.rn y.a6 y.a7 y.nd y.sk y.mo y.wk y.fx y.wi y.la y.da y.we y.pa y.V y.V2 y.PR y.Wv y.Bv) H locs (by omega) (by omega) hy hP hD hS ls (lv_sub hl [1, 2, 3, 4, 5, 6, 7, 8, 9, 0] rfl)
      · refine lv_aload_n S.1 S.2.1 dL_law_1023 rfl (lv_at hl 1 rfl) ?_
        refine lv_iload S.1 S.2.1 dL_law_1024 (lv_at hl 10 rfl) ?_
        refine lv_iconst (v := (nI 4)) S.1 S.2.1 dL_law_1026 (by decide) ?_
        refine lv_ishr S.1 S.2.1 dL_law_1027 ?_
        refine lv_aload S.1 S.2.1 dL_law_1028 (lv_at hl 6 rfl) ?_
        refine lv_aload S.1 S.2.1 dL_law_1030 (lv_at hl 7 rfl) ?_
        refine lv_aload_n S.1 S.2.1 dL_law_1032 rfl (lv_at hl 2 rfl) ?_
        refine lv_aload_n S.1 S.2.1 dL_law_1033 rfl (lv_at hl 3 rfl) ?_
        refine lv_aload S.1 S.2.1 dL_law_1034 (lv_at hl 4 rfl) ?_
        refine lv_aload S.1 S.2.1 dL_law_1036 (lv_at hl 5 rfl) ?_
        refine lv_aload S.1 S.2.1 dL_law_1038 (lv_at hl 8 rfl) ?_
        refine wr_callSi (rest := []) S (w_L_isSo l D cT _ z c y.pa (k + 1) y.a6 y.a7 y.n y.ro y.cl y.fb y.rn y.nd y.sk y.mo y.wk y.fx y.wi y.la y.da y.we y.Wv y.Bv y.V y.V2 y.PR (zz >>> ((nI 4) &&& 31)) (hwf) (hz) (hro)) gL_law_L_isSo rfl pd_L_isSo ⟨rfl, rfl, Nat.le_of_ble_eq_true rfl, Nat.le_of_ble_eq_true rfl⟩ hP hK hD hS hA hl rfl rfl (Nat.le_of_ble_eq_true rfl) hcs1 dL_law_1040 (fun r_ u_ H locs hr_ hP hD hS => ?_)
        subst hr_
        have hP : va_P D vwCl (lX cT z y.n y.ro y.cl y.fb y.rn y.nd y.sk y.mo y.wk y.fx y.wi y.la y.da y.we u_.1 u_.2.1 ++ (cX cT c u_.2.2.1 u_.2.2.2.1 y.n y.ro y.cl y.fb y.rn y.nd u_.2.2.2.2.1 u_.2.2.2.2.2 y.PR y.pa ++ pool y.n y.pa (per y.sk y.mo y.wk y.fx y.wi y.la y.da y.we))) H := hP
        have hD : va_D (AL s0) (lX cT z y.n y.ro y.cl y.fb y.rn y.nd y.sk y.mo y.wk y.fx y.wi y.la y.da y.we u_.1 u_.2.1 ++ (cX cT c u_.2.2.1 u_.2.2.2.1 y.n y.ro y.cl y.fb y.rn y.nd u_.2.2.2.2.1 u_.2.2.2.2.2 y.PR y.pa ++ pool y.n y.pa (per y.sk y.mo y.wk y.fx y.wi y.la y.da y.we))) := hD
        refine n_bne S (tgt := 1048) dL_law_1043 (by decide) (fun _ => ?_) (fun q => absurd q (by decide))
        refine lv_iinc (v := (nI (k + 1))) (lv' := [(9, .int (nI (k + 1))), (0, .ref bb), (1, .ref (c 0)), (2, .ref (z 0)), (3, .ref (z 1)), (4, .ref (z 2)), (5, .ref (z 3)), (6, .ref (z 4)), (7, .ref (z 5)), (8, .ref (z 6)), (10, .int zz), (14, .int v), (15, .int v)]) S.1 S.2.1 dL_law_1048 hl (k := 9) rfl (nI_1 _) (by decide) rfl (fun ls hl => ?_)
        refine lv_goto (tgt := 96) S.1 S.2.1 dL_law_1051 (by decide) ?_
        refine W.widen (k := 18 + (k + 1)) (n := 1277 + 8 * (k + 1)) (by omega) (by omega) ?_
        exact ih (k + 1) (sg_mk y.n y.ro y.cl y.fb y.rn u_.2.2.1 u_.2.2.2.1 y.nd y.sk y.mo y.wk y.fx y.wi y.la y.da y.we y.pa u_.2.2.2.2.1 u_.2.2.2.2.2 y.PR u_.1 u_.2.1) H locs (by omega) (by omega) hy hP hD hS ls (lv_sub hl [1, 2, 3, 4, 5, 6, 7, 8, 9, 0] rfl)
    refine lv_iload S.1 S.2.1 dL_law_96 (lv_at hl 9 rfl) ?_
    refine lv_bipush (v := (nI 80)) S.1 S.2.1 dL_law_98 (by decide) ?_
    refine n_cge S (tgt := 1054) (by omega) dL_law_100 (by decide) (fun c100 => ?_) (fun c100 => ?_)
    · refine lv_iconst (v := 1) S.1 S.2.1 dL_law_1054 (by decide) ?_
      refine va_forget (fun q hq => hS.2.2 q hq) ?_
      refine W.widen (k := 600130) (n := 7301080) (by omega) (by omega) ?_
      exact lw_ret S.1 S.2.1 hr hlocks dL_law_1055
    · refine lv_aload_n S.1 S.2.1 dL_law_103 rfl (lv_at hl 0 rfl) ?_
      refine lv_iload S.1 S.2.1 dL_law_104 (lv_at hl 9 rfl) ?_
      have hXH : va_X bb L xs s0 H := hX.kept (hS.2.1 bb hbl (Nat.not_le.mpr hbl))
      have hbH : bb < H.size := Nat.lt_of_lt_of_le hbl hS.1
      refine rd_callX (As := [.ref bb, .int (nI k)]) (rest := []) S (r_L_cell l D cT bb L k xs hL (by omega)) gL_law_L_cell rfl pd_L_cell ⟨rfl, rfl, Nat.le_of_ble_eq_true rfl, Nat.le_of_ble_eq_true rfl⟩ hXH hbH hK hl rfl rfl (Nat.le_of_ble_eq_true rfl) hcs0 dL_law_106 ?_
      generalize cellv xs L k = zz
      refine lv_istore (lv' := [(10, .int zz), (0, .ref bb), (1, .ref (c 0)), (2, .ref (z 0)), (3, .ref (z 1)), (4, .ref (z 2)), (5, .ref (z 3)), (6, .ref (z 4)), (7, .ref (z 5)), (8, .ref (z 6)), (9, .int (nI k))]) S.1 S.2.1 dL_law_109 hl (by decide) rfl (fun ls hl => ?_)
      refine lv_iload S.1 S.2.1 dL_law_111 (lv_at hl 0 rfl) ?_
      refine lv_bipush (v := (nI 28)) S.1 S.2.1 dL_law_113 (by decide) ?_
      refine rd_callS (rest := []) S (r_L_low l D cT zz 28 (by omega)) gL_law_L_low rfl pd_L_low ⟨rfl, rfl, Nat.le_of_ble_eq_true rfl, Nat.le_of_ble_eq_true rfl⟩ (sx_P0 D _) hK hl rfl rfl (Nat.le_of_ble_eq_true rfl) hcs0 dL_law_115 ?_
      have hact := Nat.mod_lt (lowb zz) (show 28 > 0 from by omega)
      generalize lowb zz % 28 = act at hact ⊢
      refine lv_istore (lv' := [(11, .int (nI act)), (10, .int zz), (0, .ref bb), (1, .ref (c 0)), (2, .ref (z 0)), (3, .ref (z 1)), (4, .ref (z 2)), (5, .ref (z 3)), (6, .ref (z 4)), (7, .ref (z 5)), (8, .ref (z 6)), (9, .int (nI k))]) S.1 S.2.1 dL_law_118 hl (by decide) rfl (fun ls hl => ?_)
      have jn142 : ∀ (p : Nat) , (0 < x.n → p < x.n) → ∀ (H : Heap) (locs : List Loc), va_P D vwCl (lX cT z x.n x.ro x.cl x.fb x.rn x.nd x.sk x.mo x.wk x.fx x.wi x.la x.da x.we x.Wv x.Bv ++ (cX cT c x.a6 x.a7 x.n x.ro x.cl x.fb x.rn x.nd x.V x.V2 x.PR x.pa ++ pool x.n x.pa (per x.sk x.mo x.wk x.fx x.wi x.la x.da x.we))) H → va_D (AL s0) (lX cT z x.n x.ro x.cl x.fb x.rn x.nd x.sk x.mo x.wk x.fx x.wi x.la x.da x.we x.Wv x.Bv ++ (cX cT c x.a6 x.a7 x.n x.ro x.cl x.fb x.rn x.nd x.V x.V2 x.PR x.pa ++ pool x.n x.pa (per x.sk x.mo x.wk x.fx x.wi x.la x.da x.we))) → va_S (AL s0) s0.heap H locs → ∀ ls : Array Slot, lv_has ls 19 [(0, .ref bb), (1, .ref (c 0)), (2, .ref (z 0)), (3, .ref (z 1)), (4, .ref (z 2)), (5, .ref (z 3)), (6, .ref (z 4)), (7, .ref (z 5)), (8, .ref (z 6)), (9, .int (nI k)), (10, .int zz), (11, .int (nI act))] → W p0 l e0 room_1 s0 m0 #[Value.ref bb] b0 t0 c0 H locs (18 + k) (1277 + 8 * k) (lw_Z b0 #[Value.ref bb] s0) (F0 m0 142 ls [.int (nI p)]) := by
        intro p hp0 H locs hP hD hS ls hl
        refine lv_istore (lv' := [(12, .int (nI p)), (0, .ref bb), (1, .ref (c 0)), (2, .ref (z 0)), (3, .ref (z 1)), (4, .ref (z 2)), (5, .ref (z 3)), (6, .ref (z 4)), (7, .ref (z 5)), (8, .ref (z 6)), (9, .int (nI k)), (10, .int zz), (11, .int (nI act))]) S.1 S.2.1 dL_law_142 hl (by decide) rfl (fun ls hl => ?_)
        refine lv_iload S.1 S.2.1 dL_law_144 (lv_at hl 11 rfl) ?_
        refine lv_bipush (v := (nI 8)) S.1 S.2.1 dL_law_146 (by decide) ?_
        refine lv_ishr S.1 S.2.1 dL_law_148 ?_
        refine lv_bipush (v := (nI 7)) S.1 S.2.1 dL_law_149 (by decide) ?_
        refine rd_callS (rest := []) S (r_L_low l D cT (zz >>> ((nI 8) &&& 31)) 7 (by omega)) gL_law_L_low rfl pd_L_low ⟨rfl, rfl, Nat.le_of_ble_eq_true rfl, Nat.le_of_ble_eq_true rfl⟩ (sx_P0 D _) hK hl rfl rfl (Nat.le_of_ble_eq_true rfl) hcs0 dL_law_151 ?_
        have hdy := Nat.mod_lt (lowb (zz >>> ((nI 8) &&& 31))) (show 7 > 0 from by omega)
        generalize lowb (zz >>> ((nI 8) &&& 31)) % 7 = dy at hdy ⊢
        refine lv_istore (lv' := [(13, .int (nI dy)), (12, .int (nI p)), (0, .ref bb), (1, .ref (c 0)), (2, .ref (z 0)), (3, .ref (z 1)), (4, .ref (z 2)), (5, .ref (z 3)), (6, .ref (z 4)), (7, .ref (z 5)), (8, .ref (z 6)), (9, .int (nI k)), (10, .int zz), (11, .int (nI act))]) S.1 S.2.1 dL_law_154 hl (by decide) rfl (fun ls hl => ?_)
        refine lv_iconst (v := (nI 0)) S.1 S.2.1 dL_law_156 (by decide) ?_
        refine lv_istore (lv' := [(14, .int (nI 0)), (13, .int (nI dy)), (12, .int (nI p)), (0, .ref bb), (1, .ref (c 0)), (2, .ref (z 0)), (3, .ref (z 1)), (4, .ref (z 2)), (5, .ref (z 3)), (6, .ref (z 4)), (7, .ref (z 5)), (8, .ref (z 6)), (9, .int (nI k)), (10, .int zz), (11, .int (nI act))]) S.1 S.2.1 dL_law_157 hl (by decide) rfl (fun ls hl => ?_)
        refine lv_iconst (v := (nI 0)) S.1 S.2.1 dL_law_159 (by decide) ?_
        refine lv_istore (lv' := [(15, .int (nI 0)), (14, .int (nI 0)), (13, .int (nI dy)), (12, .int (nI p)), (0, .ref bb), (1, .ref (c 0)), (2, .ref (z 0)), (3, .ref (z 1)), (4, .ref (z 2)), (5, .ref (z 3)), (6, .ref (z 4)), (7, .ref (z 5)), (8, .ref (z 6)), (9, .int (nI k)), (10, .int zz), (11, .int (nI act))]) S.1 S.2.1 dL_law_160 hl (by decide) rfl (fun ls hl => ?_)
        have jn294 : (3 ≤ x.n) → (p < x.n) → ∀ (H : Heap) (locs : List Loc), va_P D vwCl (lX cT z x.n x.ro x.cl x.fb x.rn x.nd x.sk x.mo x.wk x.fx x.wi x.la x.da x.we x.Wv x.Bv ++ (cX cT c x.a6 x.a7 x.n x.ro x.cl x.fb x.rn x.nd x.V x.V2 x.PR x.pa ++ pool x.n x.pa (per x.sk x.mo x.wk x.fx x.wi x.la x.da x.we))) H → va_D (AL s0) (lX cT z x.n x.ro x.cl x.fb x.rn x.nd x.sk x.mo x.wk x.fx x.wi x.la x.da x.we x.Wv x.Bv ++ (cX cT c x.a6 x.a7 x.n x.ro x.cl x.fb x.rn x.nd x.V x.V2 x.PR x.pa ++ pool x.n x.pa (per x.sk x.mo x.wk x.fx x.wi x.la x.da x.we))) → va_S (AL s0) s0.heap H locs → ∀ ls : Array Slot, lv_has ls 19 [(0, .ref bb), (1, .ref (c 0)), (2, .ref (z 0)), (3, .ref (z 1)), (4, .ref (z 2)), (5, .ref (z 3)), (6, .ref (z 4)), (7, .ref (z 5)), (8, .ref (z 6)), (9, .int (nI k)), (10, .int zz), (11, .int (nI act)), (12, .int (nI p)), (13, .int (nI dy)), (14, .int (nI 0)), (15, .int (nI 0))] → W p0 l e0 room_1 s0 m0 #[Value.ref bb] b0 t0 c0 H locs (18 + k) (1277 + 8 * k) (lw_Z b0 #[Value.ref bb] s0) (F0 m0 294 ls []) := by
          intro  h3 hp H locs hP hD hS ls hl
          refine lv_iload S.1 S.2.1 dL_law_294 (lv_at hl 11 rfl) ?_
          refine lv_bipush (v := (nI 10)) S.1 S.2.1 dL_law_296 (by decide) ?_
          refine n_cge S (tgt := 359) (by omega) dL_law_298 (by decide) (fun c298 => ?_) (fun c298 => ?_)
          · refine lv_iload S.1 S.2.1 dL_law_359 (lv_at hl 11 rfl) ?_
            refine lv_bipush (v := (nI 12)) S.1 S.2.1 dL_law_361 (by decide) ?_
            refine n_cge S (tgt := 469) (by omega) dL_law_363 (by decide) (fun c363 => ?_) (fun c363 => ?_)
            · refine lv_iload S.1 S.2.1 dL_law_469 (lv_at hl 11 rfl) ?_
              refine lv_bipush (v := (nI 12)) S.1 S.2.1 dL_law_471 (by decide) ?_
              refine n_cne S (tgt := 513) (by omega) dL_law_473 (by decide) (fun c473 => ?_) (fun c473 => ?_)
              · refine lv_iload S.1 S.2.1 dL_law_513 (lv_at hl 11 rfl) ?_
                refine lv_bipush (v := (nI 15)) S.1 S.2.1 dL_law_515 (by decide) ?_
                refine n_cge S (tgt := 614) (by omega) dL_law_517 (by decide) (fun c517 => ?_) (fun c517 => ?_)
                · refine lv_iload S.1 S.2.1 dL_law_614 (lv_at hl 11 rfl) ?_
                  refine lv_bipush (v := (nI 17)) S.1 S.2.1 dL_law_616 (by decide) ?_
                  refine n_cge S (tgt := 680) (by omega) dL_law_618 (by decide) (fun c618 => ?_) (fun c618 => ?_)
                  · refine lv_iload S.1 S.2.1 dL_law_680 (lv_at hl 11 rfl) ?_
                    refine lv_bipush (v := (nI 19)) S.1 S.2.1 dL_law_682 (by decide) ?_
                    refine n_cge S (tgt := 721) (by omega) dL_law_684 (by decide) (fun c684 => ?_) (fun c684 => ?_)
                    · refine lv_iload S.1 S.2.1 dL_law_721 (lv_at hl 11 rfl) ?_
                      refine lv_bipush (v := (nI 23)) S.1 S.2.1 dL_law_723 (by decide) ?_
                      refine n_cge S (tgt := 826) (by omega) dL_law_725 (by decide) (fun c725 => ?_) (fun c725 => ?_)
                      · refine lv_iload S.1 S.2.1 dL_law_826 (lv_at hl 11 rfl) ?_
                        refine lv_bipush (v := (nI 26)) S.1 S.2.1 dL_law_828 (by decide) ?_
                        refine n_cge S (tgt := 981) (by omega) dL_law_830 (by decide) (fun c830 => ?_) (fun c830 => ?_)
                        · refine lv_iload S.1 S.2.1 dL_law_981 (lv_at hl 11 rfl) ?_
                          refine lv_bipush (v := (nI 26)) S.1 S.2.1 dL_law_983 (by decide) ?_
                          refine n_cne S (tgt := 1009) (by omega) dL_law_985 (by decide) (fun c985 => ?_) (fun c985 => ?_)
                          · refine W.widen (k := 18 + k + 1) (n := 1277 + 8 * k + 8) (by omega) (by omega) ?_
                            exact tail (by omega) zz x (nI 0) H locs (on_id hx (by omega)) hP hD hS ls (lv_sub hl [0, 1, 2, 3, 4, 5, 6, 7, 8, 9, 10, 14, 15] rfl)
                          · refine lc_close X hcs0 hroom hwf hz h0 (by omega) hP hD hS (lv_sub hl [0, 1, 2, 3, 4, 5, 6, 7, 8, 9, 10, 11, 12, 13, 14, 15] rfl) (fun  H locs hP hD hS ls hl => ?_)
                            exact tail (by omega) zz (sg_mk x.n x.ro (x.cl + 1) x.fb x.rn x.a6 x.a7 x.nd x.sk x.mo (upn x.wk (fun _ => 0) x.n) (upn x.fx (fun _ => 0) x.n) (upn x.wi (fun _ => 0) x.n) (upn x.la (clL x.wk) x.n) (upn x.da (clG x.wk x.da) x.n) (upn x.we (clE x.wk x.we) x.n) x.pa x.V x.V2 x.PR x.Wv x.Bv) (nI (x.cl + 1)) H locs (on_cl hx (by omega)) hP hD hS ls hl
                        · refine lc_swap X hcs0 hroom hwf hz h0 hp hdy hfl hP hD hS (lv_sub hl [0, 1, 2, 3, 4, 5, 6, 7, 8, 9, 10, 11, 12, 13, 14, 15] rfl) (fun w2 W2 tv hw2 hw0 H locs hP hD hS ls hl => ?_)
                          exact tail (by omega) zz (sg_mk x.n x.ro x.cl x.fb x.rn x.a6 x.a7 x.nd x.sk x.mo w2 x.fx x.wi x.la x.da x.we x.pa x.V x.V2 x.PR W2 x.Bv) tv H locs (on_wk hx (by omega) hw2 hw0 hro) hP hD hS ls hl
                      · refine lc_set X hcs0 hroom hwf hz h0 hp hdy hfl hP hD hS (lv_sub hl [0, 1, 2, 3, 4, 5, 6, 7, 8, 9, 10, 11, 12, 13, 14, 15] rfl) (fun w2 W2 tv hw2 hw0 H locs hP hD hS ls hl => ?_)
                        exact tail (by omega) zz (sg_mk x.n x.ro x.cl x.fb x.rn x.a6 x.a7 x.nd x.sk x.mo w2 x.fx x.wi x.la x.da x.we x.pa x.V x.V2 x.PR W2 x.Bv) tv H locs (on_wk hx (by omega) hw2 hw0 hro) hP hD hS ls hl
                    · refine lc_plan X hcs0 hroom hwf hz h0  hP hD hS (lv_sub hl [0, 1, 2, 3, 4, 5, 6, 7, 8, 9, 10, 11, 12, 13, 14, 15] rfl) (fun u1 u2 hq1 H locs hP hD hS ls hl => ?_)
                      exact tail (by omega) zz (sg_mk x.n u1.1 x.cl x.fb x.rn u2.2.1 u2.2.2.1 x.nd x.sk x.mo ((pls (cho x.n x.fb x.rn x.nd x.sk x.mo x.fx x.wi x.la x.da x.we) x.n (fun _ => 0) u1.1).1) x.fx x.wi x.la x.da x.we x.pa u2.2.2.2.1 u2.2.2.2.2.1 u2.2.2.2.2.2 u1.2.1 u1.2.2) (nI (gpd x.n x.nd ((pls (cho x.n x.fb x.rn x.nd x.sk x.mo x.fx x.wi x.la x.da x.we) x.n (fun _ => 0) u1.1).1) 7)) H locs (on_wk hx (by omega) (pls_lt (fun w p => cho_lt _ _ _ _ _ _ _ _ _ _ _ w p) (fun _ => by decide) u1.1) (fun j hj => pls_out u1.1 j hj) hq1.2.2) hP hD hS ls hl
                  · refine lc_fix X hcs0 hroom hwf hz h0 hp hdy hP hD hS (lv_sub hl [0, 1, 2, 3, 4, 5, 6, 7, 8, 9, 10, 11, 12, 13, 14, 15] rfl) (fun v5 hv5 H locs hP hD hS ls hl => ?_)
                    exact tail (by omega) zz (sg_mk x.n x.ro x.cl x.fb x.rn x.a6 x.a7 x.nd x.sk x.mo x.wk (va_up x.fx p (nset (x.fx p) dy v5)) x.wi x.la x.da x.we x.pa x.V x.V2 x.PR x.Wv x.Bv) (nI (nib (x.fx p) dy) - nI 1) H locs (on_fx hx (by omega) hp hdy hv5) hP hD hS ls hl
                · refine lc_wish X hcs0 hroom hwf hz h0 hp hdy hP hD hS (lv_sub hl [0, 1, 2, 3, 4, 5, 6, 7, 8, 9, 10, 11, 12, 13, 14, 15] rfl) (fun b2 tv hb2 H locs hP hD hS ls hl => ?_)
                  exact tail (by omega) zz (sg_mk x.n x.ro x.cl x.fb x.rn x.a6 x.a7 x.nd x.sk x.mo x.wk x.fx (va_up x.wi p (bset (x.wi p) dy b2)) x.la x.da x.we x.pa x.V x.V2 x.PR x.Wv x.Bv) (nI tv) H locs (on_wi hx (by omega) hp hdy hb2) hP hD hS ls hl
              · refine lc_setRun X hcs0 hroom hwf hz h0  hP hD hS (lv_sub hl [0, 1, 2, 3, 4, 5, 6, 7, 8, 9, 10, 11, 12, 13, 14, 15] rfl) (fun v hv H locs hP hD hS ls hl => ?_)
                exact tail (by omega) zz (sg_mk x.n x.ro x.cl x.fb v x.a6 x.a7 x.nd x.sk x.mo x.wk x.fx x.wi x.la x.da x.we x.pa x.V x.V2 x.PR x.Wv x.Bv) (nI x.rn) H locs (on_rn hx (by omega) hv.2) hP hD hS ls hl
            · refine lc_forbid X hcs0 hroom hwf hz h0  hP hD hS (lv_sub hl [0, 1, 2, 3, 4, 5, 6, 7, 8, 9, 10, 11, 12, 13, 14, 15] rfl) (fun ea eb b2 tv hea heb hb2 H locs hP hD hS ls hl => ?_)
              exact tail (by omega) zz (sg_mk x.n x.ro x.cl (bset x.fb (4 * ea + eb) b2) x.rn x.a6 x.a7 x.nd x.sk x.mo x.wk x.fx x.wi x.la x.da x.we x.pa x.V x.V2 x.PR x.Wv x.Bv) (nI tv) H locs (on_fb hx (by omega) hb2 hea heb) hP hD hS ls hl
          · refine lc_setNeed X hcs0 hroom hwf hz h0 hdy hP hD hS (lv_sub hl [0, 1, 2, 3, 4, 5, 6, 7, 8, 9, 10, 11, 12, 13, 14, 15] rfl) (fun kd v4 hkd hv4 H locs hP hD hS ls hl => ?_)
            exact tail (by omega) zz (sg_mk x.n x.ro x.cl x.fb x.rn x.a6 x.a7 (va_up x.nd (dy * 4 + kd) v4) x.sk x.mo x.wk x.fx x.wi x.la x.da x.we x.pa x.V x.V2 x.PR x.Wv x.Bv) (nI (x.nd (dy * 4 + kd))) H locs (on_nd hx (by omega) (by omega)) hP hD hS ls hl
        refine lv_aload S.1 S.2.1 dL_law_162 (lv_at hl 12 rfl) ?_
        refine lv_iconst (v := (nI 0)) S.1 S.2.1 dL_law_164 (by decide) ?_
        refine g_iald S 6 hK hP rfl (by omega) dL_law_165 ?_
        refine n_top (show (nI ((qfn x.n x.cl x.ro) 0)) = (nI x.n) from rfl) ?_
        refine lv_iconst (v := (nI 3)) S.1 S.2.1 dL_law_166 (by decide) ?_
        refine n_clt S (tgt := 184) (by omega) dL_law_167 (by decide) (fun c167 => ?_) (fun c167 => ?_)
        · refine lc_addPerson X hcs0 hroom hwf hz h0 (by omega) hP hD hS (lv_sub hl [4, 5, 6, 7, 8, 9, 10, 11, 12, 13, 14, 15, 3, 2, 1, 0] rfl) (fun v mm u9 hv hmm H locs hP hD hS ls hl => ?_)
          exact tail (by omega) zz (sg_mk (x.n + 1) x.ro x.cl x.fb x.rn x.a6 x.a7 x.nd (va_up x.sk x.n v) (va_up x.mo x.n mm) x.wk x.fx x.wi x.la x.da x.we (va_up x.pa x.n u9) x.V x.V2 x.PR x.Wv x.Bv) (nI x.n) H locs (on_add hx (by omega) (by omega) hv hmm) hP hD hS ls hl
        · refine lv_iload S.1 S.2.1 dL_law_170 (lv_at hl 15 rfl) ?_
          refine n_zne S (tgt := 294) (by omega) dL_law_172 (by decide) (fun c172 => ?_) (fun c172 => ?_)
          · exact jn294  (by omega) (hp0 (by omega)) _ _ hP hD hS ls (lv_sub hl [4, 5, 6, 7, 8, 9, 10, 11, 12, 13, 14, 15, 3, 2, 1, 0] rfl)
          · refine lv_aload S.1 S.2.1 dL_law_175 (lv_at hl 12 rfl) ?_
            refine lv_iconst (v := (nI 0)) S.1 S.2.1 dL_law_177 (by decide) ?_
            refine g_iald S 6 hK hP rfl (by omega) dL_law_178 ?_
            refine n_top (show (nI ((qfn x.n x.cl x.ro) 0)) = (nI x.n) from rfl) ?_
            refine lv_bipush (v := (nI 8)) S.1 S.2.1 dL_law_179 (by decide) ?_
            refine n_cge S (tgt := 294) (by omega) dL_law_181 (by decide) (fun c181 => ?_) (fun c181 => ?_)
            · exact jn294  (by omega) (hp0 (by omega)) _ _ hP hD hS ls (lv_sub hl [4, 5, 6, 7, 8, 9, 10, 11, 12, 13, 14, 15, 3, 2, 1, 0] rfl)
            · refine lc_addPerson X hcs0 hroom hwf hz h0 (by omega) hP hD hS (lv_sub hl [4, 5, 6, 7, 8, 9, 10, 11, 12, 13, 14, 15, 3, 2, 1, 0] rfl) (fun v mm u9 hv hmm H locs hP hD hS ls hl => ?_)
              exact tail (by omega) zz (sg_mk (x.n + 1) x.ro x.cl x.fb x.rn x.a6 x.a7 x.nd (va_up x.sk x.n v) (va_up x.mo x.n mm) x.wk x.fx x.wi x.la x.da x.we (va_up x.pa x.n u9) x.V x.V2 x.PR x.Wv x.Bv) (nI x.n) H locs (on_add hx (by omega) (by omega) hv hmm) hP hD hS ls hl
      refine lv_aload S.1 S.2.1 dL_law_120 (lv_at hl 10 rfl) ?_
      refine lv_iconst (v := (nI 0)) S.1 S.2.1 dL_law_122 (by decide) ?_
      refine g_iald S 6 hK hP rfl (by omega) dL_law_123 ?_
      refine n_top (show (nI ((qfn x.n x.cl x.ro) 0)) = (nI x.n) from rfl) ?_
      refine n_zne S (tgt := 131) (by omega) dL_law_124 (by decide) (fun c124 => ?_) (fun c124 => ?_)
      · refine lv_iload S.1 S.2.1 dL_law_131 (lv_at hl 1 rfl) ?_
        refine lv_iconst (v := (nI 5)) S.1 S.2.1 dL_law_133 (by decide) ?_
        refine lv_ishr S.1 S.2.1 dL_law_134 ?_
        refine lv_aload S.1 S.2.1 dL_law_135 (lv_at hl 10 rfl) ?_
        refine lv_iconst (v := (nI 0)) S.1 S.2.1 dL_law_137 (by decide) ?_
        refine g_iald S 6 hK hP rfl (by omega) dL_law_138 ?_
        refine n_top (show (nI ((qfn x.n x.cl x.ro) 0)) = (nI x.n) from rfl) ?_
        refine rd_callS (rest := []) S (r_L_low l D cT (zz >>> ((nI 5) &&& 31)) x.n (⟨by omega, by omega⟩)) gL_law_L_low rfl pd_L_low ⟨rfl, rfl, Nat.le_of_ble_eq_true rfl, Nat.le_of_ble_eq_true rfl⟩ (sx_P0 D _) hK hl rfl rfl (Nat.le_of_ble_eq_true rfl) hcs0 dL_law_139 ?_
        exact jn142 (lowb (zz >>> ((nI 5) &&& 31)) % x.n) (fun h => Nat.mod_lt _ h) _ _ hP hD hS ls (lv_sub hl [2, 3, 4, 5, 6, 7, 8, 9, 10, 11, 1, 0] rfl)
      · refine lv_iconst (v := (nI 0)) S.1 S.2.1 dL_law_127 (by decide) ?_
        refine lv_goto (tgt := 142) S.1 S.2.1 dL_law_128 (by decide) ?_
        exact jn142 0 (fun h => absurd c124 (by omega)) _ _ hP hD hS ls (lv_sub hl [2, 3, 4, 5, 6, 7, 8, 9, 10, 11, 1, 0] rfl)
