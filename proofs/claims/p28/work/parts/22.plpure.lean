/-! pure words for planning, closing and adding -/
theorem en_upk {wk : Nat → Nat} {k v : Nat} (hv : v < 4) : (fun x => nI (va_up (enf wk) k v x)) = (fun x => nI (enf (va_up wk (k / 7) (wset (wk (k / 7)) (k % 7) v)) x)) := by
  have h := en_up (wk := wk) (i := k / 7) (d := k % 7) (v := v) (Nat.mod_lt _ (by decide)) hv
  rw [show 7 * (k / 7) + k % 7 = k from Nat.div_add_mod k 7] at h
  exact h
/-- the weeks with the first k entries of all off -/
def zkf (wk : Nat → Nat) (k : Nat) : Nat → Nat := va_up (off wk (k / 7)) (k / 7) (mxw (wk (k / 7)) 0 (k % 7))
theorem zkf_0 {wk : Nat → Nat} : zkf wk 0 = wk := vu_id
theorem ent_0 (d : Nat) : ent 0 d = 0 := by show 0 / _ % 4 = 0; rw [Nat.zero_div]
theorem zkf_s {wk : Nat → Nat} (hw : ∀ k, wk k < 16384) (k : Nat) : va_up (zkf wk k) (k / 7) (wset (zkf wk k (k / 7)) (k % 7) 0) = zkf wk (k + 1) := by
  show va_up (va_up (off wk (k / 7)) (k / 7) (mxw (wk (k / 7)) 0 (k % 7))) (k / 7) (wset (va_up (off wk (k / 7)) (k / 7) (mxw (wk (k / 7)) 0 (k % 7)) (k / 7)) (k % 7) 0) = _
  rw [vu_s, vu_vu]
  have e : wset (mxw (wk (k / 7)) 0 (k % 7)) (k % 7) 0 = mxw (wk (k / 7)) 0 (k % 7 + 1) := by
    show _ = wset _ _ (ent 0 (k % 7))
    rw [ent_0]
  rw [e]
  by_cases h : k % 7 = 6
  · rw [h, mxw_7 (hw _) (by decide)]
    show va_up (upn wk (fun _ => 0) (k / 7)) (k / 7) ((fun _ => 0) (k / 7)) = va_up (off wk ((k + 1) / 7)) ((k + 1) / 7) (mxw (wk ((k + 1) / 7)) 0 ((k + 1) % 7))
    rw [upn_s, show (k + 1) / 7 = k / 7 + 1 by omega, show (k + 1) % 7 = 0 by omega]
    show off wk (k / 7 + 1) = va_up (off wk (k / 7 + 1)) (k / 7 + 1) (wk (k / 7 + 1))
    have e2 : off wk (k / 7 + 1) (k / 7 + 1) = wk (k / 7 + 1) := upn_at
    rw [← e2, vu_id]
  · show _ = va_up (off wk ((k + 1) / 7)) ((k + 1) / 7) (mxw (wk ((k + 1) / 7)) 0 ((k + 1) % 7))
    rw [show (k + 1) / 7 = k / 7 by omega, show (k + 1) % 7 = k % 7 + 1 by omega]
theorem zkf_56 {wk : Nat → Nat} {n : Nat} (hn : n ≤ 8) (hz : ∀ k, n ≤ k → wk k = 0) : zkf wk 56 = fun _ => 0 := by
  show va_up (off wk 8) 8 (wk 8) = _
  have e2 : off wk 8 8 = wk 8 := upn_at
  rw [← e2, vu_id]
  funext k
  show (if k < 8 then 0 else wk k) = 0
  split
  · rfl
  · exact hz k (by omega)
theorem off_n {wk : Nat → Nat} {n : Nat} (hz : ∀ k, n ≤ k → wk k = 0) : off wk n = fun _ => 0 := by
  funext k
  show (if k < n then 0 else wk k) = 0
  split
  · rfl
  · exact hz k (by omega)
theorem bne_x {x : Nat} : (x != x) = false := by simp
theorem rst_2 {C : (Nat → Nat) → Nat → Nat} {wk : Nat → Nat} {p : Nat} : (rst C wk (p + 1)).2 = ((rst C wk p).2 || C (rst C wk p).1 p != (rst C wk p).1 p) := rfl
/-- what closing makes of a person -/
abbrev clG (wk da : Nat → Nat) : Nat → Nat := fun k => rnb (wk k) (da k) 7
abbrev clL (wk : Nat → Nat) : Nat → Nat := fun k => ent (wk k) 6
abbrev clE (wk we : Nat → Nat) : Nat → Nat := fun k => we k + shc (wk k) 5 2
theorem wf_close {n bd fb rn : Nat} {nd sk mo wk fx wi la da we : Nat → Nat} (h : wfC n bd fb rn nd sk mo wk fx wi la da we) (hb : bd + 1 < 4096) (a b : Nat) : wfC n (bd + 1) fb rn nd sk mo (upn wk (fun _ => 0) a) (upn fx (fun _ => 0) b) (upn wi (fun _ => 0) b) (upn la (clL wk) b) (upn da (clG wk da) b) (upn we (clE wk we) b) := by
  obtain ⟨h1, h2, h3, h4, h5, h6⟩ := h
  refine ⟨h1, hb, h3, h4, h5, fun k => ?_⟩
  have q := h6 k
  have q1 := rnb_le (wk k) (da k) 7
  have q2 := shc_le (wk k) 5 2
  have q3 := ent_lt (wk k) 6
  refine ⟨q.1, q.2.1, upn_all (P := fun z => z < 16384) (fun k => (h6 k).2.2.1) (fun _ => by decide) k, upn_all (P := fun z => z < 2 ^ 28) (fun k => (h6 k).2.2.2.1) (fun _ => by decide) k, upn_all (P := fun z => z < 128) (fun k => (h6 k).2.2.2.2.1) (fun _ => by decide) k, upn_all (P := fun z => z < 4) (fun k => (h6 k).2.2.2.2.2.1) (fun k => ent_lt _ _) k, ?_, ?_⟩
  · exact upn_all (P := fun z => z ≤ 7 * (bd + 1)) (fun k => by have := h6 k; omega) (fun k => by have := h6 k; have := rnb_le (wk k) (da k) 7; show rnb (wk k) (da k) 7 ≤ _; omega) k
  · exact upn_all (P := fun z => z ≤ 2 * (bd + 1)) (fun k => by have := h6 k; omega) (fun k => by have := h6 k; have := shc_le (wk k) 5 2; show we k + shc (wk k) 5 2 ≤ _; omega) k
theorem rnb_y {w da d : Nat} (h : 0 < ent w d) : rnb w da d + 1 = rnb w da (d + 1) := by show _ = if ent w d = 0 then 0 else rnb w da d + 1; rw [if_neg (by omega)]
theorem rnb_z {w da d : Nat} (h : ent w d = 0) : 0 = rnb w da (d + 1) := by show _ = if ent w d = 0 then 0 else rnb w da d + 1; rw [if_pos h]
theorem irem_I {a d : Nat} (ha : a < 2 ^ 31) (h0 : 0 < d) (hd : d < 2 ^ 31) : nI a - nI a / nI d * nI d = nI (a % d) := pk_rem ha h0 hd
theorem ncl_s {x d : Nat} : nset (ncl x d) d 0 = ncl x (d + 1) := rfl
section SXV
variable {p : Program} {l : Launch} {e : Env} {R : Room} {s : State} {m : MethodId} {args : Array Value} {below : List Frame} {meth : Method} {c : Code} {H : Heap} {locs : List Loc} {cells slots : Nat} {Q : State → Prop}
variable {cc bytes : ByteArray} {nL maxL n index : Nat} {Ts ws ws' : List Cond} {own : String} {pc : Nat} {ls : Array Slot} {st rest As : List Value} {ret : Option FieldType} {rm : Room} {D : va_G} {tys : List (ClassId × FieldType)} {wc : va_W} {lv : List (Nat × Value)}
theorem n_div (S : CallFix p m c cc nL s args Ts own) {a b : Nat} (h : a < 2 ^ 31 ∧ 0 < b ∧ b < 2 ^ 31) (d : decode cc pc = .ok (.idiv, 1)) (k : W p l e R s m args below meth c H locs cells slots Q (F0 m (pc + 1) ls (.int (nI (a / b)) :: rest))) : W p l e R s m args below meth c H locs cells slots Q (F0 m pc ls (.int (nI b) :: .int (nI a) :: rest)) :=
  lv_idiv S.1 S.2.1 d (fun q => by have := (nI_eq h.2.2 (by decide : 0 < 2 ^ 31)).mp q; omega) (by rw [pk_div h.1 h.2.1 h.2.2]; exact k)
theorem n_rem (S : CallFix p m c cc nL s args Ts own) {a b : Nat} (h : a < 2 ^ 31 ∧ 0 < b ∧ b < 2 ^ 31) (d : decode cc pc = .ok (.irem, 1)) (k : W p l e R s m args below meth c H locs cells slots Q (F0 m (pc + 1) ls (.int (nI (a % b)) :: rest))) : W p l e R s m args below meth c H locs cells slots Q (F0 m pc ls (.int (nI b) :: .int (nI a) :: rest)) :=
  lv_irem S.1 S.2.1 d (fun q => by have := (nI_eq h.2.2 (by decide : 0 < 2 ^ 31)).mp q; omega) (by rw [pk_rem h.1 h.2.1 h.2.2]; exact k)
end SXV
