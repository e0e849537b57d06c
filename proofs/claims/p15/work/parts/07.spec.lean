/-! loops, and what always holds of the class's memory -/
def lp {S : Type} (f : Nat → S → S) : Nat → Nat → S → S
  | 0, _, t => t
  | n + 1, a, t => lp f n (a + 1) (f a t)
theorem lp_step {S : Type} {f : Nat → S → S} {N a : Nat} {t : S} (h : a < N) : lp f (N - a) a t = lp f (N - (a + 1)) (a + 1) (f a t) := by
  rw [show N - a = (N - (a + 1)) + 1 by omega]
  rfl
theorem lp_next {S : Type} {f : Nat → S → S} {N a : Nat} {t t2 z : S} (h : a < N) (hF : lp f (N - a) a t = z) (hs : f a t = t2) : lp f (N - (a + 1)) (a + 1) t2 = z := by
  rw [← hF, lp_step h, hs]
theorem lp_end {S : Type} {f : Nat → S → S} {N : Nat} {t z : S} (hF : lp f (N - N) N t = z) : t = z := by
  rw [Nat.sub_self] at hF
  exact hF
theorem lp_inv {S : Type} {f : Nat → S → S} (P : S → Prop) (hf : ∀ a t, P t → P (f a t)) : ∀ (n a : Nat) (t : S), P t → P (lp f n a t) := by
  intro n
  induction n with
  | zero => intro a t h; exact h
  | succ n ih => intro a t h; exact ih _ _ (hf a t h)
theorem nI_lt_of {N a : Nat} {x : Int32} (hx : x = nI N) (ha : a ≤ N) (h : ¬ x ≤ nI a) : a < N := by
  rcases Nat.lt_or_ge a N with q | q
  · exact q
  · have e : a = N := by omega
    subst e
    exact absurd (by rw [hx]; exact Int32.le_refl _) h
theorem nI_eq_of {N a : Nat} {x : Int32} (hx : x = nI N) (hN : N < 2 ^ 31) (ha : a ≤ N) (h : x ≤ nI a) : a = N := by
  rcases Nat.lt_or_ge a N with q | q
  · exact absurd (by rw [← hx]; exact h) (nI_ge q hN)
  · omega
def b01 (v : Int32) : Prop := v = 0 ∨ v = 1
theorem b01_0 : b01 0 := Or.inl rfl
theorem b01_1 : b01 1 := Or.inr rfl
theorem b01_nar {v : Int32} (h : b01 v) : narrow .boolean (.int v) = .int v := by rcases h with rfl | rfl <;> rfl
def OKX (t : Mem) : Prop := (∀ j, b01 (gI t 6 j)) ∧ (∀ j, b01 (gI t 10 j)) ∧ (∀ j, b01 (gI t 11 j)) ∧ (∀ k j, 1014 ≤ k → b01 (gI t k j)) ∧ (∃ k, k ≤ 60 ∧ gI t 28 0 = nI k) ∧ (∃ n, n ≤ 40 ∧ gI t 30 0 = nI n) ∧ (∀ j, ∃ u, u < 3 ∧ gI t 20 j = nI u) ∧ ∀ j, NN (gD t 0 j)
theorem OKX_pI {t : Mem} {k j : Nat} {v : Int32} (h : OKX t) (hb : (k = 6 ∨ k = 10 ∨ k = 11 ∨ 1014 ≤ k) → b01 v) (h28 : k = 28 → ∃ n, n ≤ 60 ∧ v = nI n) (h30 : k = 30 → ∃ n, n ≤ 40 ∧ v = nI n) (h20 : k = 20 → ∃ u, u < 3 ∧ v = nI u) : OKX (pI t k j v) := by
  obtain ⟨h1, h2, h3, h4, h5, h6, h7, h8⟩ := h
  refine ⟨fun i => ?_, fun i => ?_, fun i => ?_, fun k2 i hk => ?_, ?_, ?_, fun i => ?_, fun i => h8 i⟩
  · rw [gI_pI]; split
    · exact hb (by omega)
    · exact h1 i
  · rw [gI_pI]; split
    · exact hb (by omega)
    · exact h2 i
  · rw [gI_pI]; split
    · exact hb (by omega)
    · exact h3 i
  · rw [gI_pI]; split
    · exact hb (by omega)
    · exact h4 k2 i hk
  · rw [gI_pI]; split
    · exact h28 (by omega)
    · exact h5
  · rw [gI_pI]; split
    · exact h30 (by omega)
    · exact h6
  · rw [gI_pI]; split
    · exact h20 (by omega)
    · exact h7 i
theorem OKX_f {t : Mem} {k j : Nat} {v : Int32} (h : OKX t) (hc : k < 1014 ∧ k ≠ 6 ∧ k ≠ 10 ∧ k ≠ 11 ∧ k ≠ 28 ∧ k ≠ 30 ∧ k ≠ 20) : OKX (pI t k j v) := OKX_pI h (fun q => absurd q (by omega)) (fun q => absurd q (by omega)) (fun q => absurd q (by omega)) (fun q => absurd q (by omega))
theorem OKX_b {t : Mem} {k j : Nat} {v : Int32} (h : OKX t) (hv : b01 v) (hc : k ≠ 28 ∧ k ≠ 30 ∧ k ≠ 20) : OKX (pI t k j v) := OKX_pI h (fun _ => hv) (fun q => absurd q (by omega)) (fun q => absurd q (by omega)) (fun q => absurd q (by omega))
theorem OKX_pD {t : Mem} {k j : Nat} {v : UInt64} (h : OKX t) (hv : k = 0 → NN v) : OKX (pD t k j v) := by
  obtain ⟨h1, h2, h3, h4, h5, h6, h7, h8⟩ := h
  refine ⟨h1, h2, h3, h4, h5, h6, h7, fun i => ?_⟩
  rw [gD_pD]; split
  · exact hv (by omega)
  · exact h8 i
theorem OKX_kept {t : Mem} (h : OKX t) : ∃ k, k ≤ 60 ∧ gI t 28 0 = nI k := h.2.2.2.2.1
theorem OKX_NN {t : Mem} (h : OKX t) (j : Nat) : NN (gD t 0 j) := h.2.2.2.2.2.2.2 j
/-! what the class's methods do to its memory -/
def S_begin (t : Mem) (u : Nat) (w c d : Int32) : Mem := pD (pI (pI (pI (pI (pI (pI t 0 u 0) 1 u w) 2 u c) 3 u d) 4 u 0) 5 u (-1)) 0 u FP.dconst0
def S_becomeLive (t : Mem) (u : Nat) (d : Int32) : Mem := pD (pI (pI (pI t 0 u 1) 3 u d) 4 u 0) 0 u FP.dconst0
def S_stop (t : Mem) (u : Nat) (d : Int32) : Mem := pI (pI (pI t 0 u 2) 3 u d) 4 u 1
def S_end (t : Mem) (u : Nat) : Mem := pI (pI t 0 u (-1)) 6 u 0
def S_takes (t : Mem) (u : Nat) (w : Int32) : Int32 := if gI t 0 u = 1 then (if gI t 1 u = w then 1 else 0) else 0
def fadeD (x : UInt64) : UInt64 := if 0 ≤ Op.cmpValue (FP.dcmp (FP.dmul x 4606056518893174784) 4598175219545276416) .g then FP.dmul x 4606056518893174784 else FP.dconst0
def S_fade (t : Mem) (u : Nat) (d : Int32) : Mem := if gI t 5 u = d - 1 then t else pD t 0 u (fadeD (gD t 0 u))
def P_comeIn (t : Mem) (u : Nat) (x a z : Int32) : Mem := pI (pI (pI (pI t 20 u x) 21 u a) 22 u z) 23 u 0
def O_add (t : Mem) (a x s n : Int32) : Mem := if (gI t 28 0).toNatClampNeg < 60 then pI (pI (pI (pI (pI (pI t 29 0 (gI t 29 0 + 1)) 1004 (gI t 28 0).toNatClampNeg a) 1005 (gI t 28 0).toNatClampNeg x) 1006 (gI t 28 0).toNatClampNeg s) 1007 (gI t 28 0).toNatClampNeg n) 28 0 (gI t 28 0 + 1) else pI t 29 0 (gI t 29 0 + 1)
theorem OKX_begin {t : Mem} {u : Nat} {w c d : Int32} (h : OKX t) : OKX (S_begin t u w c d) := OKX_pD (OKX_f (OKX_f (OKX_f (OKX_f (OKX_f (OKX_f h (by decide)) (by decide)) (by decide)) (by decide)) (by decide)) (by decide)) (fun _ => NN_0)
theorem OKX_live {t : Mem} {u : Nat} {d : Int32} (h : OKX t) : OKX (S_becomeLive t u d) := OKX_pD (OKX_f (OKX_f (OKX_f h (by decide)) (by decide)) (by decide)) (fun _ => NN_0)
theorem OKX_stop {t : Mem} {u : Nat} {d : Int32} (h : OKX t) : OKX (S_stop t u d) := OKX_f (OKX_f (OKX_f h (by decide)) (by decide)) (by decide)
theorem OKX_end {t : Mem} {u : Nat} (h : OKX t) : OKX (S_end t u) := OKX_b (OKX_f h (by decide)) b01_0 (by decide)
theorem NN_fade {x : UInt64} (h : NN x) : NN (fadeD x) := by
  unfold fadeD
  split
  · exact NN_875 h
  · exact NN_0
theorem OKX_fade {t : Mem} {u : Nat} {d : Int32} (h : OKX t) : OKX (S_fade t u d) := by
  unfold S_fade
  split
  · exact h
  · exact OKX_pD h (fun _ => NN_fade (OKX_NN h u))
theorem OKX_comeIn {t : Mem} {u : Nat} {x a z : Int32} (h : OKX t) (hx : ∃ u, u < 3 ∧ x = nI u) : OKX (P_comeIn t u x a z) := OKX_f (OKX_f (OKX_f (OKX_pI h (fun q => absurd q (by omega)) (fun q => absurd q (by omega)) (fun q => absurd q (by omega)) (fun _ => hx)) (by decide)) (by decide)) (by decide)
theorem OKX_add {t : Mem} {a x s n : Int32} (h : OKX t) : OKX (O_add t a x s n) := by
  obtain ⟨k, hk, e⟩ := OKX_kept h
  unfold O_add
  split
  · rename_i q
    rw [e, nI_clamp (by omega)] at q
    refine OKX_pI (OKX_f (OKX_f (OKX_f (OKX_f (OKX_f h (by decide)) (by decide)) (by decide)) (by decide)) (by decide)) (fun q => absurd q (by omega)) (fun _ => ⟨k + 1, by omega, ?_⟩) (fun q => absurd q (by omega)) (fun q => absurd q (by omega))
    rw [e, nI_1]
  · exact OKX_f h (by decide)
def bd (x : Int32) : UInt64 := if x = 0 then FP.dconst0 else FP.dconst1
def L_subs (t : Mem) (u : Nat) : Int32 := lp (fun a n => if gI t 0 (12 * u + a) = -1 then n else n + 1) 12 0 0
def L_lives (t : Mem) (u : Nat) : Int32 := lp (fun a n => if gI t 0 (12 * u + a) = 1 then n + 1 else n) 12 0 0
def L_refuses (t : Mem) (u a : Nat) : Int32 := if gI t (1014 + u) a = 0 then (if gI t 0 (12 * u + a) = 1 then 0 else if gI t 10 u = 0 then 1 else 0) else 1
def L_holds (t : Mem) (u a : Nat) (z : Int32) (r : Nat) : Int32 := if gI t 6 (12 * u + a) = 0 then (if gI t 12 u < z then 1 else if gI t (1017 + u) r = 0 then (if gI t 11 u = 0 then 0 else 1) else 1) else 0
def tellF (u : Nat) (p : Int32) (a : Nat) (t : Mem) : Mem := if gI t 6 (12 * u + a) = 0 then t else O_add t (nI a) (nI u) 3 p
def L_tell (t : Mem) (u : Nat) (p : Int32) : Mem := lp (tellF u p) 12 0 t
def sendF (u : Nat) (a : Nat) (t : Mem) : Mem := if S_takes t (12 * u + a) 1 = 0 then t else O_add t (nI a) (nI u) 1 (gI t 14 u)
def L_send (t : Mem) (u : Nat) : Mem := pI (pI (lp (sendF u) 12 0 t) 14 u 0) 15 u 0
def L_addB (t : Mem) (u : Nat) (z d : Int32) : Mem := if gI t 14 u = 0 then pI (pI (pI t 16 u d) 14 u (gI t 14 u + 1)) 15 u (gI t 15 u + z) else pI (pI t 14 u (gI t 14 u + 1)) 15 u (gI t 15 u + z)
def delA (u r : Nat) (p : Int32) (a : Nat) (t : Mem) : Mem := if S_takes t (12 * u + a) 0 = 0 then t else if nI a = gI t 21 r then t else O_add t (nI a) (nI u) 0 p
def delF (u r : Nat) (p : Int32) (a : Nat) (x : Mem × Int32) : Mem × Int32 := (delA u r p a x.1, if x.2 = 0 then (if S_takes (delA u r p a x.1) (12 * u + a) 1 = 0 then 0 else 1) else 1)
def delB (x : Mem × Int32) (u r : Nat) (d : Int32) : Mem := if x.2 = 0 then x.1 else L_addB x.1 u (gI x.1 22 r) d
def delC (t : Mem) (u : Nat) : Mem := if gI t 15 u < gI t 13 u then t else L_send t u
def L_deliver (t : Mem) (u r : Nat) (p d : Int32) : Mem := delC (delB (lp (delF u r p) 12 0 (t, 0)) u r d) u
def L_warn (t : Mem) (u a : Nat) : Mem := if gI t 4 (12 * u + a) < 3 then O_add (pI t 4 (12 * u + a) (gI t 4 (12 * u + a) + 1)) (nI a) (nI u) 5 (gI t 4 (12 * u + a) + 1) else O_add (S_end t (12 * u + a)) (nI a) (nI u) 6 0
def L_dayOf (t : Mem) (u a : Nat) (d : Int32) : Mem := if gI t 0 (12 * u + a) = 1 then S_fade t (12 * u + a) d else if gI t 0 (12 * u + a) = 2 ∧ (d - gI t 3 (12 * u + a)) - (d - gI t 3 (12 * u + a)) / 3 * 3 = 0 then L_warn t u a else if gI t 0 (12 * u + a) = 0 ∧ ¬ (d - gI t 3 (12 * u + a)) < 5 then S_end t (12 * u + a) else t
def L_day (t : Mem) (u : Nat) (d : Int32) : Mem := if ¬ gI (lp (fun a t => L_dayOf t u a d) 12 0 t) 14 u ≤ 0 ∧ ¬ d - gI (lp (fun a t => L_dayOf t u a d) 12 0 t) 16 u ≤ 2 then L_send (lp (fun a t => L_dayOf t u a d) 12 0 t) u else lp (fun a t => L_dayOf t u a d) 12 0 t
theorem OKX_tell {t : Mem} {u : Nat} {p : Int32} (h : OKX t) : OKX (L_tell t u p) := lp_inv OKX (fun a t h => by unfold tellF; split; exact h; exact OKX_add h) _ _ _ h
theorem OKX_send {t : Mem} {u : Nat} (h : OKX t) : OKX (L_send t u) := OKX_f (OKX_f (lp_inv OKX (fun a t h => by unfold sendF; split; exact h; exact OKX_add h) _ _ _ h) (by decide)) (by decide)
theorem OKX_addB {t : Mem} {u : Nat} {z d : Int32} (h : OKX t) : OKX (L_addB t u z d) := by
  unfold L_addB
  split
  · exact OKX_f (OKX_f (OKX_f h (by decide)) (by decide)) (by decide)
  · exact OKX_f (OKX_f h (by decide)) (by decide)
theorem OKX_delA {t : Mem} {u r : Nat} {p : Int32} {a : Nat} (h : OKX t) : OKX (delA u r p a t) := by
  unfold delA
  split
  · exact h
  · split
    · exact h
    · exact OKX_add h
theorem OKX_deliver {t : Mem} {u r : Nat} {p d : Int32} (h : OKX t) : OKX (L_deliver t u r p d) := by
  have h1 : OKX (lp (delF u r p) 12 0 (t, 0)).1 := lp_inv (fun x : Mem × Int32 => OKX x.1) (fun a x h => OKX_delA h) _ _ _ h
  have h2 : OKX (delB (lp (delF u r p) 12 0 (t, 0)) u r d) := by
    unfold delB
    split
    · exact h1
    · exact OKX_addB h1
  unfold L_deliver delC
  split
  · exact h2
  · exact OKX_send h2
theorem OKX_warn {t : Mem} {u a : Nat} (h : OKX t) : OKX (L_warn t u a) := by
  unfold L_warn
  split
  · exact OKX_add (OKX_f h (by decide))
  · exact OKX_add (OKX_end h)
theorem OKX_dayOf {t : Mem} {u a : Nat} {d : Int32} (h : OKX t) : OKX (L_dayOf t u a d) := by
  unfold L_dayOf
  split
  · exact OKX_fade h
  · split
    · exact OKX_warn h
    · split
      · exact OKX_end h
      · exact h
theorem OKX_day {t : Mem} {u : Nat} {d : Int32} (h : OKX t) : OKX (L_day t u d) := by
  have h1 : OKX (lp (fun a t => L_dayOf t u a d) 12 0 t) := lp_inv OKX (fun a t h => OKX_dayOf h) _ _ _ h
  unfold L_day
  split
  · exact OKX_send h1
  · exact h1
