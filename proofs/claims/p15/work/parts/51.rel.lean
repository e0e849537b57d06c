/-! the class's memory beside the reference's: what is alike, and that every call keeps it -/
theorem lp2b {S S2 : Type} {f : Nat → S → S} {g : Nat → S2 → S2} {N : Nat} (R : Nat → S → S2 → Prop) (hs : ∀ a t u, a < N → R a t u → R (a + 1) (f a t) (g a u)) : ∀ (n a : Nat) (t : S) (u : S2), a + n ≤ N → R a t u → R (a + n) (lp f n a t) (lp g n a u) := by
  intro n
  induction n with
  | zero => intro a t u _ h; exact h
  | succ n ih =>
    intro a t u hN h
    have := ih (a + 1) _ _ (by omega) (hs a t u (by omega) h)
    rw [show a + (n + 1) = a + 1 + n by omega]
    exact this
/-- the class's memory but for THE OUTBOX and the bundles -/
def EQC (t t2 : Mem) : Prop := (∀ k j, ¬ (k = 14 ∨ k = 15 ∨ k = 16 ∨ k = 28 ∨ k = 29 ∨ (1004 ≤ k ∧ k ≤ 1007)) → gI t2 k j = gI t k j) ∧ ∀ k j, gD t2 k j = gD t k j
def EQM (u u2 : Mem) : Prop := (∀ k j, ¬ (k = 4 ∨ 1020 ≤ k) → gI u2 k j = gI u k j) ∧ ∀ k j, gD u2 k j = gD u k j
theorem EQC.rf {t : Mem} : EQC t t := ⟨fun _ _ _ => rfl, fun _ _ => rfl⟩
theorem EQM.rf {u : Mem} : EQM u u := ⟨fun _ _ _ => rfl, fun _ _ => rfl⟩
theorem EQC.tr {a b c : Mem} (h : EQC a b) (g : EQC b c) : EQC a c := ⟨fun k j hk => (g.1 k j hk).trans (h.1 k j hk), fun k j => (g.2 k j).trans (h.2 k j)⟩
theorem EQM.tr {a b c : Mem} (h : EQM a b) (g : EQM b c) : EQM a c := ⟨fun k j hk => (g.1 k j hk).trans (h.1 k j hk), fun k j => (g.2 k j).trans (h.2 k j)⟩
theorem EQC_p {t : Mem} {k0 j0 : Nat} {v : Int32} (h : k0 = 14 ∨ k0 = 15 ∨ k0 = 16 ∨ k0 = 28 ∨ k0 = 29 ∨ (1004 ≤ k0 ∧ k0 ≤ 1007)) : EQC t (pI t k0 j0 v) := ⟨fun k j hk => by rw [gI_pI, if_neg (by omega)], fun _ _ => rfl⟩
theorem EQM_p {u : Mem} {k0 j0 : Nat} {v : Int32} (h : k0 = 4 ∨ 1020 ≤ k0) : EQM u (pI u k0 j0 v) := ⟨fun k j hk => by rw [gI_pI, if_neg (by omega)], fun _ _ => rfl⟩
theorem EQC_add {t : Mem} {a x s n : Int32} : EQC t (O_add t a x s n) := by
  unfold O_add
  split
  · exact (((((EQC_p (by omega)).tr (EQC_p (by omega))).tr (EQC_p (by omega))).tr (EQC_p (by omega))).tr (EQC_p (by omega))).tr (EQC_p (by omega))
  · exact EQC_p (by omega)
theorem EQM_send {u : Mem} {a x s n : Int32} : EQM u (mSend u a x s n) := by
  unfold mSend
  split
  · exact EQM_p (by omega)
  · exact ((((EQM_p (by omega)).tr (EQM_p (by omega))).tr (EQM_p (by omega))).tr (EQM_p (by omega))).tr (EQM_p (by omega))
theorem EQC_tell {t : Mem} {l : Nat} {p : Int32} : EQC t (L_tell t l p) := lp_inv (EQC t) (fun a t2 h => by unfold tellF; split; exact h; exact h.tr EQC_add) _ _ _ EQC.rf
theorem EQC_send {t : Mem} {l : Nat} : EQC t (L_send t l) := ((lp_inv (EQC t) (fun a t2 h => by unfold sendF; split; exact h; exact h.tr EQC_add) _ _ _ EQC.rf).tr (EQC_p (by omega))).tr (EQC_p (by omega))
theorem EQC_addB {t : Mem} {l : Nat} {z d : Int32} : EQC t (L_addB t l z d) := by
  unfold L_addB
  split
  · exact ((EQC_p (by omega)).tr (EQC_p (by omega))).tr (EQC_p (by omega))
  · exact (EQC_p (by omega)).tr (EQC_p (by omega))
theorem EQC_delA {t : Mem} {l r : Nat} {p : Int32} {a : Nat} : EQC t (delA l r p a t) := by
  unfold delA
  split
  · exact EQC.rf
  · split
    · exact EQC.rf
    · exact EQC_add
theorem EQC_deliver {t : Mem} {l r : Nat} {p d : Int32} : EQC t (L_deliver t l r p d) := by
  have h1 : EQC t (lp (delF l r p) 12 0 (t, 0)).1 := lp_inv (fun z : Mem × Int32 => EQC t z.1) (fun a z h => by unfold delF; exact h.tr EQC_delA) 12 0 (t, 0) EQC.rf
  unfold L_deliver delC
  have h2 : EQC t (delB (lp (delF l r p) 12 0 (t, 0)) l r d) := by
    unfold delB
    split
    · exact h1
    · exact h1.tr EQC_addB
  split
  · exact h2
  · exact h2.tr EQC_send
theorem EQM_dig {u : Mem} {l : Nat} {x : Int32} : EQM u (mDig u l x) := (lp_inv (EQM u) (fun a u2 h => by unfold mDigF; split; exact h; exact h.tr EQM_send) _ _ _ EQM.rf).tr (EQM_p (by omega))
theorem EQM_pasA {u : Mem} {l r : Nat} {p x : Int32} {a : Nat} : EQM u (mPasA l r p x a u) := by
  unfold mPasA
  split
  · exact EQM.rf
  · split
    · exact EQM.rf
    · exact EQM_send
theorem EQM_pasL {u : Mem} {l r : Nat} {p x : Int32} {z : Int32} : EQM u (lp (mPasF l r p x) 12 0 (u, z)).1 := lp_inv (fun y : Mem × Int32 => EQM u y.1) (fun a y h => by unfold mPasF; exact h.tr EQM_pasA) 12 0 (u, z) EQM.rf
theorem EQM_pasT {u : Mem} {l r b : Nat} : EQM u (mPasT u l r b) := ((EQM_p (by omega)).tr (EQM_p (by omega))).tr (EQM_p (by omega))
theorem EQM_pass {u : Mem} {r : Nat} {p : Int32} : EQM u (mPass u r p) := by
  unfold mPass
  split
  · exact EQM_pasL
  · unfold mPasB
    split
    · exact EQM_pasL.tr EQM_pasT
    · exact (EQM_pasL.tr EQM_pasT).tr EQM_dig
theorem EQM_tell {u : Mem} {l : Nat} {x p : Int32} : EQM u (lp (mPoF l x p) 12 0 u) := lp_inv (EQM u) (fun a u2 h => by
  unfold mPoF
  split
  · exact h
  · split
    · exact h
    · exact h.tr EQM_send) _ _ _ EQM.rf
/-- a subscription's row -/
def RS (t u : Mem) (j : Nat) : Prop := gI t 0 j = gI u 1001 j ∧ gI t 1 j = gI u 1002 j ∧ gI t 2 j = gI u 1004 j ∧ gI t 3 j = gI u 1003 j ∧ gI t 5 j = gI u 1006 j ∧ gD t 0 j = gD u 1009 j ∧ (gI t 0 j = -1 ∨ gI t 0 j = 0 ∨ gI t 0 j = 1 ∨ gI t 0 j = 2) ∧ (¬ gI t 0 j = -1 → gI t 6 j = gI u 1007 j) ∧ (gI t 0 j = -1 → gI t 6 j = 0) ∧ (gI t 0 j = 2 → gI t 4 j = gI u 1005 j ∧ (gI t 4 j = 1 ∨ gI t 4 j = 2 ∨ gI t 4 j = 3)) ∧ (gI t 0 j = 0 ∨ gI t 0 j = 1 → gI t 4 j = 0)
def RL (t u : Mem) (l : Nat) : Prop := gI t 10 l = gI u 1010 l ∧ gI t 11 l = gI u 1011 l ∧ gI t 12 l = gI u 1013 l ∧ gI t 13 l = gI u 1014 l ∧ gD t 1 l = gD u 1015 l ∧ (∀ a, a < 12 → gI t (1014 + l) a = gI u 1008 (12 * l + a)) ∧ ∀ r, r < 10 → gI t (1017 + l) r = gI u 1012 (10 * l + r)
def RP (t u : Mem) (p : Nat) : Prop := gI t 20 p = gI u 1016 p ∧ gI t 21 p = gI u 1017 p ∧ gI t 22 p = gI u 1018 p ∧ gI t 23 p = gI u 1019 p
def REL (t u : Mem) : Prop := (∀ j, j < 36 → RS t u j) ∧ (∀ l, l < 3 → RL t u l) ∧ (∀ p, p < 40 → RP t u p) ∧ gI t 30 0 = gI u 3 0 ∧ gI t 31 0 = gI u 2 0 ∧ gI t 32 0 = gI u 1 0
theorem RS_c {t u t2 u2 : Mem} {j : Nat} (h : RS t u j) (hc : ∀ k, k ≤ 6 → gI t2 k j = gI t k j) (hd : gD t2 0 j = gD t 0 j) (hm : ∀ k, 1001 ≤ k → k ≤ 1007 → gI u2 k j = gI u k j) (hmd : gD u2 1009 j = gD u 1009 j) : RS t2 u2 j := by
  unfold RS
  rw [hc 0 (by omega), hc 1 (by omega), hc 2 (by omega), hc 3 (by omega), hc 4 (by omega), hc 5 (by omega), hc 6 (by omega), hd, hmd, hm 1001 (by omega) (by omega), hm 1002 (by omega) (by omega), hm 1003 (by omega) (by omega), hm 1004 (by omega) (by omega), hm 1005 (by omega) (by omega), hm 1006 (by omega) (by omega), hm 1007 (by omega) (by omega)]
  exact h
theorem RL_c {t u t2 u2 : Mem} {l : Nat} (h : RL t u l) (hc : ∀ k, 10 ≤ k → k ≤ 13 → gI t2 k l = gI t k l) (hd : gD t2 1 l = gD t 1 l) (hb : ∀ k a, 1014 ≤ k → gI t2 k a = gI t k a) (hm : ∀ k j, 1008 ≤ k → k ≤ 1014 → gI u2 k j = gI u k j) (hmd : gD u2 1015 l = gD u 1015 l) : RL t2 u2 l := by
  unfold RL
  rw [hc 10 (by omega) (by omega), hc 11 (by omega) (by omega), hc 12 (by omega) (by omega), hc 13 (by omega) (by omega), hd, hmd, hm 1010 l (by omega) (by omega), hm 1011 l (by omega) (by omega), hm 1013 l (by omega) (by omega), hm 1014 l (by omega) (by omega)]
  obtain ⟨h1, h2, h3, h4, h5, h6, h7⟩ := h
  exact ⟨h1, h2, h3, h4, h5, fun a ha => by rw [hb _ a (by omega), hm 1008 _ (by omega) (by omega)]; exact h6 a ha, fun r hr => by rw [hb _ r (by omega), hm 1012 _ (by omega) (by omega)]; exact h7 r hr⟩
theorem RP_c {t u t2 u2 : Mem} {p : Nat} (h : RP t u p) (hc : ∀ k, 20 ≤ k → k ≤ 23 → gI t2 k p = gI t k p) (hm : ∀ k, 1016 ≤ k → k ≤ 1019 → gI u2 k p = gI u k p) : RP t2 u2 p := by
  unfold RP
  rw [hc 20 (by omega) (by omega), hc 21 (by omega) (by omega), hc 22 (by omega) (by omega), hc 23 (by omega) (by omega), hm 1016 (by omega) (by omega), hm 1017 (by omega) (by omega), hm 1018 (by omega) (by omega), hm 1019 (by omega) (by omega)]
  exact h
/-- a change of one subscription's row, of THE OUTBOX and of the bundles -/
theorem REL_sub {t u t2 u2 : Mem} {j0 : Nat} (h : REL t u) (hc : ∀ k j, ¬ (k = 14 ∨ k = 15 ∨ k = 16 ∨ k = 28 ∨ k = 29 ∨ (1004 ≤ k ∧ k ≤ 1007) ∨ (k ≤ 6 ∧ j = j0)) → gI t2 k j = gI t k j) (hd : ∀ k j, ¬ (k = 0 ∧ j = j0) → gD t2 k j = gD t k j) (hm : ∀ k j, ¬ (k = 0 ∨ k = 4 ∨ 1020 ≤ k ∨ (1001 ≤ k ∧ k ≤ 1007 ∧ j = j0)) → gI u2 k j = gI u k j) (hmd : ∀ k j, ¬ (k = 1009 ∧ j = j0) → gD u2 k j = gD u k j) (hj : j0 < 36 → RS t2 u2 j0) : REL t2 u2 := by
  obtain ⟨h1, h2, h3, h4, h5, h6⟩ := h
  refine ⟨fun j hj2 => ?_, fun l hl => ?_, fun p hp => ?_, ?_, ?_, ?_⟩
  · by_cases e : j = j0
    · subst e
      exact hj hj2
    · exact RS_c (h1 j hj2) (fun k hk => hc k j (by omega)) (hd 0 j (by omega)) (fun k k1 k2 => hm k j (by omega)) (hmd 1009 j (by omega))
  · exact RL_c (h2 l hl) (fun k k1 k2 => hc k l (by omega)) (hd 1 l (by omega)) (fun k a k1 => hc k a (by omega)) (fun k j k1 k2 => hm k j (by omega)) (hmd 1015 l (by omega))
  · exact RP_c (h3 p hp) (fun k k1 k2 => hc k p (by omega)) (fun k k1 k2 => hm k p (by omega))
  · rw [hc 30 0 (by omega), hm 3 0 (by omega)]; exact h4
  · rw [hc 31 0 (by omega), hm 2 0 (by omega)]; exact h5
  · rw [hc 32 0 (by omega), hm 1 0 (by omega)]; exact h6
theorem REL_eq {t u t2 u2 : Mem} (h : REL t u) (hc : EQC t t2) (hm : EQM u u2) : REL t2 u2 := REL_sub (j0 := 36) h (fun k j hk => hc.1 k j (by omega)) (fun k j _ => hc.2 k j) (fun k j hk => hm.1 k j (by omega)) (fun k j _ => hm.2 k j) (fun q => absurd q (by omega))
theorem REL_th {t u : Mem} {v : Int32} (h : REL t u) : REL t (pI u 0 0 v) := REL_sub (j0 := 36) h (fun _ _ _ => rfl) (fun _ _ _ => rfl) (fun k j hk => by rw [gI_pI, if_neg (by omega)]) (fun _ _ _ => rfl) (fun q => absurd q (by omega))
theorem jj_of {x a : Int32} (h : ¬ plz x a = 0) : ∃ l a0, l < 3 ∧ a0 < 12 ∧ x = nI l ∧ a = nI a0 ∧ cl x = l ∧ cl a = a0 ∧ jj x a = 12 * l + a0 := by
  obtain ⟨l, hl, e1, a0, ha, e2⟩ := PL_of h
  have c1 : cl x = l := cl_of e1 (by omega)
  have c2 : cl a = a0 := cl_of e2 (by omega)
  exact ⟨l, a0, hl, ha, e1, e2, c1, c2, by rw [jj, c1, c2]⟩
theorem A_leave {t u : Mem} (h : REL t u) {x a : Int32} {n : Nat} {r : Int32} {t2 : Mem} {r2 : Int32} {u2 : Mem} (h1 : leaveR t x a = (n, r, t2)) (h2 : mLeave u x a = (r2, u2)) : REL t2 u2 ∧ gI u2 0 0 = nI n ∧ (n = 0 → r = r2) := by
  by_cases c1 : plz x a = 0
  · rw [leaveR, if_pos c1] at h1
    rw [mLeave, if_pos c1] at h2
    cases h1; cases h2
    exact ⟨REL_th h, rfl, fun q => absurd q (by decide)⟩
  · obtain ⟨l, a0, hl, ha, -, -, -, -, hj⟩ := jj_of c1
    have hs := h.1 (jj x a) (by omega)
    rw [leaveR, if_neg c1] at h1
    rw [mLeave, if_neg c1, ← hs.1] at h2
    by_cases c2 : gI t 0 (jj x a) = -1
    · rw [if_pos c2] at h1 h2
      cases h1; cases h2
      exact ⟨REL_th h, rfl, fun q => absurd q (by decide)⟩
    · rw [if_neg c2] at h1 h2
      cases h1; cases h2
      refine ⟨REL_sub (j0 := jj x a) h (fun k j hk => ?_) (fun _ _ _ => rfl) (fun k j hk => ?_) (fun _ _ _ => rfl) (fun _ => ?_), rfl, fun _ => rfl⟩
      · simp only [S_end, gI_pI]; rw [if_neg (by omega), if_neg (by omega)]
      · simp only [gI_pI]; rw [if_neg (by omega), if_neg (by omega)]
      · obtain ⟨s1, s2, s3, s4, s5, s6, s7, s8, s9, s10, s11⟩ := hs
        simp [RS, S_end, gI_pI, gI_pD, gD_pI, gD_pD, s2, s3, s4, s5, s6]
theorem A_way {t u : Mem} (h : REL t u) {x a w : Int32} {n : Nat} {r : Int32} {t2 : Mem} {r2 : Int32} {u2 : Mem} (h1 : wayR t x a w = (n, r, t2)) (h2 : mWay u x a w = (r2, u2)) : REL t2 u2 ∧ gI u2 0 0 = nI n ∧ (n = 0 → r = r2) := by
  by_cases c0 : isW w 0 2 = 0
  · rw [wayR, if_pos c0] at h1
    rw [mWay, if_pos c0, ite_self] at h2
    cases h1; cases h2
    exact ⟨REL_th h, rfl, fun q => absurd q (by decide)⟩
  · rw [wayR, if_neg c0] at h1
    rw [mWay, if_neg c0] at h2
    by_cases c1 : plz x a = 0
    · rw [if_pos c1] at h1 h2
      cases h1; cases h2
      exact ⟨REL_th h, rfl, fun q => absurd q (by decide)⟩
    · obtain ⟨l, a0, hl, ha, -, -, -, -, hj⟩ := jj_of c1
      have hs := h.1 (jj x a) (by omega)
      rw [if_neg c1] at h1 h2
      rw [← hs.1] at h2
      by_cases c2 : gI t 0 (jj x a) = -1
      · rw [if_pos c2] at h1 h2
        cases h1; cases h2
        exact ⟨REL_th h, rfl, fun q => absurd q (by decide)⟩
      · rw [if_neg c2] at h1 h2
        cases h1; cases h2
        refine ⟨REL_sub (j0 := jj x a) h (fun k j hk => ?_) (fun _ _ _ => rfl) (fun k j hk => ?_) (fun _ _ _ => rfl) (fun _ => ?_), rfl, fun _ => hs.2.1⟩
        · simp only [gI_pI]; rw [if_neg (by omega)]
        · simp only [gI_pI]; rw [if_neg (by omega), if_neg (by omega)]
        · obtain ⟨s1, s2, s3, s4, s5, s6, s7, s8, s9, s10, s11⟩ := hs
          simp only [RS, gI_pI, gI_pD, gD_pI, gD_pD]
          simp
          exact ⟨s1, s3, s4, s5, s6, s7, s8, s9, s10, s11⟩
theorem A_moderator {t u : Mem} (h : REL t u) {x a v : Int32} {n : Nat} {r : Int32} {t2 : Mem} {r2 : Int32} {u2 : Mem} (h1 : modR t x a v = (n, r, t2)) (h2 : mMod u x a v = (r2, u2)) : REL t2 u2 ∧ gI u2 0 0 = nI n ∧ (n = 0 → r = r2) := by
  by_cases c1 : plz x a = 0
  · rw [modR, if_pos c1] at h1
    rw [mMod, if_pos c1] at h2
    cases h1; cases h2
    exact ⟨REL_th h, rfl, fun q => absurd q (by decide)⟩
  · obtain ⟨l, a0, hl, ha, -, -, -, -, hj⟩ := jj_of c1
    have hs := h.1 (jj x a) (by omega)
    rw [modR, if_neg c1] at h1
    rw [mMod, if_neg c1, ← hs.1] at h2
    by_cases c2 : gI t 0 (jj x a) = -1
    · rw [if_pos c2] at h1 h2
      cases h1; cases h2
      exact ⟨REL_th h, rfl, fun q => absurd q (by decide)⟩
    · rw [if_neg c2] at h1 h2
      by_cases c3 : gI t 0 (jj x a) = 0
      · rw [if_pos c3] at h1 h2
        cases h1; cases h2
        exact ⟨REL_th h, rfl, fun q => absurd q (by decide)⟩
      · rw [if_neg c3] at h1 h2
        cases h1; cases h2
        refine ⟨REL_sub (j0 := jj x a) h (fun k j hk => ?_) (fun _ _ _ => rfl) (fun k j hk => ?_) (fun _ _ _ => rfl) (fun _ => ?_), rfl, fun _ => hs.2.2.2.2.2.2.2.1 c2⟩
        · simp only [gI_pI]; rw [if_neg (by omega)]
        · simp only [gI_pI]; rw [if_neg (by omega), if_neg (by omega)]
        · obtain ⟨s1, s2, s3, s4, s5, s6, s7, s8, s9, s10, s11⟩ := hs
          simp only [RS, gI_pI, gI_pD, gD_pI, gD_pD]
          simp
          exact ⟨s1, s2, s3, s4, s5, s6, s7, fun q => absurd q c2, s10, s11⟩
