/-- ASKED ones have been asked at most 4 days ago (5, where this day has not come to them) -/
def ASK (d m : Nat) (t : Mem) : Prop := gI t 32 0 = nI d ∧ ∀ j, j < 36 → gI t 0 j = 0 → ∃ s, s ≤ d ∧ d ≤ s + (if j < m then 4 else 5) ∧ gI t 3 j = nI s
theorem ASK_c {d m m2 : Nat} {t t2 : Mem} (h : ASK d m t) (h32 : gI t2 32 0 = gI t 32 0) (hm : ∀ j, j < 36 → gI t2 0 j = 0 → gI t 0 j = 0 ∧ gI t2 3 j = gI t 3 j) (hmm : m2 ≤ m) : ASK d m2 t2 := by
  refine ⟨h32.trans h.1, fun j hj h0 => ?_⟩
  obtain ⟨g1, g2⟩ := hm j hj h0
  obtain ⟨s, s1, s2, s3⟩ := h.2 j hj g1
  refine ⟨s, s1, ?_, g2.trans s3⟩
  by_cases e : j < m2
  · rw [if_pos e]
    rw [if_pos (by omega)] at s2
    exact s2
  · rw [if_neg e]
    split at s2 <;> omega
theorem ASK_eq {d m : Nat} {t t2 : Mem} (h : ASK d m t) (hc : EQC t t2) : ASK d m t2 := ASK_c h (hc.1 32 0 (by omega)) (fun j _ h0 => ⟨by rw [← hc.1 0 j (by omega)]; exact h0, hc.1 3 j (by omega)⟩) (Nat.le_refl _)
theorem mDayA_id {u : Mem} {j : Nat} (h : ¬ gI u 1001 j = 1) : mDayA u j = u := by
  unfold mDayA
  rw [if_neg h]
theorem mDayB_id {u : Mem} {j : Nat} (h : ¬ gI u 1001 j = 0) : mDayB u j = u := by
  unfold mDayB
  rw [if_neg h]
theorem mDayC_id {u : Mem} {j : Nat} {a x : Int32} (h : ¬ gI u 1001 j = 2) : mDayC u j a x = u := by
  unfold mDayC
  rw [if_neg h]
/-- one address's day -/
theorem day1 {d l a : Nat} {t u : Mem} (hd : d < 1000000) (hl : l < 3) (ha : a < 12) (h : REL t u) (hA : ASK d (12 * l + a) t) : REL (L_dayOf t l a (nI d)) (mDay u (12 * l + a) (nI a) (nI l)) ∧ ASK d (12 * l + a + 1) (L_dayOf t l a (nI d)) := by
  have hs := h.1 (12 * l + a) (by omega)
  have ht : gI u 1 0 = nI d := by rw [← h.2.2.2.2.2]; exact hA.1
  have hA2 : ¬ gI t 0 (12 * l + a) = 0 → ASK d (12 * l + a + 1) t := fun hn => ⟨hA.1, fun j hj h0 => by
    obtain ⟨s, s1, s2, s3⟩ := hA.2 j hj h0
    have hne : j ≠ 12 * l + a := fun e => hn (by rw [← e]; exact h0)
    refine ⟨s, s1, ?_, s3⟩
    by_cases e : j < 12 * l + a
    · rw [if_pos e] at s2; rw [if_pos (by omega)]; exact s2
    · rw [if_neg e] at s2; rw [if_neg (by omega)]; exact s2⟩
  obtain ⟨s1, s2, s3, s4, s5, s6, s7, s8, s9, s10, s11⟩ := hs
  generalize hj : 12 * l + a = j at *
  have hj36 : j < 36 := by omega
  unfold L_dayOf mDay
  rw [hj]
  rcases s7 with c | c | c | c
  · -- nobody
    have cu : gI u 1001 j = -1 := by rw [← s1]; exact c
    rw [if_neg (by rw [c]; decide), if_neg (fun z => absurd z.1 (by rw [c]; decide)), if_neg (fun z => absurd z.1 (by rw [c]; decide))]
    rw [mDayA_id (by rw [cu]; decide)]
    rw [mDayB_id (by rw [cu]; decide)]
    rw [mDayC_id (by rw [cu]; decide)]
    exact ⟨h, hA2 (by rw [c]; decide)⟩
  · -- asked
    have cu : gI u 1001 j = 0 := by rw [← s1]; exact c
    obtain ⟨s, q1, q2, q3⟩ := hA.2 j hj36 c
    rw [if_neg (Nat.lt_irrefl j)] at q2
    have e1 : nI d - gI t 3 j = nI (d - s) := by
      rw [q3, show nI d = nI (d - s) + nI s by rw [nI_add, show d - s + s = d by omega]]
      exact Int32.add_sub_cancel _ _
    have e2 : gI u 1003 j = gI u 1 0 - 5 ↔ d - s = 5 := by
      rw [← s4, q3, ht]
      constructor
      · intro z
        have z2 : nI (s + 5) = nI d := by
          rw [← nI_add s 5, z]
          exact Int32.sub_add_cancel _ _
        have := nI_inj z2 (by omega) (by omega)
        omega
      · intro z
        rw [show nI d = nI s + nI 5 by rw [nI_add, show s + 5 = d by omega]]
        exact (Int32.add_sub_cancel _ _).symm
    have e3 : nI (d - s) < 5 ↔ ¬ d - s = 5 := by
      constructor
      · intro z y
        rw [y] at z
        exact absurd z (by decide)
      · intro z
        exact nI_lt (b := 5) (by omega) (by omega)
    rw [if_neg (by rw [c]; decide), if_neg (fun z => absurd z.1 (by rw [c]; decide)), e1]
    rw [mDayA_id (by rw [cu]; decide)]
    unfold mDayB
    rw [if_pos cu]
    by_cases k5 : d - s = 5
    · rw [if_pos ⟨c, fun z => (e3.mp z) k5⟩, if_pos (e2.mpr k5)]
      rw [mDayC_id (by rw [gI_pI, if_pos ⟨rfl, rfl⟩]; decide)]
      refine ⟨REL_sub (j0 := j) h (fun k j2 hk => ?_) (fun _ _ _ => rfl) (fun k j2 hk => ?_) (fun _ _ _ => rfl) (fun _ => ?_), ?_⟩
      · simp only [S_end, gI_pI]; rw [if_neg (by omega), if_neg (by omega)]
      · simp only [gI_pI]; rw [if_neg (by omega)]
      · simp only [RS, S_end, gI_pI, gI_pD, gD_pI, gD_pD]
        simp
        exact ⟨s2, s3, s4, s5, s6⟩
      · refine ⟨by simp only [S_end, gI_pI]; simp; exact hA.1, fun j2 hj2 h0 => ?_⟩
        simp only [S_end, gI_pI] at h0 ⊢
        by_cases e : j2 = j
        · exfalso
          rw [e] at h0
          simp at h0
        · simp [e] at h0 ⊢
          obtain ⟨s, z1, z2, z3⟩ := hA.2 j2 hj2 h0
          refine ⟨s, z1, ?_, z3⟩
          by_cases e4 : j2 < j
          · rw [if_pos e4] at z2; rw [if_pos (by omega)]; exact z2
          · rw [if_neg e4] at z2; rw [if_neg (by omega)]; exact z2
    · rw [if_neg (fun z => z.2 (e3.mpr k5)), if_neg (fun z => k5 (e2.mp z))]
      rw [mDayC_id (by rw [cu]; decide)]
      refine ⟨h, hA.1, fun j2 hj2 h0 => ?_⟩
      by_cases e : j2 = j
      · subst e
        exact ⟨s, q1, by rw [if_pos (by omega)]; omega, q3⟩
      · obtain ⟨s, z1, z2, z3⟩ := hA.2 j2 hj2 h0
        refine ⟨s, z1, ?_, z3⟩
        by_cases e4 : j2 < j
        · rw [if_pos e4] at z2; rw [if_pos (by omega)]; exact z2
        · rw [if_neg e4] at z2; rw [if_neg (by omega)]; exact z2
  · -- live
    have cu : gI u 1001 j = 1 := by rw [← s1]; exact c
    rw [if_pos c]
    have key : REL (S_fade t j (nI d)) (mDayA u j) ∧ gI (mDayA u j) 1001 j = 1 := by
      unfold S_fade mDayA
      rw [if_pos cu, ht, ← s5]
      by_cases c5 : gI t 5 j = nI d - 1
      · rw [if_pos c5, if_pos c5]
        exact ⟨h, cu⟩
      · rw [if_neg c5, if_neg c5]
        have hf : mFad u j = pD u 1009 j (fadeD (gD t 0 j)) ∨ mFad u j = pD (pD u 1009 j (FP.dmul (gD u 1009 j) 4606056518893174784)) 1009 j (fadeD (gD t 0 j)) := by
          unfold mFad fadeD
          rw [s6]
          split
          · exact Or.inl rfl
          · exact Or.inr rfl
        rcases hf with hf | hf
        · rw [hf]
          refine ⟨REL_sub (j0 := j) h (fun _ _ _ => rfl) (fun k j2 hk => ?_) (fun _ _ _ => rfl) (fun k j2 hk => ?_) (fun _ => ?_), cu⟩
          · rw [gD_pD, if_neg (by omega)]
          · rw [gD_pD, if_neg (by omega)]
          · exact ⟨s1, s2, s3, s4, s5, by rw [gD_pD, gD_pD, if_pos ⟨rfl, rfl⟩, if_pos ⟨rfl, rfl⟩], Or.inr (Or.inr (Or.inl c)), s8, s9, s10, s11⟩
        · rw [hf]
          refine ⟨REL_sub (j0 := j) h (fun _ _ _ => rfl) (fun k j2 hk => ?_) (fun _ _ _ => rfl) (fun k j2 hk => ?_) (fun _ => ?_), cu⟩
          · rw [gD_pD, if_neg (by omega)]
          · rw [gD_pD, if_neg (by omega), gD_pD, if_neg (by omega)]
          · exact ⟨s1, s2, s3, s4, s5, by rw [gD_pD, gD_pD, if_pos ⟨rfl, rfl⟩, if_pos ⟨rfl, rfl⟩], Or.inr (Or.inr (Or.inl c)), s8, s9, s10, s11⟩
    have k1 := key.2
    rw [mDayB_id (by rw [k1]; decide)]
    rw [mDayC_id (by rw [k1]; decide)]
    refine ⟨key.1, ?_⟩
    have hfI : ∀ k j2, gI (S_fade t j (nI d)) k j2 = gI t k j2 := fun k j2 => by
      unfold S_fade
      split
      · rfl
      · rfl
    exact ASK_c (hA2 (by rw [c]; decide)) (hfI 32 0) (fun j2 _ h0 => ⟨by rw [← hfI 0 j2]; exact h0, hfI 3 j2⟩) (Nat.le_refl _)
  · -- stopped
    have cu : gI u 1001 j = 2 := by rw [← s1]; exact c
    obtain ⟨w1, w2⟩ := s10 c
    rw [if_neg (by rw [c]; decide)]
    rw [mDayA_id (by rw [cu]; decide)]
    rw [mDayB_id (by rw [cu]; decide)]
    unfold mDayC
    rw [if_pos cu, ht, ← s4]
    by_cases c3 : (nI d - gI t 3 j) - (nI d - gI t 3 j) / 3 * 3 = 0
    · rw [if_pos ⟨c, c3⟩, if_pos c3]
      unfold L_warn
      rw [hj, ← w1]
      by_cases c4 : gI t 4 j = 3
      · rw [if_neg (by rw [c4]; decide), if_pos c4]
        refine ⟨REL_sub (j0 := j) h (fun k j2 hk => ?_) (fun k j2 hk => ?_) (fun k j2 hk => ?_) (fun k j2 hk => ?_) (fun _ => ?_), ?_⟩
        · rw [EQC_add.1 k j2 (by omega)]
          simp only [S_end, gI_pI]; rw [if_neg (by omega), if_neg (by omega)]
        · rw [EQC_add.2 k j2]; rfl
        · rw [EQM_send.1 k j2 (by omega)]
          simp only [gI_pI]; rw [if_neg (by omega)]
        · rw [EQM_send.2 k j2]; rfl
        · have f1 := fun k hk => (EQC_add (t := S_end t j) (a := nI a) (x := nI l) (s := 6) (n := 0)).1 k j hk
          have f2 := (EQC_add (t := S_end t j) (a := nI a) (x := nI l) (s := 6) (n := 0)).2 0 j
          have f3 := fun k hk => (EQM_send (u := pI u 1001 j (-1)) (a := nI a) (x := nI l) (s := 6) (n := 0)).1 k j hk
          have f4 := (EQM_send (u := pI u 1001 j (-1)) (a := nI a) (x := nI l) (s := 6) (n := 0)).2 1009 j
          unfold RS
          rw [f1 0 (by omega), f1 1 (by omega), f1 2 (by omega), f1 3 (by omega), f1 4 (by omega), f1 5 (by omega), f1 6 (by omega), f2, f3 1001 (by omega), f3 1002 (by omega), f3 1003 (by omega), f3 1004 (by omega), f3 1005 (by omega), f3 1006 (by omega), f3 1007 (by omega), f4]
          simp only [S_end, gI_pI, gI_pD, gD_pI, gD_pD]
          simp
          exact ⟨s2, s3, s4, s5, s6⟩
        · refine ASK_eq ?_ EQC_add
          refine ASK_c (hA2 (by rw [c]; decide)) (by simp only [S_end, gI_pI]; simp) (fun j2 _ h0 => ?_) (Nat.le_refl _)
          simp only [S_end, gI_pI] at h0 ⊢
          by_cases e : j2 = j
          · exfalso
            rw [e] at h0
            simp at h0
          · simp [e] at h0 ⊢
            exact h0
      · have c5 : gI t 4 j < 3 := by
          rcases w2 with w | w | w
          · rw [w]; decide
          · rw [w]; decide
          · exact absurd w c4
        rw [if_pos c5, if_neg c4]
        refine ⟨REL_sub (j0 := j) h (fun k j2 hk => ?_) (fun k j2 hk => ?_) (fun k j2 hk => ?_) (fun k j2 hk => ?_) (fun _ => ?_), ?_⟩
        · rw [EQC_add.1 k j2 (by omega), gI_pI, if_neg (by omega)]
        · rw [EQC_add.2 k j2]; rfl
        · rw [EQM_send.1 k j2 (by omega), gI_pI, if_neg (by omega)]
        · rw [EQM_send.2 k j2]; rfl
        · have f1 := fun k hk => (EQC_add (t := pI t 4 j (gI t 4 j + 1)) (a := nI a) (x := nI l) (s := 5) (n := gI t 4 j + 1)).1 k j hk
          have f2 := (EQC_add (t := pI t 4 j (gI t 4 j + 1)) (a := nI a) (x := nI l) (s := 5) (n := gI t 4 j + 1)).2 0 j
          have f3 := fun k hk => (EQM_send (u := pI u 1005 j (gI t 4 j + 1)) (a := nI a) (x := nI l) (s := 5) (n := gI t 4 j + 1)).1 k j hk
          have f4 := (EQM_send (u := pI u 1005 j (gI t 4 j + 1)) (a := nI a) (x := nI l) (s := 5) (n := gI t 4 j + 1)).2 1009 j
          unfold RS
          rw [f1 0 (by omega), f1 1 (by omega), f1 2 (by omega), f1 3 (by omega), f1 4 (by omega), f1 5 (by omega), f1 6 (by omega), f2, f3 1001 (by omega), f3 1002 (by omega), f3 1003 (by omega), f3 1004 (by omega), f3 1005 (by omega), f3 1006 (by omega), f3 1007 (by omega), f4]
          simp only [gI_pI, gI_pD, gD_pI, gD_pD]
          simp
          refine ⟨s1, s2, s3, s4, s5, s6, Or.inr (Or.inr (Or.inr c)), s8, s9, fun _ => ?_, fun z => ?_⟩
          · rcases w2 with w | w | w
            · rw [w]; decide
            · rw [w]; decide
            · exact absurd w c4
          · rcases z with z | z
            · rw [c] at z; exact absurd z (by decide)
            · rw [c] at z; exact absurd z (by decide)
        · refine ASK_eq ?_ EQC_add
          refine ASK_c (hA2 (by rw [c]; decide)) (by rw [gI_pI, if_neg (by omega)]) (fun j2 _ h0 => ?_) (Nat.le_refl _)
          rw [gI_pI, if_neg (by omega)] at h0
          exact ⟨h0, by rw [gI_pI, if_neg (by omega)]⟩
    · rw [if_neg (fun z => c3 z.2), if_neg (fun z => absurd z.1 (by rw [c]; decide)), if_neg c3]
      exact ⟨h, hA2 (by rw [c]; decide)⟩
theorem dayL {d l : Nat} {t u : Mem} (hd : d < 1000000) (hl : l < 3) (h : REL t u) (hA : ASK d (12 * l) t) : REL (L_day t l (nI d)) (mLst l u) ∧ ASK d (12 * (l + 1)) (L_day t l (nI d)) := by
  have h1 := lp2b (N := 12) (f := fun a t => L_dayOf t l a (nI d)) (g := fun a u => mDay u (12 * l + a) (nI a) (nI l)) (fun a t u => REL t u ∧ ASK d (12 * l + a) t) (fun a t u ha z => by
    obtain ⟨k1, k2⟩ := day1 hd hl ha z.1 z.2
    exact ⟨k1, k2⟩) 12 0 t u (by omega) ⟨h, hA⟩
  rw [show 12 * l + (0 + 12) = 12 * (l + 1) by omega] at h1
  unfold L_day mLst mDigD mDayL
  have hc : ∀ {t2 : Mem}, t2 = lp (fun a t => L_dayOf t l a (nI d)) 12 0 t → ∀ t3, (t3 = L_send t2 l ∨ t3 = t2) → EQC t2 t3 := by
    intro t2 _ t3 z
    rcases z with z | z
    · rw [z]; exact EQC_send
    · rw [z]; exact EQC.rf
  have hq : ∀ t3, EQC (lp (fun a t => L_dayOf t l a (nI d)) 12 0 t) t3 → ∀ u3, EQM (lp (fun a u => mDay u (12 * l + a) (nI a) (nI l)) 12 0 u) u3 → REL t3 u3 ∧ ASK d (12 * (l + 1)) t3 := fun t3 z u3 z2 => ⟨REL_eq h1.1 z z2, ASK_eq h1.2 z⟩
  apply hq
  · split
    · exact EQC_send
    · exact EQC.rf
  · split
    · exact EQM.rf
    · split
      · exact EQM.rf
      · exact EQM_dig
theorem dayT {d : Nat} {t u : Mem} (hd : d + 1 < 1000000) (h : REL t u) (hA : ASK d 36 t) : REL (tickD t) (mTickD u) ∧ ASK (d + 1) 36 (tickD t) := by
  have hb : REL (pI t 32 0 (gI t 32 0 + 1)) (pI u 1 0 (gI u 1 0 + 1)) ∧ ASK (d + 1) 0 (pI t 32 0 (gI t 32 0 + 1)) := by
    obtain ⟨g1, g2, g3, g4, g5, g6⟩ := h
    refine ⟨⟨fun j hj2 => RS_c (g1 j hj2) (fun k hk => ?_) rfl (fun k k1 k2 => ?_) rfl, fun l2 hl2 => RL_c (g2 l2 hl2) (fun k k1 k2 => ?_) rfl (fun k a k1 => ?_) (fun k j k1 k2 => ?_) rfl, fun p hp => RP_c (g3 p hp) (fun k k1 k2 => ?_) (fun k k1 k2 => ?_), ?_, ?_, ?_⟩, ?_, fun j hj h0 => ?_⟩
    · rw [gI_pI, if_neg (by omega)]
    · rw [gI_pI, if_neg (by omega)]
    · rw [gI_pI, if_neg (by omega)]
    · rw [gI_pI, if_neg (by omega)]
    · rw [gI_pI, if_neg (by omega)]
    · rw [gI_pI, if_neg (by omega)]
    · rw [gI_pI, if_neg (by omega)]
    · rw [gI_pI, gI_pI, if_neg (by omega), if_neg (by omega)]; exact g4
    · rw [gI_pI, gI_pI, if_neg (by omega), if_neg (by omega)]; exact g5
    · rw [gI_pI, gI_pI, if_pos (by omega), if_pos (by omega), g6]
    · rw [gI_pI, if_pos ⟨rfl, rfl⟩, hA.1]; exact nI_1 d
    · rw [gI_pI, if_neg (by omega)] at h0
      obtain ⟨s, s1, s2, s3⟩ := hA.2 j hj h0
      rw [if_pos hj] at s2
      exact ⟨s, by omega, by rw [if_neg (by omega)]; omega, by rw [gI_pI, if_neg (by omega)]; exact s3⟩
  have h1 := lp2b (N := 3) (f := fun l t => L_day t l (gI t 32 0)) (g := mLst) (fun l t u => REL t u ∧ ASK (d + 1) (12 * l) t) (fun l t u hl z => by
    have e : gI t 32 0 = nI (d + 1) := z.2.1
    show REL (L_day t l (gI t 32 0)) (mLst l u) ∧ ASK (d + 1) (12 * (l + 1)) (L_day t l (gI t 32 0))
    rw [e]
    exact dayL hd hl z.1 z.2) 3 0 _ _ (by omega) hb
  exact h1
theorem dayN {n d : Nat} {t u : Mem} (hd : d + n < 1000000) (h : REL t u) (hA : ASK d 36 t) : REL (lp (fun _ t => tickD t) n 0 t) (lp (fun _ u => mTickD u) n 0 u) ∧ ASK (d + n) 36 (lp (fun _ t => tickD t) n 0 t) := by
  have h1 := lp2b (N := n) (f := fun _ t => tickD t) (g := fun _ u => mTickD u) (fun k t u => REL t u ∧ ASK (d + k) 36 t) (fun k t u hk z => by
    obtain ⟨k1, k2⟩ := dayT (d := d + k) (by omega) z.1 z.2
    exact ⟨k1, k2⟩) n 0 t u (by omega) ⟨h, hA⟩
  rw [Nat.zero_add] at h1
  exact h1
theorem g0_mSend {u : Mem} {a x s n : Int32} : gI (mSend u a x s n) 0 0 = gI u 0 0 := EQM_send.1 0 0 (by omega)
theorem g0_day {u : Mem} {j : Nat} {a x : Int32} : gI (mDay u j a x) 0 0 = gI u 0 0 := by
  have e1 : gI (mDayA u j) 0 0 = gI u 0 0 := by
    unfold mDayA
    split
    · split
      · rfl
      · unfold mFad
        split <;> rfl
    · rfl
  have e2 : ∀ u : Mem, gI (mDayB u j) 0 0 = gI u 0 0 := by
    intro u
    unfold mDayB
    split
    · split
      · rw [gI_pI, if_neg (by omega)]
      · rfl
    · rfl
  have e3 : ∀ u : Mem, gI (mDayC u j a x) 0 0 = gI u 0 0 := by
    intro u
    unfold mDayC
    split
    · split
      · split
        · rw [g0_mSend, gI_pI, if_neg (by omega)]
        · rw [g0_mSend, gI_pI, if_neg (by omega)]
      · rfl
    · rfl
  unfold mDay
  rw [e3, e2, e1]
theorem g0_lst {u : Mem} {l : Nat} : gI (mLst l u) 0 0 = gI u 0 0 := by
  have e1 : gI (mDayL u l) 0 0 = gI u 0 0 := lp_inv (fun z => gI z 0 0 = gI u 0 0) (fun a z h => by rw [g0_day]; exact h) _ _ _ rfl
  unfold mLst mDigD
  split
  · exact e1
  · split
    · exact e1
    · rw [EQM_dig.1 0 0 (by omega)]; exact e1
theorem g0_tick {u : Mem} {n : Nat} : gI (mTickT u n) 0 0 = 0 := by
  refine lp_inv (fun z => gI z 0 0 = 0) (fun a z h => ?_) n 0 (pI u 0 0 0) rfl
  unfold mTickD
  refine lp_inv (fun y => gI y 0 0 = 0) (fun a y h2 => by rw [g0_lst]; exact h2) 3 0 _ ?_
  rw [gI_pI, if_neg (by omega)]
  exact h
theorem isD_of {w : Int32} (h : ¬ isW w 1 20 = 0) : cl w ≤ 20 := by
  have h2 : ¬ isW w 0 20 = 0 := by
    unfold isW at h ⊢
    split at h
    · exact absurd rfl h
    · rename_i h1
      rw [if_neg (fun q => h1 (Int32.lt_trans q (by decide)))]
      exact h
  obtain ⟨k, hk, e⟩ := isW_n (n := 20) (by decide) h2
  rw [cl_of e (by omega)]
  omega
theorem A_tick {t u : Mem} {d : Nat} (hd : d + 20 < 1000000) (h : REL t u) (hA : ASK d 36 t) {w : Int32} {n : Nat} {r : Int32} {t2 : Mem} {r2 : Int32} {u2 : Mem} (h1 : tickR t w = (n, r, t2)) (h2 : mTick u w = (r2, u2)) : (REL t2 u2 ∧ ∃ d2, d2 ≤ d + 20 ∧ ASK d2 36 t2) ∧ gI u2 0 0 = nI n ∧ (n = 0 → r = r2) := by
  rw [tickR] at h1
  rw [mTick] at h2
  by_cases c1 : isW w 1 20 = 0
  · rw [if_pos c1] at h1 h2
    cases h1; cases h2
    exact ⟨⟨REL_th h, d, by omega, hA⟩, rfl, fun q => absurd q (by decide)⟩
  · rw [if_neg c1] at h1 h2
    have hw := isD_of c1
    obtain ⟨k1, k2⟩ := dayN (n := cl w) (by omega) (REL_th (v := 0) h) hA
    cases h1; cases h2
    exact ⟨⟨k1, d + cl w, by omega, k2⟩, g0_tick, fun _ => k1.2.2.2.2.2⟩
