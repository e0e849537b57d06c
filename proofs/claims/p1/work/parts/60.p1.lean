/-! p1: one call on a fresh object -/
def RI1 (i : Nat) (t u : Mem) : Prop := i = 0 → t = t0 ∧ u = u0j 36
theorem RI_0 : RI1 0 t0 (u0j 36) := fun _ => ⟨rfl, rfl⟩
theorem RI1_up {i : Nat} {t u : Mem} : RI1 (i + 5) t u := fun h => absurd h (by omega)
theorem cnt0 : ∀ k, k < 50 → gI (mCount (u0j 36) (nI k)).2 0 0 = nI (countR t0 (nI k)).1 ∧ ((countR t0 (nI k)).1 = 0 → (countR t0 (nI k)).2.1 = (mCount (u0j 36) (nI k)).1) := by decide +kernel
theorem isW_10 {w : Int32} (h : isW w 0 49 = 0) : isW w 10 49 = 0 := by
  unfold isW at h ⊢
  by_cases h1 : w < 0
  · rw [if_pos (Int32.lt_trans h1 (by decide))]
  · rw [if_neg h1] at h
    by_cases h2 : 49 < w
    · rw [if_pos h2, ite_self]
    · rw [if_neg h2] at h
      exact absurd h (by decide)
theorem one_count {w : Int32} {n : Nat} {r : Int32} {t2 : Mem} {r2 : Int32} {u2 : Mem} (h1 : countR t0 w = (n, r, t2)) (h2 : mCount (u0j 36) w = (r2, u2)) : gI u2 0 0 = nI n ∧ (n = 0 → r = r2) := by
  by_cases c : isW w 0 49 = 0
  · have k0 : ¬ w = 0 := fun e => by rw [e] at c; exact absurd c (by decide)
    have k1 : ¬ w = 1 := fun e => by rw [e] at c; exact absurd c (by decide)
    have k2 : ¬ w = 2 := fun e => by rw [e] at c; exact absurd c (by decide)
    have k3 : ¬ w = 3 := fun e => by rw [e] at c; exact absurd c (by decide)
    have k4 : ¬ w = 4 := fun e => by rw [e] at c; exact absurd c (by decide)
    rw [countR, if_neg k0, if_neg k1, if_neg k2, if_neg k3, if_neg k4, if_pos (isW_10 c)] at h1
    rw [mCount, if_pos (isW_10 c), if_neg k0, if_neg k1, if_neg k2, if_neg k3, if_neg k4] at h2
    cases h1; cases h2
    exact ⟨rfl, fun q => absurd q (by decide)⟩
  · obtain ⟨k, hk, e⟩ := isW_n (n := 49) (by decide) c
    have h3 := cnt0 k (by omega)
    rw [← e, h1, h2] at h3
    exact h3
theorem one_sent {k w : Int32} {n : Nat} {r : Int32} {t2 : Mem} {r2 : Int32} {u2 : Mem} (h1 : sentR t0 k w = (n, r, t2)) (h2 : mSent (u0j 36) k w = (r2, u2)) : gI u2 0 0 = nI n ∧ (n = 0 → r = r2) := by
  rw [sentR] at h1
  rw [mSent] at h2
  by_cases c1 : isW w 0 3 = 0
  · rw [if_pos c1] at h1 h2
    cases h1; cases h2
    exact ⟨rfl, fun q => absurd q (by decide)⟩
  · rw [if_neg c1] at h1 h2
    have c2 : isW k 0 (gI t0 28 0 - 1) = 0 := by
      by_cases z : isW k 0 (gI t0 28 0 - 1) = 0
      · exact z
      · obtain ⟨q, hq, -⟩ := isP_of (n0 := 0) (by omega) z
        omega
    rw [if_pos c2] at h1
    have e2 : ∀ {r2 : Int32} {u2 : Mem}, ((0, pI (u0j 36) 0 0 2) : Int32 × Mem) = (r2, u2) → gI u2 0 0 = nI n ∧ (n = 0 → r = r2) := by
      intro r2 u2 h2
      cases h1; cases h2
      exact ⟨rfl, fun q => absurd q (by decide)⟩
    by_cases c3 : isW k 0 59 = 0
    · rw [if_pos c3] at h2
      exact e2 h2
    · rw [if_neg c3] at h2
      obtain ⟨q, hq, eq⟩ := isW_n (n := 59) (by decide) c3
      have c4 : ¬ k < gI (u0j 36) 4 0 := by
        rw [eq]
        exact Int32.not_lt.mpr (nI_le (a := 0) (by omega) (by omega))
      rw [if_neg c4] at h2
      exact e2 h2
theorem RI_steps {L : Nat} (hL : L ≤ 5) : STEPS RI1 L := by
  refine ⟨fun i t u h hi => ?_, fun i t u h hi => ?_, fun i t u h hi => ?_, fun i t u h hi => ?_, fun i t u h hi => ?_, fun i t u h hi => ?_, fun i t u h hi => ?_, fun i t u h hi => ?_, fun i t u h hi => ?_, fun i t u h hi => ?_, fun i t u h hi => ?_, fun i t u h hi => ?_, fun i t u h hi => ?_, fun i t u h hi => ?_, fun i t u h hi => ?_, fun i t u h hi => ?_, fun i t u h hi => ?_⟩
  all_goals obtain ⟨rfl, rfl⟩ := h (by omega)
  · exact ⟨OKX_0, MOK_0⟩
  · exact fun x a w n r t2 r2 u2 h1 h2 => ⟨RI1_up, (A_ask REL_0 h1 h2).2⟩
  · exact fun k0 n r t2 r2 u2 h1 h2 => ⟨RI1_up, (A_confirm REL_0 h1 h2).2⟩
  · exact fun x a n r t2 r2 u2 h1 h2 => ⟨RI1_up, (A_leave REL_0 h1 h2).2⟩
  · exact fun x a w n r t2 r2 u2 h1 h2 => ⟨RI1_up, (A_way REL_0 h1 h2).2⟩
  · exact fun x a v _ n r t2 r2 u2 h1 h2 => ⟨RI1_up, (A_moderator REL_0 h1 h2).2⟩
  · exact fun x a v _ n r t2 r2 u2 h1 h2 => ⟨RI1_up, (A_ban REL_0 h1 h2).2⟩
  · exact fun x w v n r t2 r2 u2 h1 h2 => ⟨RI1_up, (A_setting REL_0 h1 h2).2⟩
  · exact fun x a z w n r t2 r2 u2 h1 h2 => ⟨RI1_up, (A_post OKX_0 REL_0 h1 h2).2⟩
  · exact fun m0 p0 h0 n r t2 r2 u2 h1 h2 => ⟨RI1_up, (A_judge OKX_0 REL_0 h1 h2).2⟩
  · exact fun x a h _ n r t2 r2 u2 h1 h2 => ⟨RI1_up, (A_bounce REL_0 h1 h2).2⟩
  · exact fun x a n r t2 r2 u2 h1 h2 => ⟨RI1_up, (A_renew REL_0 h1 h2).2⟩
  · exact fun d0 n r t2 r2 u2 h1 h2 => ⟨RI1_up, (A_tick (d := 0) (by omega) REL_0 ASK_0 h1 h2).2⟩
  · exact fun x a w n r t2 r2 u2 h1 h2 => ⟨RI1_up, (A_told REL_0 h1 h2).2⟩
  · exact fun x a n r t2 r2 u2 h1 h2 => ⟨RI1_up, (A_score REL_0 h1 h2).2⟩
  · exact fun k w n r t2 r2 u2 h1 h2 => ⟨RI1_up, one_sent h1 h2⟩
  · exact fun w n r t2 r2 u2 h1 h2 => ⟨RI1_up, one_count h1 h2⟩
