theorem nI_inj {a b : Nat} (h : nI a = nI b) (ha : a < 2 ^ 31) (hb : b < 2 ^ 31) : a = b := by
  rw [← nI_clamp ha, ← nI_clamp hb, h]
theorem A_bounce {t u : Mem} (h : REL t u) {x a w : Int32} {n : Nat} {r : UInt64} {t2 : Mem} {r2 : UInt64} {u2 : Mem} (h1 : bncR t x a w = (n, r, t2)) (h2 : mBnc u x a w = (r2, u2)) : REL t2 u2 ∧ gI u2 0 0 = nI n ∧ (n = 0 → r = r2) := by
  by_cases c1 : plz x a = 0
  · rw [bncR, if_pos c1] at h1
    rw [mBnc, if_pos c1] at h2
    cases h1; cases h2
    exact ⟨REL_th h, rfl, fun q => absurd q (by decide)⟩
  · obtain ⟨l, a0, hl, ha, -, -, e1, e2, hj⟩ := jj_of c1
    have hs := h.1 (jj x a) (by omega)
    have hbs := (h.2.1 l hl).2.2.2.2.1
    have ht := h.2.2.2.2.2
    have hv : bncV t x a w = mBncV u x a w := by
      unfold bncV mBncV
      rw [hs.2.2.2.2.2.1]
    rw [bncR, if_neg c1, e1, hs.1, hs.2.2.2.2.1, ht, hbs, hv, hs.2.2.2.2.2.1] at h1
    rw [mBnc, if_neg c1, e1] at h2
    by_cases c2 : gI u 1001 (jj x a) = -1
    · rw [if_pos c2] at h1 h2
      cases h1; cases h2
      exact ⟨REL_th h, rfl, fun q => absurd q (by decide)⟩
    · rw [if_neg c2] at h1 h2
      by_cases c3 : gI u 1001 (jj x a) = 1
      · rw [if_pos c3] at h1 h2
        by_cases c4 : gI u 1006 (jj x a) = gI u 1 0
        · rw [if_pos c4] at h1 h2
          cases h1; cases h2
          exact ⟨REL_th h, rfl, fun _ => rfl⟩
        · rw [if_neg c4] at h1 h2
          obtain ⟨s1, s2, s3, s4, s5, s6, s7, s8, s9, s10, s11⟩ := hs
          have k2 : ¬ gI t 0 (jj x a) = -1 := by rw [s1]; exact c2
          have k3 : gI t 0 (jj x a) = 1 := by rw [s1]; exact c3
          have key : REL (bncT t x a w) (mBncT u x a w) := by
            refine REL_sub (j0 := jj x a) h (fun k j hk => ?_) (fun k j hk => ?_) (fun k j hk => ?_) (fun k j hk => ?_) (fun _ => ?_)
            · simp only [bncT, gI_pI, gI_pD]; rw [if_neg (by omega)]
            · simp only [bncT, gD_pI, gD_pD]; rw [if_neg (by omega)]
            · simp only [mBncT, gI_pI, gI_pD]; rw [if_neg (by omega), if_neg (by omega)]
            · simp only [mBncT, gD_pI, gD_pD]; rw [if_neg (by omega)]
            · simp only [RS, bncT, mBncT, gI_pI, gI_pD, gD_pI, gD_pD]
              simp
              exact ⟨s1, s2, s3, s4, ht, hv, s7, s8, s9, s10, s11⟩
          by_cases c5 : Op.cmpValue (FP.dcmp (mBncV u x a w) (gD u 1015 l)) .l < 0
          · rw [if_pos c5] at h1 h2
            cases h1; cases h2
            exact ⟨key, rfl, fun _ => rfl⟩
          · rw [if_neg c5] at h1 h2
            cases h1; cases h2
            refine ⟨REL_sub (j0 := jj x a) key (fun k j hq => ?_) (fun k j hq => ?_) (fun k j hq => ?_) (fun k j hq => ?_) (fun _ => ?_), ?_, fun _ => rfl⟩
            · rw [EQC_add.1 k j (by omega)]
              simp only [S_stop]
              rw [gI_pI, if_neg (by omega), gI_pI, if_neg (by omega), gI_pI, if_neg (by omega)]
            · rw [EQC_add.2 k j]
              rfl
            · rw [EQM_send.1 k j (by omega), gI_pI, if_neg (by omega), gI_pI, if_neg (by omega), gI_pI, if_neg (by omega)]
            · rw [EQM_send.2 k j]
              rfl
            · have f1 := fun k hk => (EQC_add (t := S_stop (bncT t x a w) (jj x a) (gI u 1 0)) (a := a) (x := x) (s := 5) (n := 1)).1 k (jj x a) hk
              have f2 := (EQC_add (t := S_stop (bncT t x a w) (jj x a) (gI u 1 0)) (a := a) (x := x) (s := 5) (n := 1)).2 0 (jj x a)
              have f3 := fun k hk => (EQM_send (u := pI (pI (pI (mBncT u x a w) 1001 (jj x a) 2) 1003 (jj x a) (gI u 1 0)) 1005 (jj x a) 1) (a := a) (x := x) (s := 5) (n := 1)).1 k (jj x a) hk
              have f4 := (EQM_send (u := pI (pI (pI (mBncT u x a w) 1001 (jj x a) 2) 1003 (jj x a) (gI u 1 0)) 1005 (jj x a) 1) (a := a) (x := x) (s := 5) (n := 1)).2 1009 (jj x a)
              unfold RS
              rw [f1 0 (by omega), f1 1 (by omega), f1 2 (by omega), f1 3 (by omega), f1 4 (by omega), f1 5 (by omega), f1 6 (by omega), f2, f3 1001 (by omega), f3 1002 (by omega), f3 1003 (by omega), f3 1004 (by omega), f3 1005 (by omega), f3 1006 (by omega), f3 1007 (by omega), f4]
              simp only [S_stop, bncT, mBncT, gI_pI, gI_pD, gD_pI, gD_pD]
              simp
              exact ⟨s2, s3, ht, hv, s8 k2⟩
            · rw [EQM_send.1 0 0 (by omega)]
              simp only [mBncT, gI_pI, gI_pD]
              simp
              rfl
      · rw [if_neg c3] at h1 h2
        cases h1; cases h2
        exact ⟨REL_th h, rfl, fun q => absurd q (by decide)⟩
/-- a change of a list's settings -/
theorem REL_set {t u t2 u2 : Mem} {l : Nat} (h : REL t u) (hc : ∀ k j, ¬ ((10 ≤ k ∧ k ≤ 13 ∧ j = l) ∨ k = 1017 + l) → gI t2 k j = gI t k j) (hd : ∀ k j, ¬ (k = 1 ∧ j = l) → gD t2 k j = gD t k j) (hm : ∀ k j, ¬ (k = 0 ∨ (k = 1010 ∧ j = l) ∨ (k = 1011 ∧ j = l) ∨ k = 1012 ∨ (k = 1013 ∧ j = l) ∨ (k = 1014 ∧ j = l)) → gI u2 k j = gI u k j) (hb : ∀ l2, l2 < 3 → ¬ l2 = l → ∀ r, r < 10 → gI u2 1012 (10 * l2 + r) = gI u 1012 (10 * l2 + r)) (hmd : ∀ k j, ¬ (k = 1015 ∧ j = l) → gD u2 k j = gD u k j) (hl : l < 3 → RL t2 u2 l) : REL t2 u2 := by
  obtain ⟨h1, h2, h3, h4, h5, h6⟩ := h
  refine ⟨fun j hj => RS_c (h1 j hj) (fun k hk => hc k j (by omega)) (hd 0 j (by omega)) (fun k k1 k2 => hm k j (by omega)) (hmd 1009 j (by omega)), fun l2 hl2 => ?_, fun p hp => RP_c (h3 p hp) (fun k k1 k2 => hc k p (by omega)) (fun k k1 k2 => hm k p (by omega)), ?_, ?_, ?_⟩
  · by_cases e : l2 = l
    · subst e
      exact hl hl2
    · obtain ⟨q1, q2, q3, q4, q5, q6, q7⟩ := h2 l2 hl2
      refine ⟨?_, ?_, ?_, ?_, ?_, fun a ha => ?_, fun r hr => ?_⟩
      · rw [hc 10 l2 (by omega), hm 1010 l2 (by omega)]; exact q1
      · rw [hc 11 l2 (by omega), hm 1011 l2 (by omega)]; exact q2
      · rw [hc 12 l2 (by omega), hm 1013 l2 (by omega)]; exact q3
      · rw [hc 13 l2 (by omega), hm 1014 l2 (by omega)]; exact q4
      · rw [hd 1 l2 (by omega), hmd 1015 l2 (by omega)]; exact q5
      · rw [hc (1014 + l2) a (by omega), hm 1008 _ (by omega)]; exact q6 a ha
      · rw [hc (1017 + l2) r (by omega), hb l2 hl2 e r hr]; exact q7 r hr
  · rw [hc 30 0 (by omega), hm 3 0 (by omega)]; exact h4
  · rw [hc 31 0 (by omega), hm 2 0 (by omega)]; exact h5
  · rw [hc 32 0 (by omega), hm 1 0 (by omega)]; exact h6
theorem A_setting {t u : Mem} (h : REL t u) {x w : Int32} {v : UInt64} {n : Nat} {r : UInt64} {t2 : Mem} {r2 : UInt64} {u2 : Mem} (h1 : setR t x w v = (n, r, t2)) (h2 : mSet u x w v = (r2, u2)) : REL t2 u2 ∧ gI u2 0 0 = nI n ∧ (n = 0 → r = r2) := by
  have bad : ∀ {n : Nat} {r : UInt64} {t2 : Mem} {r2 : UInt64} {u2 : Mem}, ((1, 0, t) : Nat × UInt64 × Mem) = (n, r, t2) → ((FP.i2d 0, pI u 0 0 1) : UInt64 × Mem) = (r2, u2) → REL t2 u2 ∧ gI u2 0 0 = nI n ∧ (n = 0 → r = r2) := by
    intro n r t2 r2 u2 g1 g2
    cases g1; cases g2
    exact ⟨REL_th h, rfl, fun q => absurd q (by decide)⟩
  by_cases c1 : isW x 0 2 = 0
  · rw [setR, if_pos c1] at h1
    rw [mSet, show mSetBad x w v = 1 by unfold mSetBad; rw [if_pos c1], if_neg (by decide)] at h2
    exact bad h1 h2
  · obtain ⟨l, hl, e⟩ := isW_n (n := 2) (by decide) c1
    have ex : cl x = l := cl_of e (by omega)
    obtain ⟨q1, q2, q3, q4, q5, q6, q7⟩ := h.2.1 l (by omega)
    rw [setR, if_neg c1, ex] at h1
    rw [mSet, ex] at h2
    have good : ∀ {k k2 : Nat} {v2 : Int32} {r0 : UInt64} {n : Nat} {r : UInt64} {t2 : Mem} {r2 : UInt64} {u2 : Mem}, ((k = 10 ∧ k2 = 1010) ∨ (k = 11 ∧ k2 = 1011) ∨ (k = 12 ∧ k2 = 1013) ∨ (k = 13 ∧ k2 = 1014)) → ((0, r0, pI t k l v2) : Nat × UInt64 × Mem) = (n, r, t2) → ((r0, pI (pI u 0 0 0) k2 l v2) : UInt64 × Mem) = (r2, u2) → REL t2 u2 ∧ gI u2 0 0 = nI n ∧ (n = 0 → r = r2) := by
      intro k k2 v2 r0 n r t2 r2 u2 hk g1 g2
      cases g1; cases g2
      refine ⟨REL_set (l := l) h (fun k3 j hk3 => ?_) (fun _ _ _ => rfl) (fun k3 j hk3 => ?_) (fun l2 hl2 hne r3 hr3 => ?_) (fun _ _ _ => rfl) (fun _ => ?_), ?_, fun _ => rfl⟩
      · rw [gI_pI, if_neg (by omega)]
      · rw [gI_pI, if_neg (by omega), gI_pI, if_neg (by omega)]
      · rw [gI_pI, if_neg (by omega), gI_pI, if_neg (by omega)]
      · rcases hk with ⟨rfl, rfl⟩ | ⟨rfl, rfl⟩ | ⟨rfl, rfl⟩ | ⟨rfl, rfl⟩
        · exact ⟨by simp only [gI_pI]; simp, by simp only [gI_pI]; simp; exact q2, by simp only [gI_pI]; simp; exact q3, by simp only [gI_pI]; simp; exact q4, q5, fun a ha => by rw [gI_pI, if_neg (by omega), gI_pI, if_neg (by omega), gI_pI, if_neg (by omega)]; exact q6 a ha, fun r hr => by rw [gI_pI, if_neg (by omega), gI_pI, if_neg (by omega), gI_pI, if_neg (by omega)]; exact q7 r hr⟩
        · exact ⟨by simp only [gI_pI]; simp; exact q1, by simp only [gI_pI]; simp, by simp only [gI_pI]; simp; exact q3, by simp only [gI_pI]; simp; exact q4, q5, fun a ha => by rw [gI_pI, if_neg (by omega), gI_pI, if_neg (by omega), gI_pI, if_neg (by omega)]; exact q6 a ha, fun r hr => by rw [gI_pI, if_neg (by omega), gI_pI, if_neg (by omega), gI_pI, if_neg (by omega)]; exact q7 r hr⟩
        · exact ⟨by simp only [gI_pI]; simp; exact q1, by simp only [gI_pI]; simp; exact q2, by simp only [gI_pI]; simp, by simp only [gI_pI]; simp; exact q4, q5, fun a ha => by rw [gI_pI, if_neg (by omega), gI_pI, if_neg (by omega), gI_pI, if_neg (by omega)]; exact q6 a ha, fun r hr => by rw [gI_pI, if_neg (by omega), gI_pI, if_neg (by omega), gI_pI, if_neg (by omega)]; exact q7 r hr⟩
        · exact ⟨by simp only [gI_pI]; simp; exact q1, by simp only [gI_pI]; simp; exact q2, by simp only [gI_pI]; simp; exact q3, by simp only [gI_pI]; simp, q5, fun a ha => by rw [gI_pI, if_neg (by omega), gI_pI, if_neg (by omega), gI_pI, if_neg (by omega)]; exact q6 a ha, fun r hr => by rw [gI_pI, if_neg (by omega), gI_pI, if_neg (by omega), gI_pI, if_neg (by omega)]; exact q7 r hr⟩
      · rw [gI_pI, if_neg (by omega), gI_pI, if_pos (by omega)]
        rfl
    by_cases c0 : w = 0
    · rw [if_pos c0, q1] at h1
      rw [show mSetBad x w v = 0 by unfold mSetBad; rw [if_neg c1, c0, if_neg (fun z => absurd z.1 (by decide)), if_neg (fun z => by rcases z.1 with z | z <;> exact absurd z (by decide)), if_neg (fun z => absurd z.1 (by decide))], if_pos rfl, if_pos c0] at h2
      exact good (k := 10) (by omega) h1 h2
    · rw [if_neg c0] at h1
      by_cases c2 : w = 1
      · rw [if_pos c2, q2] at h1
        rw [show mSetBad x w v = 0 by unfold mSetBad; rw [if_neg c1, c2, if_neg (fun z => absurd z.1 (by decide)), if_neg (fun z => by rcases z.1 with z | z <;> exact absurd z (by decide)), if_neg (fun z => absurd z.1 (by decide))], if_pos rfl, if_neg c0, if_pos c2] at h2
        exact good (k := 11) (by omega) h1 h2
      · rw [if_neg c2] at h1
        by_cases c3 : w = 2
        · rw [if_pos c3, q3] at h1
          by_cases c8 : isW (FP.d2i v) 1 1000 = 0
          · rw [if_pos c8] at h1
            rw [show mSetBad x w v = 1 by unfold mSetBad; rw [if_neg c1, c3, if_neg (fun z => absurd z.1 (by decide)), if_pos ⟨Or.inl rfl, c8⟩], if_neg (by decide)] at h2
            exact bad h1 h2
          · rw [if_neg c8] at h1
            rw [show mSetBad x w v = 0 by unfold mSetBad; rw [if_neg c1, c3, if_neg (fun z => absurd z.1 (by decide)), if_neg (fun z => c8 z.2), if_neg (fun z => absurd z.1 (by decide))], if_pos rfl, if_neg c0, if_neg c2, if_pos c3] at h2
            exact good (k := 12) (by omega) h1 h2
        · rw [if_neg c3] at h1
          by_cases c4 : w = 3
          · rw [if_pos c4, q4] at h1
            by_cases c8 : isW (FP.d2i v) 1 1000 = 0
            · rw [if_pos c8] at h1
              rw [show mSetBad x w v = 1 by unfold mSetBad; rw [if_neg c1, c4, if_neg (fun z => absurd z.1 (by decide)), if_pos ⟨Or.inr rfl, c8⟩], if_neg (by decide)] at h2
              exact bad h1 h2
            · rw [if_neg c8] at h1
              rw [show mSetBad x w v = 0 by unfold mSetBad; rw [if_neg c1, c4, if_neg (fun z => absurd z.1 (by decide)), if_neg (fun z => c8 z.2), if_neg (fun z => absurd z.1 (by decide))], if_pos rfl, if_neg c0, if_neg c2, if_neg c3, if_pos c4] at h2
              exact good (k := 13) (by omega) h1 h2
          · rw [if_neg c4] at h1
            by_cases c5 : w = 4
            · rw [if_pos c5, q5] at h1
              by_cases c8 : bstD v = 0
              · rw [if_pos c8] at h1
                rw [show mSetBad x w v = 1 by unfold mSetBad; rw [if_neg c1, c5, if_neg (fun z => absurd z.1 (by decide)), if_neg (fun z => by rcases z.1 with z | z <;> exact absurd z (by decide)), if_pos ⟨rfl, c8⟩], if_neg (by decide)] at h2
                exact bad h1 h2
              · rw [if_neg c8] at h1
                rw [show mSetBad x w v = 0 by unfold mSetBad; rw [if_neg c1, c5, if_neg (fun z => absurd z.1 (by decide)), if_neg (fun z => by rcases z.1 with z | z <;> exact absurd z (by decide)), if_neg (fun z => c8 z.2)], if_pos rfl, if_neg c0, if_neg c2, if_neg c3, if_neg c4, if_pos c5] at h2
                cases h1; cases h2
                refine ⟨REL_set (l := l) h (fun k3 j hk3 => rfl) (fun k3 j hk3 => ?_) (fun k3 j hk3 => ?_) (fun l2 hl2 hne r3 hr3 => ?_) (fun k3 j hk3 => ?_) (fun _ => ?_), rfl, fun _ => rfl⟩
                · rw [gD_pD, if_neg (by omega)]
                · rw [gI_pD, gI_pI, if_neg (by omega)]
                · rw [gI_pD, gI_pI, if_neg (by omega)]
                · rw [gD_pD, if_neg (by omega), gD_pI]
                · exact ⟨by rw [gI_pD, gI_pD, gI_pI, if_neg (by omega)]; exact q1, by rw [gI_pD, gI_pD, gI_pI, if_neg (by omega)]; exact q2, by rw [gI_pD, gI_pD, gI_pI, if_neg (by omega)]; exact q3, by rw [gI_pD, gI_pD, gI_pI, if_neg (by omega)]; exact q4, by rw [gD_pD, gD_pD, if_pos ⟨rfl, rfl⟩, if_pos ⟨rfl, rfl⟩], fun a ha => by rw [gI_pD, gI_pD, gI_pI, if_neg (by omega)]; exact q6 a ha, fun r hr => by rw [gI_pD, gI_pD, gI_pI, if_neg (by omega)]; exact q7 r hr⟩
            · rw [if_neg c5] at h1
              have c6 : isW w 0 4 = 0 := by
                by_cases z : isW w 0 4 = 0
                · exact z
                · obtain ⟨k, hk, ek⟩ := isW_n (n := 4) (by decide) z
                  rcases (show k = 0 ∨ k = 1 ∨ k = 2 ∨ k = 3 ∨ k = 4 by omega) with rfl | rfl | rfl | rfl | rfl
                  · exact absurd ek c0
                  · exact absurd ek c2
                  · exact absurd ek c3
                  · exact absurd ek c4
                  · exact absurd ek c5
              by_cases c7 : isW w 10 19 = 0
              · rw [if_pos c7] at h1
                rw [show mSetBad x w v = 1 by unfold mSetBad; rw [if_neg c1, if_pos ⟨c6, c7⟩], if_neg (by decide)] at h2
                exact bad h1 h2
              · rw [if_neg c7] at h1
                rw [show mSetBad x w v = 0 by unfold mSetBad; rw [if_neg c1, if_neg (fun z => c7 z.2), if_neg (fun z => z.1.elim c3 c4), if_neg (fun z => c5 z.1)], if_pos rfl, if_neg c0, if_neg c2, if_neg c3, if_neg c4, if_neg c5] at h2
                obtain ⟨s, hs, es0⟩ := isW_t c7
                have es : cl (w - 10) = s := cl_of es0 (by omega)
                rw [es] at h1 h2
                rw [q7 s hs] at h1
                cases h1; cases h2
                refine ⟨REL_set (l := l) h (fun k3 j hk3 => ?_) (fun _ _ _ => rfl) (fun k3 j hk3 => ?_) (fun l2 hl2 hne r3 hr3 => ?_) (fun _ _ _ => rfl) (fun _ => ?_), rfl, fun _ => rfl⟩
                · rw [gI_pI, if_neg (by omega)]
                · rw [gI_pI, if_neg (by omega), gI_pI, if_neg (by omega)]
                · rw [gI_pI, if_neg (by omega), gI_pI, if_neg (by omega)]
                · exact ⟨by rw [gI_pI, if_neg (by omega), gI_pI, if_neg (by omega), gI_pI, if_neg (by omega)]; exact q1, by rw [gI_pI, if_neg (by omega), gI_pI, if_neg (by omega), gI_pI, if_neg (by omega)]; exact q2, by rw [gI_pI, if_neg (by omega), gI_pI, if_neg (by omega), gI_pI, if_neg (by omega)]; exact q3, by rw [gI_pI, if_neg (by omega), gI_pI, if_neg (by omega), gI_pI, if_neg (by omega)]; exact q4, q5, fun a ha => by rw [gI_pI, if_neg (by omega), gI_pI, if_neg (by omega), gI_pI, if_neg (by omega)]; exact q6 a ha, fun r hr => by
                    by_cases er : r = s
                    · rw [gI_pI, if_pos ⟨rfl, er⟩, gI_pI, if_pos ⟨rfl, by omega⟩]
                    · rw [gI_pI, if_neg (by omega), gI_pI, if_neg (by omega), gI_pI, if_neg (by omega)]; exact q7 r hr⟩
