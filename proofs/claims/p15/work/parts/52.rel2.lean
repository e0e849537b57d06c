theorem A_ban {t u : Mem} (h : REL t u) {x a v : Int32} {n : Nat} {r : Int32} {t2 : Mem} {r2 : Int32} {u2 : Mem} (h1 : banR t x a v = (n, r, t2)) (h2 : mBan u x a v = (r2, u2)) : REL t2 u2 ∧ gI u2 0 0 = nI n ∧ (n = 0 → r = r2) := by
  by_cases c1 : plz x a = 0
  · rw [banR, if_pos c1] at h1
    rw [mBan, if_pos c1] at h2
    cases h1; cases h2
    exact ⟨REL_th h, rfl, fun q => absurd q (by decide)⟩
  · obtain ⟨l, a0, hl, ha, -, -, e1, e2, hj⟩ := jj_of c1
    rw [banR, if_neg c1, e1, e2, hj] at h1
    rw [mBan, if_neg c1, hj] at h2
    obtain ⟨g1, g2, g3, g4, g5, g6⟩ := h
    have hb := (g2 l hl).2.2.2.2.2.1 a0 ha
    have key : REL (pI t (1014 + l) a0 v) (pI (pI u 0 0 0) 1008 (12 * l + a0) v) := by
      refine ⟨fun j hj2 => RS_c (g1 j hj2) (fun k hk => ?_) rfl (fun k k1 k2 => ?_) rfl, fun l2 hl2 => ?_, fun p hp => RP_c (g3 p hp) (fun k k1 k2 => ?_) (fun k k1 k2 => ?_), ?_, ?_, ?_⟩
      · rw [gI_pI, if_neg (by omega)]
      · rw [gI_pI, gI_pI, if_neg (by omega), if_neg (by omega)]
      · obtain ⟨q1, q2, q3, q4, q5, q6, q7⟩ := g2 l2 hl2
        refine ⟨?_, ?_, ?_, ?_, q5, fun a2 ha2 => ?_, fun r2 hr2 => ?_⟩
        · rw [gI_pI, gI_pI, gI_pI, if_neg (by omega), if_neg (by omega), if_neg (by omega)]; exact q1
        · rw [gI_pI, gI_pI, gI_pI, if_neg (by omega), if_neg (by omega), if_neg (by omega)]; exact q2
        · rw [gI_pI, gI_pI, gI_pI, if_neg (by omega), if_neg (by omega), if_neg (by omega)]; exact q3
        · rw [gI_pI, gI_pI, gI_pI, if_neg (by omega), if_neg (by omega), if_neg (by omega)]; exact q4
        · rw [gI_pI, gI_pI]
          by_cases e : l2 = l ∧ a2 = a0
          · rw [if_pos (by omega), if_pos (by omega)]
          · rw [if_neg (by omega), if_neg (by omega), gI_pI, if_neg (by omega)]; exact q6 a2 ha2
        · rw [gI_pI, gI_pI, gI_pI, if_neg (by omega), if_neg (by omega), if_neg (by omega)]; exact q7 r2 hr2
      · rw [gI_pI, if_neg (by omega)]
      · rw [gI_pI, gI_pI, if_neg (by omega), if_neg (by omega)]
      · rw [gI_pI, gI_pI, gI_pI, if_neg (by omega), if_neg (by omega), if_neg (by omega)]; exact g4
      · rw [gI_pI, gI_pI, gI_pI, if_neg (by omega), if_neg (by omega), if_neg (by omega)]; exact g5
      · rw [gI_pI, gI_pI, gI_pI, if_neg (by omega), if_neg (by omega), if_neg (by omega)]; exact g6
    by_cases c2 : v = 0
    · rw [if_pos c2] at h1 h2
      cases h1; cases h2
      exact ⟨key, rfl, fun _ => hb⟩
    · rw [if_neg c2] at h1 h2
      cases h1; cases h2
      refine ⟨REL_sub (j0 := 12 * l + a0) key (fun k j hk => ?_) (fun _ _ _ => rfl) (fun k j hk => ?_) (fun _ _ _ => rfl) (fun q => ?_), rfl, fun _ => hb⟩
      · simp only [S_end]; rw [gI_pI, if_neg (by omega), gI_pI, if_neg (by omega)]
      · rw [gI_pI, if_neg (by omega)]
      · obtain ⟨s1, s2, s3, s4, s5, s6, s7, s8, s9, s10, s11⟩ := key.1 _ q
        simp only [gI_pI, gD_pI] at s2 s3 s4 s5 s6
        simp only [RS, S_end, gI_pI, gI_pD, gD_pI, gD_pD]
        simp
        simp at s2 s3 s4 s5
        exact ⟨s2, s3, s4, s5, s6⟩
theorem A_score {t u : Mem} (h : REL t u) {x a : Int32} {n : Nat} {r : UInt64} {t2 : Mem} {r2 : UInt64} {u2 : Mem} (h1 : scoreR t x a = (n, r, t2)) (h2 : mScore u x a = (r2, u2)) : REL t2 u2 ∧ gI u2 0 0 = nI n ∧ (n = 0 → r = r2) := by
  by_cases c1 : plz x a = 0
  · rw [scoreR, if_pos c1] at h1
    rw [mScore, if_pos c1] at h2
    cases h1; cases h2
    exact ⟨REL_th h, rfl, fun q => absurd q (by decide)⟩
  · obtain ⟨l, a0, hl, ha, -, -, -, -, hj⟩ := jj_of c1
    have hs := h.1 (jj x a) (by omega)
    rw [scoreR, if_neg c1] at h1
    rw [mScore, if_neg c1, ← hs.1] at h2
    by_cases c2 : gI t 0 (jj x a) = -1
    · rw [if_pos c2] at h1 h2
      cases h1; cases h2
      exact ⟨REL_th h, rfl, fun q => absurd q (by decide)⟩
    · rw [if_neg c2] at h1 h2
      cases h1; cases h2
      exact ⟨REL_th h, rfl, fun _ => hs.2.2.2.2.2.1⟩
theorem A_told {t u : Mem} (h : REL t u) {x a w : Int32} {n : Nat} {r : Int32} {t2 : Mem} {r2 : Int32} {u2 : Mem} (h1 : toldR t x a w = (n, r, t2)) (h2 : mTold u x a w = (r2, u2)) : REL t2 u2 ∧ gI u2 0 0 = nI n ∧ (n = 0 → r = r2) := by
  by_cases c0 : isW w 0 4 = 0
  · rw [toldR, if_pos c0] at h1
    rw [mTold, if_pos c0, ite_self] at h2
    cases h1; cases h2
    exact ⟨REL_th h, rfl, fun q => absurd q (by decide)⟩
  · rw [toldR, if_neg c0] at h1
    rw [mTold, if_neg c0] at h2
    by_cases c1 : plz x a = 0
    · rw [if_pos c1] at h1 h2
      cases h1; cases h2
      exact ⟨REL_th h, rfl, fun q => absurd q (by decide)⟩
    · obtain ⟨l, a0, hl, ha, -, -, -, -, hj⟩ := jj_of c1
      have hs := h.1 (jj x a) (by omega)
      rw [if_neg c1] at h1 h2
      rw [← hs.1] at h2
      by_cases c2 : gI t 0 (jj x a) = -1
      · rw [if_pos c2] at h1 h2
        cases h1; cases h2
        exact ⟨REL_th h, rfl, fun q => absurd q (by decide)⟩
      · rw [if_neg c2] at h1 h2
        cases h1; cases h2
        refine ⟨REL_th h, rfl, fun _ => ?_⟩
        obtain ⟨s1, s2, s3, s4, s5, s6, s7, s8, s9, s10, s11⟩ := hs
        unfold toldV mToldV
        rw [← s1, ← s2, ← s4, ← s8 c2]
        by_cases c3 : gI t 0 (jj x a) = 2
        · rw [if_pos c3, (s10 c3).1]
        · rw [if_neg c3, s11 (by rcases s7 with q | q | q | q; exact absurd q c2; exact Or.inl q; exact Or.inr q; exact absurd q c3)]
theorem A_renew {t u : Mem} (h : REL t u) {x a : Int32} {n : Nat} {r : Int32} {t2 : Mem} {r2 : Int32} {u2 : Mem} (h1 : renewR t x a = (n, r, t2)) (h2 : mRenew u x a = (r2, u2)) : REL t2 u2 ∧ gI u2 0 0 = nI n ∧ (n = 0 → r = r2) := by
  by_cases c1 : plz x a = 0
  · rw [renewR, if_pos c1] at h1
    rw [mRenew, if_pos c1] at h2
    cases h1; cases h2
    exact ⟨REL_th h, rfl, fun q => absurd q (by decide)⟩
  · obtain ⟨l, a0, hl, ha, -, -, -, -, hj⟩ := jj_of c1
    have hs := h.1 (jj x a) (by omega)
    rw [renewR, if_neg c1] at h1
    rw [mRenew, if_neg c1, ← hs.1] at h2
    by_cases c2 : gI t 0 (jj x a) = -1
    · rw [if_pos c2] at h1 h2
      cases h1; cases h2
      exact ⟨REL_th h, rfl, fun q => absurd q (by decide)⟩
    · rw [if_neg c2] at h1 h2
      by_cases c3 : gI t 0 (jj x a) = 2
      · rw [if_pos c3] at h1 h2
        cases h1; cases h2
        refine ⟨REL_sub (j0 := jj x a) h (fun k j hk => ?_) (fun k j hk => ?_) (fun k j hk => ?_) (fun k j hk => ?_) (fun _ => ?_), rfl, fun _ => (hs.2.2.2.2.2.2.2.2.2.1 c3).1⟩
        · simp only [S_becomeLive, gI_pI, gI_pD]; rw [if_neg (by omega), if_neg (by omega), if_neg (by omega)]
        · simp only [S_becomeLive, gD_pI, gD_pD]; rw [if_neg (by omega)]
        · simp only [gI_pI, gI_pD]; rw [if_neg (by omega), if_neg (by omega), if_neg (by omega)]
        · simp only [gD_pI, gD_pD]; rw [if_neg (by omega)]
        · obtain ⟨s1, s2, s3, s4, s5, s6, s7, s8, s9, s10, s11⟩ := hs
          simp only [RS, S_becomeLive, gI_pI, gI_pD, gD_pI, gD_pD]
          simp
          exact ⟨s2, s3, h.2.2.2.2.2, s5, s8 c2⟩
      · rw [if_neg c3] at h1 h2
        cases h1; cases h2
        exact ⟨REL_th h, rfl, fun q => absurd q (by decide)⟩
theorem A_sent {t u : Mem} (h : REL t u) {k w : Int32} {n : Nat} {r : Int32} {t2 : Mem} {r2 : Int32} {u2 : Mem} (h1 : sentR t k w = (n, r, t2)) (h2 : mSent u k w = (r2, u2)) : REL t2 u2 := by
  have e1 : t2 = t := by
    rw [show t2 = (sentR t k w).2.2 by rw [h1]]
    unfold sentR
    repeat' split
    all_goals rfl
  have e2 : ∃ v, u2 = pI u 0 0 v := by
    rw [show u2 = (mSent u k w).2 by rw [h2]]
    unfold mSent
    split
    · exact ⟨1, rfl⟩
    · split
      · exact ⟨2, rfl⟩
      · split
        · exact ⟨0, rfl⟩
        · exact ⟨2, rfl⟩
  obtain ⟨v, e2⟩ := e2
  rw [e1, e2]
  exact REL_th h
theorem countR_t {t : Mem} {w : Int32} : (countR t w).2.2 = t := by
  unfold countR
  repeat' split
  all_goals rfl
theorem mCount_u {u : Mem} {w : Int32} : ∃ v, (mCount u w).2 = pI u 0 0 v ∨ (mCount u w).2 = pI (pI u 0 0 0) 0 0 v := by
  unfold mCount
  repeat' split
  all_goals first | exact ⟨0, Or.inl rfl⟩ | exact ⟨1, Or.inr rfl⟩
theorem A_count {t u : Mem} (h : REL t u) {w : Int32} {n : Nat} {r : Int32} {t2 : Mem} {r2 : Int32} {u2 : Mem} (h1 : countR t w = (n, r, t2)) (h2 : mCount u w = (r2, u2)) : REL t2 u2 := by
  have e1 : t2 = t := by
    rw [show t2 = (countR t w).2.2 by rw [h1]]
    exact countR_t
  obtain ⟨v, e2⟩ := mCount_u (u := u) (w := w)
  rw [h2] at e2
  rcases e2 with e2 | e2
  · rw [e1, show u2 = _ from e2]; exact REL_th h
  · rw [e1, show u2 = _ from e2]; exact REL_th (REL_th h)
theorem A_confirm {t u : Mem} (h : REL t u) {k0 : Int32} {n : Nat} {r : Int32} {t2 : Mem} {r2 : Int32} {u2 : Mem} (h1 : cfR t k0 n r t2) (h2 : cfM u k0 r2 u2) : REL t2 u2 ∧ gI u2 0 0 = nI n ∧ (n = 0 → r = r2) := by
  have hm : ∀ j, j < 36 → (mchR t k0 j ↔ mMch u k0 j) := fun j hj => by
    have hs := h.1 j hj
    unfold mchR mMch
    rw [hs.1, hs.2.2.1]
  rcases h1 with ⟨rfl, j, hj, m1, m2, rfl, rfl⟩ | ⟨rfl, m2, rfl, rfl⟩
  · rcases h2 with ⟨i, hi, q1, q2, rfl, rfl⟩ | ⟨q2, rfl, rfl⟩
    · have e : i = j := by
        rcases Nat.lt_trichotomy i j with z | z | z
        · exact absurd ((hm i hi).mpr q1) (m2 i z)
        · exact z
        · exact absurd ((hm j hj).mp m1) (q2 j z)
      subst e
      have hs := h.1 i hi
      refine ⟨REL_sub (j0 := i) h (fun k j hk => ?_) (fun k j hk => ?_) (fun k j hk => ?_) (fun k j hk => ?_) (fun _ => ?_), rfl, fun _ => rfl⟩
      · simp only [S_becomeLive, gI_pI, gI_pD]; rw [if_neg (by omega), if_neg (by omega), if_neg (by omega)]
      · simp only [S_becomeLive, gD_pI, gD_pD]; rw [if_neg (by omega)]
      · simp only [gI_pI, gI_pD]; rw [if_neg (by omega), if_neg (by omega), if_neg (by omega)]
      · simp only [gD_pI, gD_pD]; rw [if_neg (by omega)]
      · obtain ⟨s1, s2, s3, s4, s5, s6, s7, s8, s9, s10, s11⟩ := hs
        have c2 : ¬ gI t 0 i = -1 := by rw [m1.1]; decide
        simp only [RS, S_becomeLive, gI_pI, gI_pD, gD_pI, gD_pD]
        simp
        exact ⟨s2, s3, h.2.2.2.2.2, s5, s8 c2⟩
    · exact absurd ((hm j hj).mp m1) (q2 j hj)
  · rcases h2 with ⟨i, hi, q1, q2, rfl, rfl⟩ | ⟨q2, rfl, rfl⟩
    · exact absurd ((hm i hi).mpr q1) (m2 i hi)
    · exact ⟨REL_th h, rfl, fun q => absurd q (by decide)⟩
theorem A_ask {t u : Mem} (h : REL t u) {x a w : Int32} {n : Nat} {r : Int32} {t2 : Mem} {r2 : Int32} {u2 : Mem} (h1 : askR t x a w = (n, r, t2)) (h2 : mAsk u x a w = (r2, u2)) : REL t2 u2 ∧ gI u2 0 0 = nI n ∧ (n = 0 → r = r2) := by
  by_cases c1 : plz x a = 0
  · rw [askR, if_pos c1] at h1
    rw [mAsk, if_pos c1] at h2
    cases h1; cases h2
    exact ⟨REL_th h, rfl, fun q => absurd q (by decide)⟩
  · obtain ⟨l, a0, hl, ha, -, -, e1, e2, hj⟩ := jj_of c1
    have hs := h.1 (jj x a) (by omega)
    have hb := (h.2.1 l hl).2.2.2.2.2.1 a0 ha
    rw [askR, if_neg c1, e1, e2, hb] at h1
    rw [mAsk, if_neg c1, ← hs.1, hj] at h2
    rw [hj] at hs h1
    by_cases c2 : isW w 0 2 = 0
    · rw [if_pos c2] at h1 h2
      cases h1; cases h2
      exact ⟨REL_th h, rfl, fun q => absurd q (by decide)⟩
    · rw [if_neg c2] at h1 h2
      by_cases c3 : gI t 0 (12 * l + a0) = -1
      · rw [if_pos c3] at h1 h2
        by_cases c4 : gI u 1008 (12 * l + a0) = 0
        · rw [if_pos c4] at h1 h2
          have hc : askC t x a = mAskC u x a := by
            unfold askC mAskC
            rw [h.2.2.2.2.1]
          cases h1; cases h2
          have hk : REL (pI t 31 0 (gI t 31 0 + 1)) (pI u 2 0 (gI u 2 0 + 1)) := by
            obtain ⟨g1, g2, g3, g4, g5, g6⟩ := h
            refine ⟨fun j hj2 => RS_c (g1 j hj2) (fun k hk => ?_) rfl (fun k k1 k2 => ?_) rfl, fun l2 hl2 => RL_c (g2 l2 hl2) (fun k k1 k2 => ?_) rfl (fun k a k1 => ?_) (fun k j k1 k2 => ?_) rfl, fun p hp => RP_c (g3 p hp) (fun k k1 k2 => ?_) (fun k k1 k2 => ?_), ?_, ?_, ?_⟩
            · rw [gI_pI, if_neg (by omega)]
            · rw [gI_pI, if_neg (by omega)]
            · rw [gI_pI, if_neg (by omega)]
            · rw [gI_pI, if_neg (by omega)]
            · rw [gI_pI, if_neg (by omega)]
            · rw [gI_pI, if_neg (by omega)]
            · rw [gI_pI, if_neg (by omega)]
            · rw [gI_pI, gI_pI, if_neg (by omega), if_neg (by omega)]; exact g4
            · rw [gI_pI, gI_pI, if_pos (by omega), if_pos (by omega), g5]
            · rw [gI_pI, gI_pI, if_neg (by omega), if_neg (by omega)]; exact g6
          refine ⟨REL_sub (j0 := 12 * l + a0) hk (fun k j hq => ?_) (fun k j hq => ?_) (fun k j hq => ?_) (fun k j hq => ?_) (fun _ => ?_), ?_, fun _ => hc⟩
          · rw [EQC_add.1 k j (by omega)]
            simp only [S_begin, gI_pD]
            rw [gI_pI, if_neg (by omega), gI_pI, if_neg (by omega), gI_pI, if_neg (by omega), gI_pI, if_neg (by omega), gI_pI, if_neg (by omega), gI_pI, if_neg (by omega)]
          · rw [EQC_add.2 k j]
            simp only [S_begin, gD_pD, gD_pI]
            rw [if_neg (by omega)]
          · rw [EQM_send.1 k j (by omega)]
            simp only [mAskT, hj]
            rw [gI_pI u, gI_pI]
            by_cases e : k = 2 ∧ j = 0
            · rw [if_pos e, if_pos e]
            · rw [if_neg e, if_neg e]
              rw [gI_pI, if_neg (by omega), gI_pI, if_neg (by omega), gI_pI, if_neg (by omega), gI_pD, gI_pI, if_neg (by omega), gI_pI, if_neg (by omega), gI_pI, if_neg (by omega), gI_pI, if_neg (by omega), gI_pI, if_neg (by omega)]
          · rw [EQM_send.2 k j]
            simp only [mAskT, hj, gD_pD, gD_pI]
            rw [if_neg (by omega)]
          · obtain ⟨s1, s2, s3, s4, s5, s6, s7, s8, s9, s10, s11⟩ := hs
            have s9 := s9 c3
            have f1 := fun k hk => (EQC_add (t := S_begin (pI t 31 0 (gI t 31 0 + 1)) (12 * l + a0) w (askC t x a) (gI t 32 0)) (a := a) (x := x) (s := 2) (n := 0)).1 k (12 * l + a0) hk
            have f2 := (EQC_add (t := S_begin (pI t 31 0 (gI t 31 0 + 1)) (12 * l + a0) w (askC t x a) (gI t 32 0)) (a := a) (x := x) (s := 2) (n := 0)).2 0 (12 * l + a0)
            have f3 := fun k hk => (EQM_send (u := mAskT u x a w) (a := a) (x := x) (s := 2) (n := 0)).1 k (12 * l + a0) hk
            have f4 := (EQM_send (u := mAskT u x a w) (a := a) (x := x) (s := 2) (n := 0)).2 1009 (12 * l + a0)
            unfold RS
            rw [f1 0 (by omega), f1 1 (by omega), f1 2 (by omega), f1 3 (by omega), f1 4 (by omega), f1 5 (by omega), f1 6 (by omega), f2, f3 1001 (by omega), f3 1002 (by omega), f3 1003 (by omega), f3 1004 (by omega), f3 1005 (by omega), f3 1006 (by omega), f3 1007 (by omega), f4]
            simp only [S_begin, mAskT, hj, gI_pI, gI_pD, gD_pI, gD_pD]
            simp
            exact ⟨hc, h.2.2.2.2.2, s9⟩
          · rw [EQM_send.1 0 0 (by omega)]
            simp only [mAskT, gI_pI, gI_pD]
            simp
            rfl
        · rw [if_neg c4] at h1 h2
          cases h1; cases h2
          exact ⟨REL_th h, rfl, fun q => absurd q (by decide)⟩
      · rw [if_neg c3] at h1 h2
        cases h1; cases h2
        exact ⟨REL_th h, rfl, fun q => absurd q (by decide)⟩
