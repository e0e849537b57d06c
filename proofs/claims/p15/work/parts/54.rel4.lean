theorem REL_posts {t u t2 u2 : Mem} {p0 : Nat} (h : REL t u) (hc : ∀ k j, ¬ (k = 14 ∨ k = 15 ∨ k = 16 ∨ k = 28 ∨ k = 29 ∨ (1004 ≤ k ∧ k ≤ 1007) ∨ (20 ≤ k ∧ k ≤ 23 ∧ j = p0) ∨ (k = 30 ∧ j = 0)) → gI t2 k j = gI t k j) (hd : ∀ k j, gD t2 k j = gD t k j) (hm : ∀ k j, ¬ (k = 0 ∨ k = 4 ∨ 1020 ≤ k ∨ (1016 ≤ k ∧ k ≤ 1019 ∧ j = p0) ∨ (k = 3 ∧ j = 0)) → gI u2 k j = gI u k j) (hmd : ∀ k j, gD u2 k j = gD u k j) (hp : p0 < 40 → RP t2 u2 p0) (h30 : gI t2 30 0 = gI u2 3 0) : REL t2 u2 := by
  obtain ⟨h1, h2, h3, h4, h5, h6⟩ := h
  refine ⟨fun j hj => RS_c (h1 j hj) (fun k hk => hc k j (by omega)) (hd 0 j) (fun k k1 k2 => hm k j (by omega)) (hmd 1009 j), fun l hl => RL_c (h2 l hl) (fun k k1 k2 => hc k l (by omega)) (hd 1 l) (fun k a k1 => hc k a (by omega)) (fun k j k1 k2 => hm k j (by omega)) (hmd 1015 l), fun p hp2 => ?_, h30, ?_, ?_⟩
  · by_cases e : p = p0
    · subst e
      exact hp hp2
    · exact RP_c (h3 p hp2) (fun k k1 k2 => hc k p (by omega)) (fun k k1 k2 => hm k p (by omega))
  · rw [hc 31 0 (by omega), hm 2 0 (by omega)]; exact h5
  · rw [hc 32 0 (by omega), hm 1 0 (by omega)]; exact h6
theorem nI_lt40 {n : Nat} (hn : n ≤ 40) : (nI n < 40) ↔ ¬ nI n = 40 := by
  constructor
  · intro h e
    rw [e] at h
    exact absurd h (by decide)
  · intro h
    have hlt : n < 40 := by
      rcases Nat.lt_or_ge n 40 with q | q
      · exact q
      · have e : n = 40 := by omega
        subst e
        exact absurd rfl h
    exact nI_lt (b := 40) hlt (by omega)
theorem A_post {t u : Mem} (ho : OKX t) (h : REL t u) {x a z w : Int32} {n : Nat} {r : Int32} {t2 : Mem} {r2 : Int32} {u2 : Mem} (h1 : postR t x a z w = (n, r, t2)) (h2 : mPost u x a z w = (r2, u2)) : REL t2 u2 ∧ gI u2 0 0 = nI n ∧ (n = 0 → r = r2) := by
  have bad : ∀ {v : Int32} {n0 n : Nat} {r : Int32} {t2 : Mem} {r2 : Int32} {u2 : Mem}, ¬ n0 = 0 → v = nI n0 → ((n0, 0, t) : Nat × Int32 × Mem) = (n, r, t2) → ((0, pI u 0 0 v) : Int32 × Mem) = (r2, u2) → REL t2 u2 ∧ gI u2 0 0 = nI n ∧ (n = 0 → r = r2) := by
    intro v n0 n r t2 r2 u2 hn hv g1 g2
    cases g1; cases g2
    exact ⟨REL_th h, hv, fun q => absurd q hn⟩
  rw [postR] at h1
  rw [mPost] at h2
  by_cases c1 : plz x a = 0
  · rw [if_pos c1] at h1 h2
    exact bad (by decide) rfl h1 h2
  rw [if_neg c1] at h1 h2
  by_cases c2 : isW z 1 1000 = 0
  · rw [if_pos c2] at h1 h2
    exact bad (by decide) rfl h1 h2
  rw [if_neg c2] at h1 h2
  by_cases c3 : isW w 0 9 = 0
  · rw [if_pos c3] at h1 h2
    exact bad (by decide) rfl h1 h2
  rw [if_neg c3] at h1 h2
  obtain ⟨n0, hn0, en0⟩ := OKX_posts ho
  have eu0 : gI u 3 0 = nI n0 := by rw [← h.2.2.2.1]; exact en0
  rw [en0] at h1
  rw [eu0] at h2
  by_cases c4 : nI n0 = 40
  · rw [if_neg (fun q => ((nI_lt40 hn0).mp q) c4)] at h1
    rw [if_pos c4] at h2
    exact bad (by decide) rfl h1 h2
  rw [if_pos ((nI_lt40 hn0).mpr c4)] at h1
  rw [if_neg c4] at h2
  obtain ⟨l, a0, hl, ha, ex, ea, e1, e2, hj⟩ := jj_of c1
  obtain ⟨s, hs, es0⟩ := isW_n (n := 9) (by decide) c3
  have es : cl w = s := cl_of es0 (by omega)
  have hr := h.1 (12 * l + a0) (by omega)
  obtain ⟨q1, q2, q3, q4, q5, q6, q7⟩ := h.2.1 l hl
  have hn40 : n0 < 40 := by
    rcases Nat.lt_or_ge n0 40 with q | q
    · exact q
    · exact absurd (by rw [show n0 = 40 by omega]; rfl) c4
  have hcl : cl (nI n0) = n0 := cl_of rfl (by omega)
  have href : L_refuses t (cl x) (cl a) = mPoR u x a := by
    unfold L_refuses mPoR
    rw [hj, e1, e2, q6 a0 ha, hr.1, q1]
  rw [href] at h1
  by_cases c5 : mPoR u x a = 0
  · rw [if_pos c5] at h1 h2
    have hh : L_holds (postT t x a z) (cl x) (cl a) z (cl w) = mPoH u x a z w := by
      have k1 : gI (postT t x a z) 6 (12 * l + a0) = gI t 6 (12 * l + a0) := by
        simp only [postT, P_comeIn]; rw [gI_pI, if_neg (by omega), gI_pI, if_neg (by omega), gI_pI, if_neg (by omega), gI_pI, if_neg (by omega), gI_pI, if_neg (by omega)]
      have k2 : gI (postT t x a z) 12 l = gI t 12 l := by
        simp only [postT, P_comeIn]; rw [gI_pI, if_neg (by omega), gI_pI, if_neg (by omega), gI_pI, if_neg (by omega), gI_pI, if_neg (by omega), gI_pI, if_neg (by omega)]
      have k3 : gI (postT t x a z) (1017 + l) s = gI t (1017 + l) s := by
        simp only [postT, P_comeIn]; rw [gI_pI, if_neg (by omega), gI_pI, if_neg (by omega), gI_pI, if_neg (by omega), gI_pI, if_neg (by omega), gI_pI, if_neg (by omega)]
      have k4 : gI (postT t x a z) 11 l = gI t 11 l := by
        simp only [postT, P_comeIn]; rw [gI_pI, if_neg (by omega), gI_pI, if_neg (by omega), gI_pI, if_neg (by omega), gI_pI, if_neg (by omega), gI_pI, if_neg (by omega)]
      unfold L_holds mPoH mPoK
      rw [hj, e1, e2, es, k1, k2, k3, k4, q3, q2, q7 s (by omega)]
      by_cases c6 : gI u 1001 (12 * l + a0) = -1
      · rw [if_pos c6, if_pos (hr.2.2.2.2.2.2.2.2.1 (by rw [hr.1]; exact c6))]
      · rw [if_neg c6, hr.2.2.2.2.2.2.2.1 (by rw [hr.1]; exact c6)]
    rw [hh, hcl] at h1
    have base : ∀ v : Int32, REL (pI (postT t x a z) 23 n0 v) (pI (mPoT u x a z) 1019 n0 v) := by
      intro v
      refine REL_posts (p0 := n0) h (fun k j hk => ?_) (fun _ _ => rfl) (fun k j hk => ?_) (fun _ _ => rfl) (fun _ => ?_) ?_
      · simp only [postT, P_comeIn, en0, hcl]
        rw [gI_pI, if_neg (by omega), gI_pI, if_neg (by omega), gI_pI, if_neg (by omega), gI_pI, if_neg (by omega), gI_pI, if_neg (by omega), gI_pI, if_neg (by omega)]
      · simp only [mPoT, eu0, hcl]
        rw [gI_pI, if_neg (by omega), gI_pI, if_neg (by omega), gI_pI, if_neg (by omega), gI_pI, if_neg (by omega), gI_pI, if_neg (by omega), gI_pI, if_neg (by omega)]
      · simp only [RP, postT, P_comeIn, mPoT, en0, eu0, hcl, gI_pI]
        simp
      · simp only [postT, P_comeIn, mPoT, en0, eu0, hcl, gI_pI]
        simp
    have b0 : pI (postT t x a z) 23 n0 0 = postT t x a z := by
      simp only [postT, P_comeIn, en0, hcl]
      unfold pI
      congr 1
      funext k j
      dsimp only
      by_cases e : k = 23 ∧ j = n0
      · rw [if_pos e, if_pos e]
      · rw [if_neg e, if_neg e]
    cases h1; cases h2
    unfold mPoU
    rw [eu0, hcl]
    by_cases c6 : mPoH u x a z w = 0
    · rw [if_pos c6, if_pos c6]
      have hb := base 1
      refine ⟨?_, ?_, fun _ => rfl⟩
      · unfold passR
        exact REL_eq hb EQC_deliver EQM_pass
      · rw [EQM_pass.1 0 0 (by omega), gI_pI, if_neg (by omega)]
        simp only [mPoT, gI_pI]
        simp
        rfl
    · rw [if_neg c6, if_neg c6]
      have hb := base 0
      rw [b0] at hb
      refine ⟨REL_eq hb EQC_tell EQM_tell, ?_, fun _ => rfl⟩
      rw [EQM_tell.1 0 0 (by omega), gI_pI, if_neg (by omega)]
      simp only [mPoT, gI_pI]
      simp
      rfl
  · rw [if_neg c5] at h1 h2
    exact bad (by decide) rfl h1 h2
theorem lp_cg {S : Type} {f g : Nat → S → S} {N : Nat} (hs : ∀ a t, a < N → f a t = g a t) : ∀ (n a : Nat) (t : S), a + n ≤ N → lp f n a t = lp g n a t := by
  intro n
  induction n with
  | zero => intro a t _; rfl
  | succ n ih =>
    intro a t h
    show lp f n (a + 1) (f a t) = lp g n (a + 1) (g a t)
    rw [hs a t (by omega)]
    exact ih (a + 1) _ (by omega)
theorem cnt_eq {t u : Mem} (ho : OKX t) (h : REL t u) (k : Int32) : cntR t k = mCnt u k := by
  obtain ⟨n0, hn0, en0⟩ := OKX_posts ho
  unfold cntR mCnt
  rw [← h.2.2.2.1]
  have hcl : cl (gI t 30 0) = n0 := cl_of en0 (by omega)
  rw [hcl]
  refine lp_cg (N := n0) (fun a m ha => ?_) n0 0 0 (by omega)
  have hp := h.2.2.1 a (by omega)
  rw [hp.2.2.2]
theorem isP_of {p : Int32} {n0 : Nat} (hn : n0 ≤ 40) (h : ¬ isW p 0 (nI n0 - 1) = 0) : ∃ q, q < n0 ∧ p = nI q := by
  rcases Nat.eq_zero_or_pos n0 with e | e
  · subst e
    exfalso
    apply h
    unfold isW
    split
    · rfl
    · rename_i h1
      rw [if_pos]
      have h2 := Int32.not_lt.mp h1
      exact Int32.lt_of_lt_of_le (by decide) h2
  · have e1 : nI n0 - 1 = nI (n0 - 1) := by
      have e2 : nI n0 = nI (n0 - 1) + 1 := by rw [nI_1, show n0 - 1 + 1 = n0 by omega]
      rw [e2]
      exact Int32.add_sub_cancel _ _
    rw [e1] at h
    obtain ⟨q, hq, ep⟩ := isW_n (n := n0 - 1) (nI_toInt (by omega)) h
    exact ⟨q, by omega, ep⟩
theorem OKX_judU {t : Mem} {p h : Int32} (ho : OKX t) : OKX (judU t p h) := by
  have h1 : OKX (judT t p h) := by
    unfold judT
    split
    · exact OKX_pass ho
    · exact OKX_f ho (by decide)
  unfold judU
  split
  · exact OKX_add h1
  · exact h1
theorem A_judge {t u : Mem} (ho : OKX t) (h : REL t u) {m0 p0 h0 : Int32} {n : Nat} {r : Int32} {t2 : Mem} {r2 : Int32} {u2 : Mem} (h1 : judR t m0 p0 h0 = (n, r, t2)) (h2 : mJud u m0 p0 h0 = (r2, u2)) : REL t2 u2 ∧ gI u2 0 0 = nI n ∧ (n = 0 → r = r2) := by
  have bad : ∀ {v : Int32} {n0 n : Nat} {r : Int32} {t2 : Mem} {r2 : Int32} {u2 : Mem}, ¬ n0 = 0 → v = nI n0 → ((n0, 0, t) : Nat × Int32 × Mem) = (n, r, t2) → ((0, pI u 0 0 v) : Int32 × Mem) = (r2, u2) → REL t2 u2 ∧ gI u2 0 0 = nI n ∧ (n = 0 → r = r2) := by
    intro v n0 n r t2 r2 u2 hn hv g1 g2
    cases g1; cases g2
    exact ⟨REL_th h, hv, fun q => absurd q hn⟩
  rw [judR] at h1
  rw [mJud] at h2
  by_cases c1 : isW m0 0 11 = 0
  · rw [if_pos c1] at h1 h2
    exact bad (by decide) rfl h1 h2
  rw [if_neg c1] at h1 h2
  by_cases c2 : isW h0 0 2 = 0
  · rw [if_pos c2] at h1 h2
    exact bad (by decide) rfl h1 h2
  rw [if_neg c2] at h1 h2
  obtain ⟨n0, hn0, en0⟩ := OKX_posts ho
  have eu0 : gI u 3 0 = nI n0 := by rw [← h.2.2.2.1]; exact en0
  rw [en0] at h1
  rw [eu0] at h2
  by_cases c3 : isW p0 0 (nI n0 - 1) = 0
  · rw [if_pos c3] at h1 h2
    exact bad (by decide) rfl h1 h2
  rw [if_neg c3] at h1 h2
  obtain ⟨q, hq, ep⟩ := isP_of hn0 c3
  have hcp : cl p0 = q := cl_of ep (by omega)
  have hp := h.2.2.1 q (by omega)
  obtain ⟨ll, hll, ell⟩ := OKX_list ho q
  have hcl : cl (gI t 20 q) = ll := cl_of ell (by omega)
  obtain ⟨mm, hmm, em⟩ := isW_n (n := 11) (by decide) c1
  have hcm : cl m0 = mm := cl_of em (by omega)
  rw [hcp, hp.2.2.2, hcl, hcm] at h1
  rw [hcp, ← hp.1, hcl, hcm] at h2
  by_cases c4 : gI u 1019 q = 0
  · rw [if_pos c4] at h1 h2
    have hr := h.1 (12 * ll + mm) (by omega)
    by_cases c5 : gI u 1001 (12 * ll + mm) = -1
    · rw [if_pos (hr.2.2.2.2.2.2.2.2.1 (by rw [hr.1]; exact c5))] at h1
      rw [if_pos c5] at h2
      exact bad (by decide) rfl h1 h2
    · rw [hr.2.2.2.2.2.2.2.1 (by rw [hr.1]; exact c5)] at h1
      rw [if_neg c5] at h2
      by_cases c6 : gI u 1007 (12 * ll + mm) = 0
      · rw [if_pos c6] at h1 h2
        exact bad (by decide) rfl h1 h2
      · rw [if_neg c6] at h1 h2
        cases h1; cases h2
        have base : ∀ v : Int32, REL (pI t 23 q v) (pI (pI u 0 0 0) 1019 q v) := by
          intro v
          refine REL_posts (p0 := q) h (fun k j hk => ?_) (fun _ _ => rfl) (fun k j hk => ?_) (fun _ _ => rfl) (fun _ => ?_) ?_
          · rw [gI_pI, if_neg (by omega)]
          · rw [gI_pI, if_neg (by omega), gI_pI, if_neg (by omega)]
          · simp only [RP, gI_pI]
            simp
            exact ⟨hp.1, hp.2.1, hp.2.2.1⟩
          · rw [gI_pI, if_neg (by omega), gI_pI, if_neg (by omega), gI_pI, if_neg (by omega)]
            exact h.2.2.2.1
        have key : REL (judU t p0 h0) (mJudU u p0 h0) ∧ gI (mJudU u p0 h0) 0 0 = 0 := by
          unfold judU judT mJudU mJudT mJudS
          rw [hcp]
          by_cases d0 : h0 = 0
          · have d1 : ¬ h0 = 1 := by rw [d0]; decide
            rw [if_neg d1, if_pos d0, if_neg d1, if_pos d0, if_pos d0]
            unfold passR
            refine ⟨REL_eq (base 1) EQC_deliver EQM_pass, ?_⟩
            rw [EQM_pass.1 0 0 (by omega), gI_pI, if_neg (by omega), gI_pI, if_pos ⟨rfl, rfl⟩]
          · rw [if_neg d0, if_neg d0, if_neg d0]
            by_cases d1 : h0 = 1
            · rw [if_pos d1, if_pos d1]
              refine ⟨REL_eq (base 2) EQC_add EQM_send, ?_⟩
              rw [EQM_send.1 0 0 (by omega), gI_pI, if_neg (by omega), gI_pI, if_pos ⟨rfl, rfl⟩]
            · rw [if_neg d1, if_neg d1]
              refine ⟨base 2, ?_⟩
              rw [gI_pI, if_neg (by omega), gI_pI, if_pos ⟨rfl, rfl⟩]
        exact ⟨key.1, key.2, fun _ => cnt_eq (OKX_judU ho) key.1 0⟩
  · rw [if_neg c4] at h1 h2
    exact bad (by decide) rfl h1 h2
