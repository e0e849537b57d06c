/-! what always holds of the class's memory is kept by every call -/
theorem K_leave {t : Mem} {d : Nat} (ho : OKX t) (hA : ASK d 36 t) {x a : Int32} {n : Nat} {r : Int32} {t2 : Mem} (h1 : leaveR t x a = (n, r, t2)) : OKX t2 ∧ ASK d 36 t2 := by
  rw [show t2 = (leaveR t x a).2.2 by rw [h1]]
  unfold leaveR
  split
  · exact ⟨ho, hA⟩
  · split
    · exact ⟨ho, hA⟩
    · refine ⟨OKX_end ho, ASK_c hA (by simp only [S_end, gI_pI]; simp) (fun j _ h0 => ?_) (Nat.le_refl _)⟩
      simp only [S_end, gI_pI] at h0 ⊢
      by_cases e : j = jj x a
      · exfalso
        rw [e] at h0
        simp at h0
      · simp [e] at h0 ⊢
        exact h0
theorem K_way {t : Mem} {d : Nat} (ho : OKX t) (hA : ASK d 36 t) {x a w : Int32} {n : Nat} {r : Int32} {t2 : Mem} (h1 : wayR t x a w = (n, r, t2)) : OKX t2 ∧ ASK d 36 t2 := by
  rw [show t2 = (wayR t x a w).2.2 by rw [h1]]
  unfold wayR
  repeat' split
  · exact ⟨ho, hA⟩
  · exact ⟨ho, hA⟩
  · exact ⟨ho, hA⟩
  · exact ⟨OKX_f ho (by decide), ASK_c hA (by rw [gI_pI, if_neg (by omega)]) (fun j _ h0 => ⟨by rw [gI_pI, if_neg (by omega)] at h0; exact h0, by rw [gI_pI, if_neg (by omega)]⟩) (Nat.le_refl _)⟩
theorem K_moderator {t : Mem} {d : Nat} (ho : OKX t) (hA : ASK d 36 t) {x a v : Int32} (hz : b01 v) {n : Nat} {r : Int32} {t2 : Mem} (h1 : modR t x a v = (n, r, t2)) : OKX t2 ∧ ASK d 36 t2 := by
  rw [show t2 = (modR t x a v).2.2 by rw [h1]]
  unfold modR
  repeat' split
  · exact ⟨ho, hA⟩
  · exact ⟨ho, hA⟩
  · exact ⟨ho, hA⟩
  · exact ⟨OKX_b ho hz (by decide), ASK_c hA (by rw [gI_pI, if_neg (by omega)]) (fun j _ h0 => ⟨by rw [gI_pI, if_neg (by omega)] at h0; exact h0, by rw [gI_pI, if_neg (by omega)]⟩) (Nat.le_refl _)⟩
theorem K_ban {t : Mem} {d : Nat} (ho : OKX t) (hA : ASK d 36 t) {x a v : Int32} (hz : b01 v) {n : Nat} {r : Int32} {t2 : Mem} (h1 : banR t x a v = (n, r, t2)) : OKX t2 ∧ ASK d 36 t2 := by
  rw [show t2 = (banR t x a v).2.2 by rw [h1]]
  unfold banR
  have k1 : OKX (pI t (1014 + cl x) (cl a) v) := OKX_b ho hz (by omega)
  have k2 : ASK d 36 (pI t (1014 + cl x) (cl a) v) := ASK_c hA (by rw [gI_pI, if_neg (by omega)]) (fun j _ h0 => ⟨by rw [gI_pI, if_neg (by omega)] at h0; exact h0, by rw [gI_pI, if_neg (by omega)]⟩) (Nat.le_refl _)
  split
  · exact ⟨ho, hA⟩
  · show OKX (if v = 0 then _ else _) ∧ ASK d 36 (if v = 0 then _ else _)
    split
    · exact ⟨k1, k2⟩
    · refine ⟨OKX_end k1, ASK_c k2 (by rw [S_end, gI_pI, if_neg (by omega), gI_pI, if_neg (by omega)]) (fun j _ h0 => ?_) (Nat.le_refl _)⟩
      rw [S_end, gI_pI, if_neg (by omega), gI_pI] at h0
      by_cases e : j = jj x a
      · rw [if_pos ⟨rfl, e⟩] at h0
        exact absurd h0 (by decide)
      · rw [if_neg (fun z => e z.2)] at h0
        exact ⟨h0, by rw [S_end, gI_pI, if_neg (by omega), gI_pI, if_neg (by omega)]⟩
theorem K_told {t : Mem} {x a w : Int32} {n : Nat} {r : Int32} {t2 : Mem} (h1 : toldR t x a w = (n, r, t2)) : t2 = t := by
  rw [show t2 = (toldR t x a w).2.2 by rw [h1]]
  unfold toldR
  repeat' split
  all_goals rfl
theorem K_score {t : Mem} {x a : Int32} {n : Nat} {r : UInt64} {t2 : Mem} (h1 : scoreR t x a = (n, r, t2)) : t2 = t := by
  rw [show t2 = (scoreR t x a).2.2 by rw [h1]]
  unfold scoreR
  repeat' split
  all_goals rfl
theorem K_sent {t : Mem} {k w : Int32} {n : Nat} {r : Int32} {t2 : Mem} (h1 : sentR t k w = (n, r, t2)) : t2 = t := by
  rw [show t2 = (sentR t k w).2.2 by rw [h1]]
  unfold sentR
  repeat' split
  all_goals rfl
theorem K_count {t : Mem} {w : Int32} {n : Nat} {r : Int32} {t2 : Mem} (h1 : countR t w = (n, r, t2)) : t2 = t := by
  rw [show t2 = (countR t w).2.2 by rw [h1]]
  exact countR_t
theorem K_live {t : Mem} {d j0 : Nat} (ho : OKX t) (hA : ASK d 36 t) : OKX (S_becomeLive t j0 (gI t 32 0)) ∧ ASK d 36 (S_becomeLive t j0 (gI t 32 0)) := by
  refine ⟨OKX_live ho, ASK_c hA (by simp only [S_becomeLive, gI_pI, gI_pD]; simp) (fun j _ h0 => ?_) (Nat.le_refl _)⟩
  simp only [S_becomeLive, gI_pI, gI_pD] at h0 ⊢
  by_cases e : j = j0
  · exfalso
    rw [e] at h0
    simp at h0
  · simp [e] at h0 ⊢
    exact h0
theorem K_renew {t : Mem} {d : Nat} (ho : OKX t) (hA : ASK d 36 t) {x a : Int32} {n : Nat} {r : Int32} {t2 : Mem} (h1 : renewR t x a = (n, r, t2)) : OKX t2 ∧ ASK d 36 t2 := by
  rw [show t2 = (renewR t x a).2.2 by rw [h1]]
  unfold renewR
  repeat' split
  · exact ⟨ho, hA⟩
  · exact ⟨ho, hA⟩
  · exact K_live ho hA
  · exact ⟨ho, hA⟩
theorem K_confirm {t : Mem} {d : Nat} (ho : OKX t) (hA : ASK d 36 t) {k0 : Int32} {n : Nat} {r : Int32} {t2 : Mem} (h1 : cfR t k0 n r t2) : OKX t2 ∧ ASK d 36 t2 := by
  rcases h1 with ⟨-, j, -, -, -, -, rfl⟩ | ⟨-, -, -, rfl⟩
  · exact K_live ho hA
  · exact ⟨ho, hA⟩
theorem K_ask {t : Mem} {d : Nat} (ho : OKX t) (hA : ASK d 36 t) {x a w : Int32} {n : Nat} {r : Int32} {t2 : Mem} (h1 : askR t x a w = (n, r, t2)) : OKX t2 ∧ ASK d 36 t2 := by
  rw [show t2 = (askR t x a w).2.2 by rw [h1]]
  unfold askR
  repeat' split
  · exact ⟨ho, hA⟩
  · exact ⟨ho, hA⟩
  · refine ⟨OKX_add (OKX_begin (OKX_f ho (by decide))), ASK_eq ⟨by simp only [S_begin, gI_pI, gI_pD]; simp; exact hA.1, fun j hj h0 => ?_⟩ EQC_add⟩
    by_cases e : j = jj x a
    · refine ⟨d, Nat.le_refl _, by omega, ?_⟩
      simp only [S_begin, gI_pI, gI_pD]
      simp [e]
      exact hA.1
    · simp only [S_begin, gI_pI, gI_pD] at h0 ⊢
      simp [e] at h0 ⊢
      have := hA.2 j hj h0
      rw [if_pos hj] at this
      simpa [hj] using this
  · exact ⟨ho, hA⟩
  · exact ⟨ho, hA⟩
theorem K_bounce {t : Mem} {d : Nat} (ho : OKX t) (hA : ASK d 36 t) {x a w : Int32} {n : Nat} {r : UInt64} {t2 : Mem} (h1 : bncR t x a w = (n, r, t2)) : OKX t2 ∧ ASK d 36 t2 := by
  rw [show t2 = (bncR t x a w).2.2 by rw [h1]]
  have hv : NN (bncV t x a w) := by
    unfold bncV
    refine NN_add (OKX_NN ho _) ?_
    split
    · exact NN_h
    · exact NN_1
  have k1 : OKX (bncT t x a w) := OKX_pD (OKX_f ho (by decide)) (fun _ => hv)
  have k2 : ASK d 36 (bncT t x a w) := ASK_c hA (by rw [bncT, gI_pD, gI_pI, if_neg (by omega)]) (fun j _ h0 => ⟨by rw [bncT, gI_pD, gI_pI, if_neg (by omega)] at h0; exact h0, by rw [bncT, gI_pD, gI_pI, if_neg (by omega)]⟩) (Nat.le_refl _)
  unfold bncR
  repeat' split
  · exact ⟨ho, hA⟩
  · exact ⟨ho, hA⟩
  · exact ⟨ho, hA⟩
  · exact ⟨k1, k2⟩
  · refine ⟨OKX_add (OKX_stop k1), ASK_eq (ASK_c k2 (by rw [S_stop, gI_pI, if_neg (by omega), gI_pI, if_neg (by omega), gI_pI, if_neg (by omega)]) (fun j _ h0 => ?_) (Nat.le_refl _)) EQC_add⟩
    simp only [S_stop, gI_pI] at h0 ⊢
    by_cases e : j = jj x a
    · exfalso
      rw [e] at h0
      simp at h0
    · simp [e] at h0 ⊢
      exact h0
  · exact ⟨ho, hA⟩
theorem nzD_01 (v : UInt64) : b01 (nzD v) := by
  unfold nzD
  split
  · exact Or.inl rfl
  · exact Or.inr rfl
theorem ASK_p {t : Mem} {d k0 j0 : Nat} {v : Int32} (hA : ASK d 36 t) (hk : k0 ≠ 0 ∧ k0 ≠ 3 ∧ k0 ≠ 32) : ASK d 36 (pI t k0 j0 v) := ASK_c hA (by rw [gI_pI, if_neg (by omega)]) (fun j _ h0 => ⟨by rw [gI_pI, if_neg (by omega)] at h0; exact h0, by rw [gI_pI, if_neg (by omega)]⟩) (Nat.le_refl _)
theorem K_setting {t : Mem} {d : Nat} (ho : OKX t) (hA : ASK d 36 t) {x w : Int32} {v : UInt64} {n : Nat} {r : UInt64} {t2 : Mem} (h1 : setR t x w v = (n, r, t2)) : OKX t2 ∧ ASK d 36 t2 := by
  rw [show t2 = (setR t x w v).2.2 by rw [h1]]
  unfold setR
  repeat' split
  · exact ⟨ho, hA⟩
  · exact ⟨OKX_b ho (nzD_01 v) (by decide), ASK_p hA (by decide)⟩
  · exact ⟨OKX_b ho (nzD_01 v) (by decide), ASK_p hA (by decide)⟩
  · exact ⟨ho, hA⟩
  · exact ⟨OKX_f ho (by decide), ASK_p hA (by decide)⟩
  · exact ⟨ho, hA⟩
  · exact ⟨OKX_f ho (by decide), ASK_p hA (by decide)⟩
  · exact ⟨ho, hA⟩
  · exact ⟨OKX_pD ho (fun q => absurd q (by decide)), hA⟩
  · exact ⟨ho, hA⟩
  · exact ⟨OKX_b ho (nzD_01 v) (by omega), ASK_p hA (by omega)⟩
theorem K_post {t : Mem} {d : Nat} (ho : OKX t) (hA : ASK d 36 t) {x a z w : Int32} {n : Nat} {r : Int32} {t2 : Mem} (h1 : postR t x a z w = (n, r, t2)) : OKX t2 ∧ ASK d 36 t2 := by
  rw [show t2 = (postR t x a z w).2.2 by rw [h1]]
  unfold postR
  by_cases c1 : plz x a = 0
  · rw [if_pos c1]; exact ⟨ho, hA⟩
  rw [if_neg c1]
  by_cases c2 : isW z 1 1000 = 0
  · rw [if_pos c2]; exact ⟨ho, hA⟩
  rw [if_neg c2]
  by_cases c3 : isW w 0 9 = 0
  · rw [if_pos c3]; exact ⟨ho, hA⟩
  rw [if_neg c3]
  by_cases c4 : gI t 30 0 < 40
  · rw [if_pos c4]
    by_cases c5 : L_refuses t (cl x) (cl a) = 0
    · rw [if_pos c5]
      obtain ⟨l, a0, hl, ha, ex, ea, e1, e2, hj⟩ := jj_of c1
      obtain ⟨n0, hn0, en0⟩ := OKX_posts ho
      have hlt : n0 < 40 := by
        rw [en0] at c4
        rcases Nat.lt_or_ge n0 40 with q | q
        · exact q
        · exact absurd (by rw [show n0 = 40 by omega]; rfl) ((nI_lt40 hn0).mp c4)
      have k1 : OKX (postT t x a z) := OKX_comeIn (OKX_pI ho (fun q => absurd q (by omega)) (fun q => absurd q (by omega)) (fun _ => ⟨n0 + 1, by omega, by rw [en0]; exact nI_1 n0⟩) (fun q => absurd q (by omega))) ⟨l, hl, ex⟩
      have k2 : ASK d 36 (postT t x a z) := ASK_p (ASK_p (ASK_p (ASK_p (ASK_p hA (by decide)) (by decide)) (by decide)) (by decide)) (by decide)
      show OKX (if _ then _ else _) ∧ ASK d 36 (if _ then _ else _)
      split
      · exact ⟨OKX_pass k1, ASK_eq (ASK_p k2 (by decide)) EQC_deliver⟩
      · exact ⟨OKX_tell k1, ASK_eq k2 EQC_tell⟩
    · rw [if_neg c5]; exact ⟨ho, hA⟩
  · rw [if_neg c4]; exact ⟨ho, hA⟩
theorem K_judge {t : Mem} {d : Nat} (ho : OKX t) (hA : ASK d 36 t) {m0 p0 h0 : Int32} {n : Nat} {r : Int32} {t2 : Mem} (h1 : judR t m0 p0 h0 = (n, r, t2)) : OKX t2 ∧ ASK d 36 t2 := by
  have k : ASK d 36 (judU t p0 h0) := by
    have k1 : ASK d 36 (judT t p0 h0) := by
      unfold judT
      split
      · exact ASK_eq (ASK_p hA (by decide)) EQC_deliver
      · exact ASK_p hA (by decide)
    unfold judU
    split
    · exact ASK_eq k1 EQC_add
    · exact k1
  rw [show t2 = (judR t m0 p0 h0).2.2 by rw [h1]]
  unfold judR
  repeat' split
  · exact ⟨ho, hA⟩
  · exact ⟨ho, hA⟩
  · exact ⟨ho, hA⟩
  · exact ⟨ho, hA⟩
  · exact ⟨OKX_judU ho, k⟩
  · exact ⟨ho, hA⟩
theorem K_tick {t : Mem} (ho : OKX t) {w : Int32} {n : Nat} {r : Int32} {t2 : Mem} (h1 : tickR t w = (n, r, t2)) : OKX t2 := by
  rw [show t2 = (tickR t w).2.2 by rw [h1]]
  unfold tickR
  split
  · exact ho
  · exact OKX_tick ho
