/-! what always holds of the reference's memory is kept by every call -/
def np (u : Mem) : Nat → Nat
  | 0 => 0
  | n + 1 => np u n + (if gI u 1019 n = 1 then 1 else 0)
theorem np_le {u : Mem} : ∀ n, np u n ≤ n := by
  intro n
  induction n with
  | zero => exact Nat.le_refl _
  | succ n ih =>
    unfold np
    split <;> omega
theorem np_lt {u : Mem} {r : Nat} (hr : ¬ gI u 1019 r = 1) : ∀ n, r < n → np u n + 1 ≤ n := by
  intro n
  induction n with
  | zero => intro h; omega
  | succ n ih =>
    intro h
    unfold np
    by_cases e : r = n
    · subst e
      rw [if_neg hr]
      have := np_le (u := u) r
      omega
    · have := ih (by omega)
      split <;> omega
theorem np_c {u u2 : Mem} : ∀ n, (∀ p, p < n → gI u2 1019 p = gI u 1019 p) → np u2 n = np u n := by
  intro n
  induction n with
  | zero => intro _; rfl
  | succ n ih =>
    intro h
    unfold np
    rw [ih (fun p hp => h p (by omega)), h n (by omega)]
theorem np_set {u : Mem} {q : Nat} {v : Int32} (hq : ¬ gI u 1019 q = 1) : ∀ n, q < n → np (pI u 1019 q v) n = np u n + (if v = 1 then 1 else 0) := by
  intro n
  induction n with
  | zero => intro h; omega
  | succ n ih =>
    intro h
    unfold np
    by_cases e : q = n
    · subst e
      have e2 : gI (pI u 1019 q v) 1019 q = v := by rw [gI_pI, if_pos ⟨rfl, rfl⟩]
      rw [np_c (u := u) q (fun p hp => by rw [gI_pI, if_neg (by omega)]), e2, if_neg hq]
      omega
    · have e2 : gI (pI u 1019 q v) 1019 n = gI u 1019 n := by rw [gI_pI, if_neg (by omega)]
      rw [ih (by omega), e2]
      omega
/-- the reference's memory but for THE OUTBOX -/
def EQS (u u2 : Mem) : Prop := (∀ k j, ¬ (k = 4 ∨ 1023 ≤ k) → gI u2 k j = gI u k j) ∧ ∀ k j, gD u2 k j = gD u k j
theorem EQS.rf {u : Mem} : EQS u u := ⟨fun _ _ _ => rfl, fun _ _ => rfl⟩
theorem EQS.tr {a b c : Mem} (h : EQS a b) (g : EQS b c) : EQS a c := ⟨fun k j hk => (g.1 k j hk).trans (h.1 k j hk), fun k j => (g.2 k j).trans (h.2 k j)⟩
theorem EQS_p {u : Mem} {k0 j0 : Nat} {v : Int32} (h : k0 = 4 ∨ 1023 ≤ k0) : EQS u (pI u k0 j0 v) := ⟨fun k j hk => by rw [gI_pI, if_neg (by omega)], fun _ _ => rfl⟩
theorem EQS_send {u : Mem} {a x s n : Int32} : EQS u (mSend u a x s n) := by
  unfold mSend
  split
  · exact EQS_p (by omega)
  · exact ((((EQS_p (by omega)).tr (EQS_p (by omega))).tr (EQS_p (by omega))).tr (EQS_p (by omega))).tr (EQS_p (by omega))
theorem EQS_pasA {u : Mem} {l r : Nat} {p x : Int32} {a : Nat} : EQS u (mPasA l r p x a u) := by
  unfold mPasA
  split
  · exact EQS.rf
  · split
    · exact EQS.rf
    · exact EQS_send
theorem EQS_pasL {u : Mem} {l r : Nat} {p x : Int32} {z : Int32} : EQS u (lp (mPasF l r p x) 12 0 (u, z)).1 := lp_inv (fun y : Mem × Int32 => EQS u y.1) (fun a y h => by unfold mPasF; exact h.tr EQS_pasA) 12 0 (u, z) EQS.rf
theorem EQS_digL {u : Mem} {l : Nat} {x : Int32} : EQS u (lp (mDigF l x) 12 0 u) := lp_inv (EQS u) (fun a u2 h => by unfold mDigF; split; exact h; exact h.tr EQS_send) _ _ _ EQS.rf
theorem EQS_tell {u : Mem} {l : Nat} {x p : Int32} : EQS u (lp (mPoF l x p) 12 0 u) := lp_inv (EQS u) (fun a u2 h => by
  unfold mPoF
  split
  · exact h
  · split
    · exact h
    · exact h.tr EQS_send) _ _ _ EQS.rf
theorem lp_SM {f : Nat → Mem → Mem} (hf : ∀ a u B, SM u B → SM (f a u) (B + 1)) : ∀ (n a : Nat) (u : Mem) (B : Nat), SM u B → SM (lp f n a u) (B + n) := by
  intro n
  induction n with
  | zero => intro a u B h; exact h
  | succ n ih =>
    intro a u B h
    rw [show B + (n + 1) = B + 1 + n by omega]
    exact ih (a + 1) _ (B + 1) (hf a u B h)
theorem lp_SMp {f : Nat → Mem × Int32 → Mem × Int32} (hf : ∀ a z B, SM z.1 B → SM (f a z).1 (B + 1)) : ∀ (n a : Nat) (z : Mem × Int32) (B : Nat), SM z.1 B → SM (lp f n a z).1 (B + n) := by
  intro n
  induction n with
  | zero => intro a u B h; exact h
  | succ n ih =>
    intro a z B h
    rw [show B + (n + 1) = B + 1 + n by omega]
    exact ih (a + 1) _ (B + 1) (hf a z B h)
theorem SM_pasA {u : Mem} {l r : Nat} {p x : Int32} {a B : Nat} (h : SM u B) : SM (mPasA l r p x a u) (B + 1) := by
  unfold mPasA
  split
  · exact SM_up h (by omega)
  · split
    · exact SM_up h (by omega)
    · exact SM_send h
theorem SM_dig {u : Mem} {l B : Nat} {x : Int32} (h : SM u B) : SM (mDig u l x) (B + 12) := SM_f (lp_SM (fun a u B h => by
  unfold mDigF
  split
  · exact SM_up h (by omega)
  · exact SM_send h) 12 0 u B h) (by decide)
theorem SM_pass {u : Mem} {r B : Nat} {p : Int32} (h : SM u B) : SM (mPass u r p) (B + 24) := by
  have h1 : ∀ l x, SM (lp (mPasF l r p x) 12 0 (u, 0)).1 (B + 12) := fun l x => lp_SMp (fun a z B h => SM_pasA h) 12 0 (u, 0) B h
  unfold mPass
  split
  · exact SM_up (h1 _ _) (by omega)
  · have h2 : ∀ w b, SM w (B + 12) → SM (mPasT w (cl (gI u 1016 r)) r b) (B + 12) := fun w b z => SM_f (SM_f (SM_f z (by decide)) (by decide)) (by decide)
    unfold mPasB
    split
    · exact SM_up (h2 _ _ (h1 _ _)) (by omega)
    · exact SM_up (SM_dig (h2 _ _ (h1 _ _))) (by omega)
theorem SM_tell {u : Mem} {l B : Nat} {x p : Int32} (h : SM u B) : SM (lp (mPoF l x p) 12 0 u) (B + 12) := lp_SM (fun a u B h => by
  unfold mPoF
  split
  · exact SM_up h (by omega)
  · split
    · exact SM_up h (by omega)
    · exact SM_send h) 12 0 u B h
/-- the bundles hold at most N posts -/
def BND (u : Mem) (N : Nat) : Prop := ∀ v, v < 3 → ∃ b, b ≤ N ∧ gI u 1020 v = nI b
theorem BND_up {u : Mem} {N N2 : Nat} (h : BND u N) (hn : N ≤ N2) : BND u N2 := fun v hv => by
  obtain ⟨b, h1, h2⟩ := h v hv
  exact ⟨b, by omega, h2⟩
theorem BND_c {u u2 : Mem} {N : Nat} (h : BND u N) (hc : ∀ v, gI u2 1020 v = gI u 1020 v) : BND u2 N := fun v hv => by
  obtain ⟨b, h1, h2⟩ := h v hv
  exact ⟨b, h1, (hc v).trans h2⟩
theorem BND_dig {u : Mem} {l N : Nat} {x : Int32} (h : BND u N) : BND (mDig u l x) N := fun v hv => by
  unfold mDig
  rw [gI_pI]
  split
  · exact ⟨0, by omega, rfl⟩
  · rw [EQS_digL.1 1020 v (by omega)]
    exact h v hv
theorem BND_pass {u : Mem} {r N : Nat} {p : Int32} (h : BND u N) : BND (mPass u r p) (N + 1) := by
  have h1 : ∀ l x, BND (lp (mPasF l r p x) 12 0 (u, 0)).1 N := fun l x => BND_c h (fun v => EQS_pasL.1 1020 v (by omega))
  unfold mPass
  split
  · exact BND_up (h1 _ _) (by omega)
  · have h2 : ∀ w b l, BND w N → BND (mPasT w l r b) (N + 1) := fun w b l z v hv => by
      obtain ⟨b0, z1, z2⟩ := z v hv
      unfold mPasT
      rw [gI_pI]
      split
      · rename_i e
        exact ⟨b0 + 1, by omega, by rw [← e.2, z2]; exact nI_1 b0⟩
      · rw [gI_pI, if_neg (by omega), gI_pI, if_neg (by omega)]
        exact ⟨b0, by omega, z2⟩
    unfold mPasB
    split
    · exact h2 _ _ _ (h1 _ _)
    · exact BND_dig (h2 _ _ _ (h1 _ _))
def MI (i : Nat) (u : Mem) : Prop := SM u (300 * i) ∧ (∀ j, NN (gD u 1009 j)) ∧ (∀ j, b01 (gI u 1007 j)) ∧ (∀ j, b01 (gI u 1008 j)) ∧ (∀ j, ∃ v, v < 3 ∧ gI u 1016 j = nI v) ∧ ∃ n0, n0 ≤ 40 ∧ gI u 3 0 = nI n0 ∧ BND u (np u n0)
theorem MI_MOK {i : Nat} {u : Mem} (hi : i ≤ 2560) (h : MI i u) : MOK u := by
  obtain ⟨h1, h2, h3, h4, h5, n0, h6, h7, h8⟩ := h
  refine ⟨300 * i, n0, by omega, ⟨h1, h2⟩, h6, h7, h5, fun r hr h0 v hv => ?_, fun hn v hv => ?_, fun v hv => ?_, h3, h4⟩
  · obtain ⟨b, z1, z2⟩ := h8 v hv
    have := np_lt (u := u) (r := r) (by rw [h0]; decide) n0 hr
    exact ⟨b, by omega, z2⟩
  · obtain ⟨b, z1, z2⟩ := h8 v hv
    have := np_le (u := u) n0
    exact ⟨b, by omega, z2⟩
  · obtain ⟨b, z1, z2⟩ := h8 v hv
    have := np_le (u := u) n0
    exact ⟨b, by omega, z2⟩
/-- a change that touches nothing of it but the number of what was sent -/
theorem MI_c {i i2 : Nat} {u u2 : Mem} (h : MI i u) (hs : SM u2 (300 * i2)) (hd : ∀ j, NN (gD u2 1009 j)) (h7 : ∀ j, b01 (gI u2 1007 j)) (h8 : ∀ j, b01 (gI u2 1008 j)) (hc : ∀ k j, (k = 3 ∨ k = 1016 ∨ k = 1019 ∨ k = 1020) → gI u2 k j = gI u k j) : MI i2 u2 := by
  obtain ⟨-, -, -, -, h5, n0, h6, h9, h10⟩ := h
  refine ⟨hs, hd, h7, h8, fun j => ?_, n0, h6, ?_, ?_⟩
  · rw [hc 1016 j (by omega)]; exact h5 j
  · rw [hc 3 0 (by omega)]; exact h9
  · rw [np_c n0 (fun p _ => hc 1019 p (by omega))]
    exact BND_c h10 (fun v => hc 1020 v (by omega))
/-- an int of another place -/
theorem MI_p {i i2 k0 j0 : Nat} {u : Mem} {v : Int32} (h : MI i u) (hi : i ≤ i2) (hk : k0 ≠ 3 ∧ k0 ≠ 4 ∧ k0 ≠ 1007 ∧ k0 ≠ 1008 ∧ k0 ≠ 1016 ∧ k0 ≠ 1019 ∧ k0 ≠ 1020) : MI i2 (pI u k0 j0 v) := by
  have h0 := h
  obtain ⟨h1, h2, h3, h4, -⟩ := h0
  exact MI_c h (SM_f (SM_up h1 (by omega)) (by omega)) h2 (fun j => by rw [gI_pI, if_neg (by omega)]; exact h3 j) (fun j => by rw [gI_pI, if_neg (by omega)]; exact h4 j) (fun k j hkk => by rw [gI_pI, if_neg (by omega)])
theorem MI_b {i i2 k0 j0 : Nat} {u : Mem} {v : Int32} (h : MI i u) (hi : i ≤ i2) (hv : b01 v) (hk : k0 = 1007 ∨ k0 = 1008) : MI i2 (pI u k0 j0 v) := by
  have h0 := h
  obtain ⟨h1, h2, h3, h4, -⟩ := h0
  refine MI_c h (SM_f (SM_up h1 (by omega)) (by omega)) h2 (fun j => ?_) (fun j => ?_) (fun k j hkk => by rw [gI_pI, if_neg (by omega)])
  · rw [gI_pI]; split
    · exact hv
    · exact h3 j
  · rw [gI_pI]; split
    · exact hv
    · exact h4 j
theorem MI_d {i i2 k0 j0 : Nat} {u : Mem} {v : UInt64} (h : MI i u) (hi : i ≤ i2) (hv : k0 = 1009 → NN v) : MI i2 (pD u k0 j0 v) := by
  have h0 := h
  obtain ⟨h1, h2, h3, h4, -⟩ := h0
  refine MI_c h (SM_D (SM_up h1 (by omega))) (fun j => ?_) h3 h4 (fun k j hkk => rfl)
  rw [gD_pD]; split
  · rename_i e
    exact hv e.1.symm
  · exact h2 j
theorem MI_up {i i2 : Nat} {u : Mem} (h : MI i u) (hi : i ≤ i2) : MI i2 u := MI_c h (SM_up h.1 (by omega)) h.2.1 h.2.2.1 h.2.2.2.1 (fun _ _ _ => rfl)
/-- sends, up to so many -/
theorem MI_s {i i2 c : Nat} {u u2 : Mem} (h : MI i u) (he : EQS u u2) (hs : ∀ B, SM u B → SM u2 (B + c)) (hc : 300 * i + c ≤ 300 * i2) : MI i2 u2 := MI_c h (SM_up (hs _ h.1) hc) (fun j => by rw [he.2]; exact h.2.1 j) (fun j => by rw [he.1 1007 j (by omega)]; exact h.2.2.1 j) (fun j => by rw [he.1 1008 j (by omega)]; exact h.2.2.2.1 j) (fun k j hk => he.1 k j (by omega))
theorem MI_send {i : Nat} {u : Mem} {a x s n : Int32} (h : MI i u) : MI (i + 1) (mSend u a x s n) := MI_s (c := 1) h EQS_send (fun B z => SM_send z) (by omega)
theorem N_leave {i : Nat} {u : Mem} (h : MI i u) {x a : Int32} {r2 : Int32} {u2 : Mem} (h2 : mLeave u x a = (r2, u2)) : MI (i + 5) u2 := by
  rw [show u2 = (mLeave u x a).2 by rw [h2]]
  unfold mLeave
  repeat' split
  · exact MI_p h (by omega) (by decide)
  · exact MI_p h (by omega) (by decide)
  · exact MI_p (MI_p h (Nat.le_refl _) (by decide)) (by omega) (by decide)
theorem N_way {i : Nat} {u : Mem} (h : MI i u) {x a w : Int32} {r2 : Int32} {u2 : Mem} (h2 : mWay u x a w = (r2, u2)) : MI (i + 5) u2 := by
  rw [show u2 = (mWay u x a w).2 by rw [h2]]
  unfold mWay
  repeat' split
  · exact MI_p h (by omega) (by decide)
  · exact MI_p h (by omega) (by decide)
  · exact MI_p h (by omega) (by decide)
  · exact MI_p (MI_p h (Nat.le_refl _) (by decide)) (by omega) (by decide)
theorem N_moderator {i : Nat} {u : Mem} (h : MI i u) {x a v : Int32} (hz : b01 v) {r2 : Int32} {u2 : Mem} (h2 : mMod u x a v = (r2, u2)) : MI (i + 5) u2 := by
  rw [show u2 = (mMod u x a v).2 by rw [h2]]
  unfold mMod
  repeat' split
  · exact MI_p h (by omega) (by decide)
  · exact MI_p h (by omega) (by decide)
  · exact MI_p h (by omega) (by decide)
  · exact MI_b (MI_p h (Nat.le_refl _) (by decide)) (by omega) hz (by omega)
theorem N_ban {i : Nat} {u : Mem} (h : MI i u) {x a v : Int32} (hz : b01 v) {r2 : Int32} {u2 : Mem} (h2 : mBan u x a v = (r2, u2)) : MI (i + 5) u2 := by
  rw [show u2 = (mBan u x a v).2 by rw [h2]]
  unfold mBan
  split
  · exact MI_p h (by omega) (by decide)
  · have k1 : MI i (pI (pI u 0 0 0) 1008 (jj x a) v) := MI_b (MI_p h (Nat.le_refl _) (by decide)) (Nat.le_refl _) hz (by omega)
    show MI (i + 5) (if v = 0 then _ else _)
    split
    · exact MI_up k1 (by omega)
    · exact MI_p k1 (by omega) (by decide)
theorem N_score {i : Nat} {u : Mem} (h : MI i u) {x a : Int32} {r2 : UInt64} {u2 : Mem} (h2 : mScore u x a = (r2, u2)) : MI (i + 5) u2 := by
  rw [show u2 = (mScore u x a).2 by rw [h2]]
  unfold mScore
  repeat' split
  all_goals exact MI_p h (by omega) (by decide)
theorem N_told {i : Nat} {u : Mem} (h : MI i u) {x a w : Int32} {r2 : Int32} {u2 : Mem} (h2 : mTold u x a w = (r2, u2)) : MI (i + 5) u2 := by
  rw [show u2 = (mTold u x a w).2 by rw [h2]]
  unfold mTold
  repeat' split
  all_goals exact MI_p h (by omega) (by decide)
theorem N_sent {i : Nat} {u : Mem} (h : MI i u) {k w : Int32} {r2 : Int32} {u2 : Mem} (h2 : mSent u k w = (r2, u2)) : MI (i + 5) u2 := by
  rw [show u2 = (mSent u k w).2 by rw [h2]]
  unfold mSent
  split
  · exact MI_p h (by omega) (by decide)
  · split
    · exact MI_p h (by omega) (by decide)
    · split
      · exact MI_p h (by omega) (by decide)
      · exact MI_p h (by omega) (by decide)
theorem N_count {i : Nat} {u : Mem} (h : MI i u) {w : Int32} {r2 : Int32} {u2 : Mem} (h2 : mCount u w = (r2, u2)) : MI (i + 5) u2 := by
  obtain ⟨v, e⟩ := mCount_u (u := u) (w := w)
  rw [h2] at e
  rcases e with e | e
  · rw [show u2 = _ from e]; exact MI_p h (by omega) (by decide)
  · rw [show u2 = _ from e]; exact MI_p (MI_p h (Nat.le_refl _) (by decide)) (by omega) (by decide)
theorem N_renew {i : Nat} {u : Mem} (h : MI i u) {x a : Int32} {r2 : Int32} {u2 : Mem} (h2 : mRenew u x a = (r2, u2)) : MI (i + 5) u2 := by
  rw [show u2 = (mRenew u x a).2 by rw [h2]]
  unfold mRenew
  repeat' split
  · exact MI_p h (by omega) (by decide)
  · exact MI_p h (by omega) (by decide)
  · exact MI_d (MI_p (MI_p (MI_p h (Nat.le_refl _) (by decide)) (Nat.le_refl _) (by decide)) (Nat.le_refl _) (by decide)) (by omega) (fun _ => NN_0)
  · exact MI_p h (by omega) (by decide)
theorem N_confirm {i : Nat} {u : Mem} (h : MI i u) {k0 r2 : Int32} {u2 : Mem} (h2 : cfM u k0 r2 u2) : MI (i + 5) u2 := by
  rcases h2 with ⟨j, -, -, -, -, rfl⟩ | ⟨-, -, rfl⟩
  · exact MI_d (MI_p (MI_p (MI_p h (Nat.le_refl _) (by decide)) (Nat.le_refl _) (by decide)) (Nat.le_refl _) (by decide)) (by omega) (fun _ => NN_0)
  · exact MI_p h (by omega) (by decide)
theorem N_ask {i : Nat} {u : Mem} (h : MI i u) {x a w : Int32} {r2 : Int32} {u2 : Mem} (h2 : mAsk u x a w = (r2, u2)) : MI (i + 5) u2 := by
  rw [show u2 = (mAsk u x a w).2 by rw [h2]]
  unfold mAsk
  repeat' split
  · exact MI_p h (by omega) (by decide)
  · exact MI_p h (by omega) (by decide)
  · refine MI_up (MI_send (i := i) ?_) (by omega)
    unfold mAskT
    exact MI_p (MI_p (MI_p (MI_p (MI_d (MI_b (MI_p (MI_p (MI_p (MI_p h (Nat.le_refl _) (by decide)) (Nat.le_refl _) (by decide)) (Nat.le_refl _) (by decide)) (Nat.le_refl _) (by decide)) (Nat.le_refl _) (Or.inl rfl) (by omega)) (Nat.le_refl _) (fun _ => NN_0)) (Nat.le_refl _) (by decide)) (Nat.le_refl _) (by decide)) (Nat.le_refl _) (by decide)) (Nat.le_refl _) (by decide)
  · exact MI_p h (by omega) (by decide)
  · exact MI_p h (by omega) (by decide)
theorem N_bounce {i : Nat} {u : Mem} (h : MI i u) {x a w : Int32} {r2 : UInt64} {u2 : Mem} (h2 : mBnc u x a w = (r2, u2)) : MI (i + 5) u2 := by
  rw [show u2 = (mBnc u x a w).2 by rw [h2]]
  have hv : NN (mBncV u x a w) := by
    unfold mBncV
    refine NN_add (h.2.1 _) ?_
    split
    · exact NN_h
    · exact NN_1
  have k1 : MI i (mBncT u x a w) := MI_d (MI_p (MI_p h (Nat.le_refl _) (by decide)) (Nat.le_refl _) (by decide)) (Nat.le_refl _) (fun _ => hv)
  unfold mBnc
  repeat' split
  · exact MI_p h (by omega) (by decide)
  · exact MI_p h (by omega) (by decide)
  · exact MI_p h (by omega) (by decide)
  · exact MI_up k1 (by omega)
  · exact MI_up (MI_send (MI_p (MI_p (MI_p k1 (Nat.le_refl _) (by decide)) (Nat.le_refl _) (by decide)) (Nat.le_refl _) (by decide))) (by omega)
  · exact MI_p h (by omega) (by decide)
theorem N_setting {i : Nat} {u : Mem} (h : MI i u) {x w : Int32} {v : UInt64} {r2 : UInt64} {u2 : Mem} (h2 : mSet u x w v = (r2, u2)) : MI (i + 5) u2 := by
  rw [show u2 = (mSet u x w v).2 by rw [h2]]
  have k0 : MI i (pI u 0 0 0) := MI_p h (Nat.le_refl _) (by decide)
  unfold mSet
  repeat' split
  · exact MI_p k0 (by omega) (by decide)
  · exact MI_p k0 (by omega) (by decide)
  · exact MI_p k0 (by omega) (by decide)
  · exact MI_p k0 (by omega) (by decide)
  · exact MI_d k0 (by omega) (fun q => absurd q (by decide))
  · exact MI_p k0 (by omega) (by decide)
  · exact MI_p h (by omega) (by decide)
/-- the passing of a post whose row says so -/
theorem MI_pass {i r n0 N : Nat} {u : Mem} {p : Int32} (h1 : SM u (300 * i)) (h2 : ∀ j, NN (gD u 1009 j)) (h3 : ∀ j, b01 (gI u 1007 j)) (h4 : ∀ j, b01 (gI u 1008 j)) (h5 : ∀ j, ∃ v, v < 3 ∧ gI u 1016 j = nI v) (h6 : n0 ≤ 40) (h7 : gI u 3 0 = nI n0) (h8 : BND u N) (h9 : N + 1 ≤ np u n0) : MI (i + 1) (mPass u r p) := by
  have he := EQM_pass (u := u) (r := r) (p := p)
  refine ⟨SM_up (SM_pass h1) (by omega), fun j => by rw [he.2]; exact h2 j, fun j => by rw [he.1 1007 j (by omega)]; exact h3 j, fun j => by rw [he.1 1008 j (by omega)]; exact h4 j, fun j => by rw [he.1 1016 j (by omega)]; exact h5 j, n0, h6, by rw [he.1 3 0 (by omega)]; exact h7, ?_⟩
  rw [np_c (u := u) n0 (fun p _ => he.1 1019 p (by omega))]
  exact BND_up (BND_pass h8) h9
theorem N_post {i : Nat} {u : Mem} (h : MI i u) {x a z w : Int32} {r2 : Int32} {u2 : Mem} (h2 : mPost u x a z w = (r2, u2)) : MI (i + 5) u2 := by
  rw [show u2 = (mPost u x a z w).2 by rw [h2]]
  unfold mPost
  by_cases c1 : plz x a = 0
  · rw [if_pos c1]; exact MI_p h (by omega) (by decide)
  rw [if_neg c1]
  by_cases c2 : isW z 1 1000 = 0
  · rw [if_pos c2]; exact MI_p h (by omega) (by decide)
  rw [if_neg c2]
  by_cases c3 : isW w 0 9 = 0
  · rw [if_pos c3]; exact MI_p h (by omega) (by decide)
  rw [if_neg c3]
  by_cases c4 : gI u 3 0 = 40
  · rw [if_pos c4]; exact MI_p h (by omega) (by decide)
  rw [if_neg c4]
  by_cases c5 : mPoR u x a = 0
  · rw [if_pos c5]
    obtain ⟨l, a0, hl, ha, ex, ea, e1, e2, hj⟩ := jj_of c1
    obtain ⟨g1, g2, g3, g4, g5, n0, g6, g7, g8⟩ := h
    have hlt : n0 < 40 := by
      rcases Nat.lt_or_ge n0 40 with q | q
      · exact q
      · exact absurd (by rw [g7, show n0 = 40 by omega]; rfl) c4
    have hcl : cl (gI u 3 0) = n0 := cl_of g7 (by omega)
    show MI (i + 5) (mPoU u x a z w)
    unfold mPoU mPoT
    rw [hcl, g7]
    have b1 : ∀ v : Int32, SM (pI (pI (pI (pI (pI (pI u 0 0 0) 1016 n0 x) 1017 n0 a) 1018 n0 z) 3 0 (nI n0 + 1)) 1019 n0 v) (300 * i) := fun v => SM_f (SM_f (SM_f (SM_f (SM_f (SM_f g1 (by decide)) (by decide)) (by decide)) (by decide)) (by decide)) (by decide)
    have b3 : ∀ (v : Int32) j, b01 (gI (pI (pI (pI (pI (pI (pI u 0 0 0) 1016 n0 x) 1017 n0 a) 1018 n0 z) 3 0 (nI n0 + 1)) 1019 n0 v) 1007 j) := fun v j => by
      rw [gI_pI, if_neg (by omega), gI_pI, if_neg (by omega), gI_pI, if_neg (by omega), gI_pI, if_neg (by omega), gI_pI, if_neg (by omega), gI_pI, if_neg (by omega)]; exact g3 j
    have b4 : ∀ (v : Int32) j, b01 (gI (pI (pI (pI (pI (pI (pI u 0 0 0) 1016 n0 x) 1017 n0 a) 1018 n0 z) 3 0 (nI n0 + 1)) 1019 n0 v) 1008 j) := fun v j => by
      rw [gI_pI, if_neg (by omega), gI_pI, if_neg (by omega), gI_pI, if_neg (by omega), gI_pI, if_neg (by omega), gI_pI, if_neg (by omega), gI_pI, if_neg (by omega)]; exact g4 j
    have b5 : ∀ (v : Int32) j, ∃ v2, v2 < 3 ∧ gI (pI (pI (pI (pI (pI (pI u 0 0 0) 1016 n0 x) 1017 n0 a) 1018 n0 z) 3 0 (nI n0 + 1)) 1019 n0 v) 1016 j = nI v2 := fun v j => by
      rw [gI_pI, if_neg (by omega), gI_pI, if_neg (by omega), gI_pI, if_neg (by omega), gI_pI, if_neg (by omega), gI_pI]
      split
      · exact ⟨l, hl, ex⟩
      · rw [gI_pI, if_neg (by omega)]; exact g5 j
    have b7 : ∀ v : Int32, gI (pI (pI (pI (pI (pI (pI u 0 0 0) 1016 n0 x) 1017 n0 a) 1018 n0 z) 3 0 (nI n0 + 1)) 1019 n0 v) 3 0 = nI (n0 + 1) := fun v => by
      rw [gI_pI, if_neg (by omega), gI_pI, if_pos ⟨rfl, rfl⟩]; exact nI_1 n0
    have b8 : ∀ v : Int32, BND (pI (pI (pI (pI (pI (pI u 0 0 0) 1016 n0 x) 1017 n0 a) 1018 n0 z) 3 0 (nI n0 + 1)) 1019 n0 v) (np u n0) := fun v => BND_c g8 (fun y => by
      rw [gI_pI, if_neg (by omega), gI_pI, if_neg (by omega), gI_pI, if_neg (by omega), gI_pI, if_neg (by omega), gI_pI, if_neg (by omega), gI_pI, if_neg (by omega)])
    have b9 : ∀ v : Int32, np (pI (pI (pI (pI (pI (pI u 0 0 0) 1016 n0 x) 1017 n0 a) 1018 n0 z) 3 0 (nI n0 + 1)) 1019 n0 v) (n0 + 1) = np u n0 + (if v = 1 then 1 else 0) := fun v => by
      show np _ n0 + (if gI _ 1019 n0 = 1 then 1 else 0) = _
      have e2 : gI (pI (pI (pI (pI (pI (pI u 0 0 0) 1016 n0 x) 1017 n0 a) 1018 n0 z) 3 0 (nI n0 + 1)) 1019 n0 v) 1019 n0 = v := by rw [gI_pI, if_pos ⟨rfl, rfl⟩]
      rw [np_c (u := u) n0 (fun y hy => by
        rw [gI_pI, if_neg (by omega), gI_pI, if_neg (by omega), gI_pI, if_neg (by omega), gI_pI, if_neg (by omega), gI_pI, if_neg (by omega), gI_pI, if_neg (by omega)]), e2]
    split
    · exact MI_up (MI_pass (b1 1) g2 (b3 1) (b4 1) (b5 1) (by omega) (b7 1) (b8 1) (by rw [b9, if_pos rfl]; omega)) (by omega)
    · refine MI_up (MI_s (i := i) (i2 := i + 1) (c := 12) ⟨b1 0, g2, b3 0, b4 0, b5 0, n0 + 1, by omega, b7 0, BND_up (b8 0) (by rw [b9]; omega)⟩ EQS_tell (fun B z => SM_tell z) (by omega)) (by omega)
  · rw [if_neg c5]; exact MI_p h (by omega) (by decide)
theorem N_judge {i : Nat} {u : Mem} (h : MI i u) {m0 p0 h0 : Int32} {r2 : Int32} {u2 : Mem} (h2 : mJud u m0 p0 h0 = (r2, u2)) : MI (i + 5) u2 := by
  rw [show u2 = (mJud u m0 p0 h0).2 by rw [h2]]
  unfold mJud
  by_cases c1 : isW m0 0 11 = 0
  · rw [if_pos c1]; exact MI_p h (by omega) (by decide)
  rw [if_neg c1]
  by_cases c2 : isW h0 0 2 = 0
  · rw [if_pos c2]; exact MI_p h (by omega) (by decide)
  rw [if_neg c2]
  by_cases c3 : isW p0 0 (gI u 3 0 - 1) = 0
  · rw [if_pos c3]; exact MI_p h (by omega) (by decide)
  rw [if_neg c3]
  by_cases c4 : gI u 1019 (cl p0) = 0
  · rw [if_pos c4]
    have key : MI (i + 5) (mJudU u p0 h0) := by
      obtain ⟨g1, g2, g3, g4, g5, n0, g6, g7, g8⟩ := h
      rw [g7] at c3
      obtain ⟨q, hq, ep⟩ := isP_of g6 c3
      have hcp : cl p0 = q := cl_of ep (by omega)
      rw [hcp] at c4
      have b1 : ∀ v : Int32, SM (pI (pI u 0 0 0) 1019 q v) (300 * i) := fun v => SM_f (SM_f g1 (by decide)) (by decide)
      have b3 : ∀ (v : Int32) j, b01 (gI (pI (pI u 0 0 0) 1019 q v) 1007 j) := fun v j => by rw [gI_pI, if_neg (by omega), gI_pI, if_neg (by omega)]; exact g3 j
      have b4 : ∀ (v : Int32) j, b01 (gI (pI (pI u 0 0 0) 1019 q v) 1008 j) := fun v j => by rw [gI_pI, if_neg (by omega), gI_pI, if_neg (by omega)]; exact g4 j
      have b5 : ∀ (v : Int32) j, ∃ v2, v2 < 3 ∧ gI (pI (pI u 0 0 0) 1019 q v) 1016 j = nI v2 := fun v j => by rw [gI_pI, if_neg (by omega), gI_pI, if_neg (by omega)]; exact g5 j
      have b7 : ∀ v : Int32, gI (pI (pI u 0 0 0) 1019 q v) 3 0 = nI n0 := fun v => by rw [gI_pI, if_neg (by omega), gI_pI, if_neg (by omega)]; exact g7
      have b8 : ∀ v : Int32, BND (pI (pI u 0 0 0) 1019 q v) (np u n0) := fun v => BND_c g8 (fun y => by rw [gI_pI, if_neg (by omega), gI_pI, if_neg (by omega)])
      have b9 : ∀ v : Int32, np (pI (pI u 0 0 0) 1019 q v) n0 = np u n0 + (if v = 1 then 1 else 0) := fun v => by
        rw [np_set (by rw [gI_pI, if_neg (by omega), c4]; decide) n0 hq, np_c (u := u) n0 (fun y hy => by rw [gI_pI, if_neg (by omega)])]
      unfold mJudU mJudT mJudS
      rw [hcp]
      by_cases d0 : h0 = 0
      · have d1 : ¬ h0 = 1 := by rw [d0]; decide
        rw [if_neg d1, if_pos d0, if_pos d0]
        exact MI_up (MI_pass (b1 1) g2 (b3 1) (b4 1) (b5 1) g6 (b7 1) (b8 1) (by rw [b9, if_pos rfl]; omega)) (by omega)
      · rw [if_neg d0, if_neg d0]
        have k2 : MI i (pI (pI u 0 0 0) 1019 q 2) := ⟨b1 2, g2, b3 2, b4 2, b5 2, n0, g6, b7 2, BND_up (b8 2) (by rw [b9]; omega)⟩
        by_cases d1 : h0 = 1
        · rw [if_pos d1]
          exact MI_up (MI_send k2) (by omega)
        · rw [if_neg d1]
          exact MI_up k2 (by omega)
    split
    · exact MI_p h (by omega) (by decide)
    · split
      · exact MI_p h (by omega) (by decide)
      · exact key
  · rw [if_neg c4]; exact MI_p h (by omega) (by decide)
/-- days: what a day may not touch -/
def EQY (u u2 : Mem) : Prop := (∀ k j, (k = 3 ∨ k = 1007 ∨ k = 1008 ∨ k = 1016 ∨ k = 1019) → gI u2 k j = gI u k j) ∧ ∀ N, BND u N → BND u2 N
theorem EQY.rf {u : Mem} : EQY u u := ⟨fun _ _ _ => rfl, fun _ h => h⟩
theorem EQY.tr {a b c : Mem} (h : EQY a b) (g : EQY b c) : EQY a c := ⟨fun k j hk => (g.1 k j hk).trans (h.1 k j hk), fun N z => g.2 N (h.2 N z)⟩
theorem EQY_p {u : Mem} {k0 j0 : Nat} {v : Int32} (hk : k0 ≠ 3 ∧ k0 ≠ 1007 ∧ k0 ≠ 1008 ∧ k0 ≠ 1016 ∧ k0 ≠ 1019 ∧ k0 ≠ 1020) : EQY u (pI u k0 j0 v) := ⟨fun k j h => by rw [gI_pI, if_neg (by omega)], fun N h => BND_c h (fun v => by rw [gI_pI, if_neg (by omega)])⟩
theorem EQY_d {u : Mem} {k0 j0 : Nat} {v : UInt64} : EQY u (pD u k0 j0 v) := ⟨fun _ _ _ => rfl, fun _ h => h⟩
theorem EQY_s {u u2 : Mem} (h : EQS u u2) : EQY u u2 := ⟨fun k j hk => h.1 k j (by omega), fun N z => BND_c z (fun v => h.1 1020 v (by omega))⟩
theorem EQY_day {u : Mem} {j : Nat} {a x : Int32} : EQY u (mDay u j a x) := by
  have e1 : EQY u (mDayA u j) := by
    unfold mDayA
    split
    · split
      · exact EQY.rf
      · unfold mFad
        split
        · exact EQY_d
        · exact EQY_d.tr EQY_d
    · exact EQY.rf
  have e2 : ∀ u : Mem, EQY u (mDayB u j) := by
    intro u
    unfold mDayB
    split
    · split
      · exact EQY_p (by decide)
      · exact EQY.rf
    · exact EQY.rf
  have e3 : ∀ u : Mem, EQY u (mDayC u j a x) := by
    intro u
    unfold mDayC
    split
    · split
      · split
        · exact (EQY_p (by decide)).tr (EQY_s EQS_send)
        · exact (EQY_p (by decide)).tr (EQY_s EQS_send)
      · exact EQY.rf
    · exact EQY.rf
  unfold mDay
  exact (e1.tr (e2 _)).tr (e3 _)
theorem EQY_lst {u : Mem} {l : Nat} : EQY u (mLst l u) := by
  have e1 : EQY u (mDayL u l) := lp_inv (EQY u) (fun a z h => h.tr EQY_day) _ _ _ EQY.rf
  unfold mLst mDigD
  split
  · exact e1
  · split
    · exact e1
    · exact e1.tr ⟨fun k j hk => EQM_dig.1 k j (by omega), fun N z => BND_dig z⟩
theorem EQY_tick {u : Mem} {n : Nat} : EQY u (mTickT u n) := by
  unfold mTickT
  refine lp_inv (EQY u) (fun a z h => ?_) n 0 _ (EQY_p (by decide))
  unfold mTickD
  exact lp_inv (EQY u) (fun a y h2 => h2.tr EQY_lst) 3 0 _ (h.tr (EQY_p (by decide)))
theorem N_tick {i : Nat} {u : Mem} (h : MI i u) {w : Int32} {r2 : Int32} {u2 : Mem} (h2 : mTick u w = (r2, u2)) : MI (i + 5) u2 := by
  rw [show u2 = (mTick u w).2 by rw [h2]]
  unfold mTick
  by_cases c1 : isW w 1 20 = 0
  · rw [if_pos c1]; exact MI_p h (by omega) (by decide)
  rw [if_neg c1]
  have hw := isD_of c1
  obtain ⟨g1, g2, g3, g4, g5, n0, g6, g7, g8⟩ := h
  have he := EQY_tick (u := u) (n := cl w)
  have ho : OKD (mTickT u (cl w)) (300 * i + cl w * 72) := lp_OKD (c := 72) (fun a t B h => OKD_tickD h) (cl w) 0 (pI u 0 0 0) (300 * i) (OKD_f ⟨g1, g2⟩ (by decide))
  refine ⟨SM_up ho.1 (by omega), ho.2, fun j => by rw [he.1 1007 j (by omega)]; exact g3 j, fun j => by rw [he.1 1008 j (by omega)]; exact g4 j, fun j => by rw [he.1 1016 j (by omega)]; exact g5 j, n0, g6, by rw [he.1 3 0 (by omega)]; exact g7, ?_⟩
  rw [np_c (u := u) n0 (fun p _ => he.1 1019 p (by omega))]
  exact he.2 _ g8
theorem MI_0 : MI 0 (u0j 36) := ⟨⟨0, by omega, rfl⟩, fun _ => NN_0, fun _ => Or.inl rfl, fun _ => Or.inl rfl, fun _ => ⟨0, by omega, rfl⟩, 0, by omega, rfl, fun v _ => ⟨0, by omega, rfl⟩⟩
