/-- how many were sent: a number at most B -/
def SM (t : Mem) (B : Nat) : Prop := ∃ k, k ≤ B ∧ gI t 4 0 = nI k
theorem SM_f {t : Mem} {B k j : Nat} {v : Int32} (h : SM t B) (hk : k ≠ 4) : SM (pI t k j v) B := by
  obtain ⟨n, h1, h2⟩ := h
  exact ⟨n, h1, by rw [gI_pI, if_neg (by omega)]; exact h2⟩
theorem SM_D {t : Mem} {B k j : Nat} {v : UInt64} (h : SM t B) : SM (pD t k j v) B := h
theorem SM_up {t : Mem} {B B2 : Nat} (h : SM t B) (hb : B ≤ B2) : SM t B2 := by
  obtain ⟨n, h1, h2⟩ := h
  exact ⟨n, by omega, h2⟩
def mSend (t : Mem) (a x s n : Int32) : Mem := if 60 ≤ gI t 4 0 then pI t 4 0 (gI t 4 0 + 1) else pI (pI (pI (pI (pI t 1023 (cl (gI t 4 0)) a) 1024 (cl (gI t 4 0)) x) 1025 (cl (gI t 4 0)) s) 1026 (cl (gI t 4 0)) n) 4 0 (gI t 4 0 + 1)
theorem SM_send {t : Mem} {B : Nat} {a x s n : Int32} (h : SM t B) : SM (mSend t a x s n) (B + 1) := by
  obtain ⟨k, h1, h2⟩ := h
  refine ⟨k + 1, by omega, ?_⟩
  unfold mSend
  split <;> simp [gI_pI, h2, nI_1]
def mLive (t : Mem) (j : Nat) (w : Int32) : Int32 := if gI t 1001 j = 1 then (if gI t 1002 j = w then 1 else 0) else 0
def mDigF (u : Nat) (x : Int32) (a : Nat) (t : Mem) : Mem := if mLive t (12 * u + a) 1 = 0 then t else mSend t (nI a) x 1 (gI t 1020 u)
def mDig (t : Mem) (u : Nat) (x : Int32) : Mem := pI (lp (mDigF u x) 12 0 t) 1020 u 0
def mCnt (t : Mem) (k : Int32) : Int32 := lp (fun a n => if gI t 1019 a = k then n + 1 else n) (cl (gI t 3 0)) 0 0
def mAskC (t : Mem) (x a : Int32) : Int32 := 1000 * gI t 2 0 + 100 * x + a
def mAskT (t : Mem) (x a w : Int32) : Mem := pI (pI (pI (pI (pD (pI (pI (pI (pI (pI t 0 0 0) 1001 (jj x a) 0) 1002 (jj x a) w) 1003 (jj x a) (gI t 1 0)) 1007 (jj x a) 0) 1009 (jj x a) FP.dconst0) 1005 (jj x a) 0) 1006 (jj x a) (-1)) 1004 (jj x a) (mAskC t x a)) 2 0 (gI t 2 0 + 1)
def mAsk (t : Mem) (x a w : Int32) : Int32 × Mem := if plz x a = 0 then (0, pI t 0 0 1) else if isW w 0 2 = 0 then (0, pI t 0 0 1) else if gI t 1001 (jj x a) = -1 then (if gI t 1008 (jj x a) = 0 then (mAskC t x a, mSend (mAskT t x a w) a x 2 0) else (0, pI t 0 0 3)) else (0, pI t 0 0 2)
theorem gI_send {t : Mem} {a x s n : Int32} {k j : Nat} (h : k ≠ 4 ∧ k ≠ 1023 ∧ k ≠ 1024 ∧ k ≠ 1025 ∧ k ≠ 1026) : gI (mSend t a x s n) k j = gI t k j := by
  unfold mSend
  split <;> simp [gI_pI, h.1, h.2.1, h.2.2.1, h.2.2.2.1, h.2.2.2.2]
theorem gD_send {t : Mem} {a x s n : Int32} {k j : Nat} : gD (mSend t a x s n) k j = gD t k j := by
  unfold mSend
  split <;> rfl
def mBncV (t : Mem) (x a h : Int32) : UInt64 := FP.dadd (gD t 1009 (jj x a)) (if h = 0 then 4602678819172646912 else FP.dconst1)
def mBncT (t : Mem) (x a h : Int32) : Mem := pD (pI (pI t 0 0 0) 1006 (jj x a) (gI t 1 0)) 1009 (jj x a) (mBncV t x a h)
def mBnc (t : Mem) (x a h : Int32) : UInt64 × Mem := if plz x a = 0 then (FP.i2d 0, pI t 0 0 1) else if gI t 1001 (jj x a) = -1 then (FP.i2d 0, pI t 0 0 2) else if gI t 1001 (jj x a) = 1 then (if gI t 1006 (jj x a) = gI t 1 0 then (gD t 1009 (jj x a), pI t 0 0 0) else if Op.cmpValue (FP.dcmp (mBncV t x a h) (gD t 1015 (cl x))) .l < 0 then (mBncV t x a h, mBncT t x a h) else (mBncV t x a h, mSend (pI (pI (pI (mBncT t x a h) 1001 (jj x a) 2) 1003 (jj x a) (gI t 1 0)) 1005 (jj x a) 1) a x 5 1)) else (FP.i2d 0, pI t 0 0 3)
def mMch (t : Mem) (k : Int32) (j : Nat) : Prop := gI t 1001 j = 0 ∧ gI t 1004 j = k
def mSent (t : Mem) (k w : Int32) : Int32 × Mem := if isW w 0 3 = 0 then (0, pI t 0 0 1) else if isW k 0 59 = 0 then (0, pI t 0 0 2) else if k < gI t 4 0 then (if w = 0 then gI t 1023 (cl k) else if w = 1 then gI t 1024 (cl k) else if w = 2 then gI t 1025 (cl k) else gI t 1026 (cl k), pI t 0 0 0) else (0, pI t 0 0 2)
set_option maxHeartbeats 4000000 in
set_option maxRecDepth 100000 in
theorem c_M_send (l : Launch) (D : va_G) (ad : Nat → Nat) (ka : Nat → ClassId) (sz : Nat) (t : Mem) (Bd : Nat) (hBd : Bd < 1000000000) (hm : SM t Bd) (a x s0 n0 : Int32) : Met l y_M_send (Cond.code y_M_send b_M_send 5 none :: big) ({ frames := 0, cells := 0, slots := 0, locals := 0 }) (va_Pc [.ref (ad (0)), .int (a), .int (x), .int (s0), .int (n0)] (PM D ad ka sz t)) (va_Qv (fun t' : Mem => t' = mSend t a x s0 n0) (BM D ad ka sz) (AM ad sz)) 0 0 (AM ad sz) := by
  refine Met.ofW (cc := b_M_send) (maxL := 5) (ret := none) (by decide) rfl ?_
  intro p e s m args below meth c s₁ B hml hv
  obtain ⟨rfl, hsz, hP, hK, hD0⟩ := hv
  have hx := B.exec
  have hb := B.bytes
  have hr := B.returns
  have hlocks := B.notSynchronized
  have hts := atoms_spec (ws := Cond.code y_M_send b_M_send 5 none :: big) B.pre
  have hown : s.vm.findClass "ListForgeModel" = some m.cls := findClass_of_methodNamed B.named
  subst hsz
  have hD : va_D (AM ad s.heap.size) (mw ad ka t) := AM_D hD0
  have hS : va_S (AM ad s.heap.size) s.heap s.heap [] := va_S.rf
  have hl := lv_entry ([.ref (ad (0)), .int (a), .int (x), .int (s0), .int (n0)]) (n := 5) (Nat.le_of_ble_eq_true rfl)
  rw [lg_entry_eq]
  generalize (lg_sl ([.ref (ad (0)), .int (a), .int (x), .int (s0), .int (n0)]) ++ List.replicate (5 - (lg_sl ([.ref (ad (0)), .int (a), .int (x), .int (s0), .int (n0)])).length) Slot.unset).toArray = ls at hl ⊢
  have hl : lv_has ls 5 [(0, .ref (ad (0))), (1, .int (a)), (2, .int (x)), (3, .int (s0)), (4, .int (n0))] := hl

  obtain ⟨k, hk0, hk⟩ := hm
  have hck : cl (nI k) = k := cl_of rfl (by omega)
  refine lv_aload_n hx hb d_M_send_0 rfl (lv_at hl 0 rfl) ?_
  refine g_M_sentMany hx hb hts hown hK hP mw_594 d_M_send_1 ?_
  refine lv_bipush (v := 60) hx hb d_M_send_4 (by decide) ?_
  refine lv_icmp_ge (tgt := 50) hx hb d_M_send_6 (by decide) (fun c1 => ?_) (fun c1 => ?_)
  · have _u : True := trivial
    refine lv_aload_n hx hb d_M_send_50 rfl (lv_at hl 0 rfl) ?_
    refine lv_dup hx hb d_M_send_51 rfl ?_
    refine g_M_sentMany hx hb hts hown hK hP mw_594 d_M_send_52 ?_
    refine lv_iconst (v := 1) hx hb d_M_send_55 (by decide) ?_
    refine lv_iadd hx hb d_M_send_56 ?_
    refine p_M_sentMany hx hb hts hown hK hP hD hS mw_594 d_M_send_57 (fun H locs hP hD hS => ?_)
    exact W.vret hx hb hr (fun t9 ht hW => ⟨⟨(pI t 4 0 ((gI t 4 0) + 1)), rfl, (by unfold mSend; rw [if_pos c1]), BM_at ht hW hP hK hD⟩, hS.F ht⟩) hS.2.2 d_M_send_60
  · have _u : True := trivial
    have hk6 : k < 60 := by rcases Nat.lt_or_ge k 60 with q | q; exact q; exact absurd (by rw [hk]; exact nI_le q (by omega)) c1
    refine lv_aload_n hx hb d_M_send_9 rfl (lv_at hl 0 rfl) ?_
    refine g_M_outTo hx hb hts hown hK hP mw_617 d_M_send_10 ?_
    refine lv_aload_n hx hb d_M_send_13 rfl (lv_at hl 0 rfl) ?_
    refine g_M_sentMany hx hb hts hown hK hP mw_594 d_M_send_14 ?_
    refine lv_iload_n hx hb d_M_send_17 rfl (lv_at hl 1 rfl) ?_
    refine p_m_outTo hx hb hK hP hD hS (r := k) hk6 (by simpa [gI_pI] using hk) d_M_send_18 (fun H locs hP hD hS => ?_)
    refine lv_aload_n hx hb d_M_send_19 rfl (lv_at hl 0 rfl) ?_
    refine g_M_outList hx hb hts hown hK hP mw_618 d_M_send_20 ?_
    refine lv_aload_n hx hb d_M_send_23 rfl (lv_at hl 0 rfl) ?_
    refine g_M_sentMany hx hb hts hown hK hP mw_594 d_M_send_24 ?_
    refine lv_iload_n hx hb d_M_send_27 rfl (lv_at hl 2 rfl) ?_
    refine p_m_outList hx hb hK hP hD hS (r := k) hk6 (by simpa [gI_pI] using hk) d_M_send_28 (fun H locs hP hD hS => ?_)
    refine lv_aload_n hx hb d_M_send_29 rfl (lv_at hl 0 rfl) ?_
    refine g_M_outSort hx hb hts hown hK hP mw_619 d_M_send_30 ?_
    refine lv_aload_n hx hb d_M_send_33 rfl (lv_at hl 0 rfl) ?_
    refine g_M_sentMany hx hb hts hown hK hP mw_594 d_M_send_34 ?_
    refine lv_iload_n hx hb d_M_send_37 rfl (lv_at hl 3 rfl) ?_
    refine p_m_outSort hx hb hK hP hD hS (r := k) hk6 (by simpa [gI_pI] using hk) d_M_send_38 (fun H locs hP hD hS => ?_)
    refine lv_aload_n hx hb d_M_send_39 rfl (lv_at hl 0 rfl) ?_
    refine g_M_outNumber hx hb hts hown hK hP mw_620 d_M_send_40 ?_
    refine lv_aload_n hx hb d_M_send_43 rfl (lv_at hl 0 rfl) ?_
    refine g_M_sentMany hx hb hts hown hK hP mw_594 d_M_send_44 ?_
    refine lv_iload hx hb d_M_send_47 (lv_at hl 4 rfl) ?_
    refine p_m_outNumber hx hb hK hP hD hS (r := k) hk6 (by simpa [gI_pI] using hk) d_M_send_49 (fun H locs hP hD hS => ?_)
    refine lv_aload_n hx hb d_M_send_50 rfl (lv_at hl 0 rfl) ?_
    refine lv_dup hx hb d_M_send_51 rfl ?_
    refine g_M_sentMany hx hb hts hown hK hP mw_594 d_M_send_52 ?_
    refine lv_iconst (v := 1) hx hb d_M_send_55 (by decide) ?_
    refine lv_iadd hx hb d_M_send_56 ?_
    refine p_M_sentMany hx hb hts hown hK hP hD hS mw_594 d_M_send_57 (fun H locs hP hD hS => ?_)
    exact W.vret hx hb hr (fun t9 ht hW => ⟨⟨(pI (pI (pI (pI (pI t 1023 k a) 1024 k x) 1025 k s0) 1026 k n0) 4 0 ((gI (pI (pI (pI (pI t 1023 k a) 1024 k x) 1025 k s0) 1026 k n0) 4 0) + 1)), rfl, (by unfold mSend; rw [if_neg c1]; simp [gI_pI, hk, hck]), BM_at ht hW hP hK hD⟩, hS.F ht⟩) hS.2.2 d_M_send_60
set_option maxHeartbeats 4000000 in
set_option maxRecDepth 100000 in
theorem c_M_isLive (l : Launch) (D : va_G) (ad : Nat → Nat) (ka : Nat → ClassId) (sz : Nat) (t : Mem) (u : Nat) (hu : u < 3) (x : Int32) (hxu : x = nI u) (a0 : Nat) (ha0 : a0 < 12) (a : Int32) (hau : a = nI a0) (w : Int32) : Met l y_M_isLive (Cond.code y_M_isLive b_M_isLive 5 (some .boolean) :: big) ({ frames := 0, cells := 0, slots := 0, locals := 0 }) (va_Pc [.ref (ad (0)), .int (x), .int (a), .int (w)] (PM D ad ka sz t)) (va_Qi (fun (r : Int32) (t' : Mem) => r = mLive t (12 * u + a0) w ∧ t' = t) (BM D ad ka sz) (AM ad sz)) 0 0 (AM ad sz) := by
  refine Met.ofW (cc := b_M_isLive) (maxL := 5) (ret := (some .boolean)) (by decide) rfl ?_
  intro p e s m args below meth c s₁ B hml hv
  obtain ⟨rfl, hsz, hP, hK, hD0⟩ := hv
  have hx := B.exec
  have hb := B.bytes
  have hr := B.returns
  have hlocks := B.notSynchronized
  have hts := atoms_spec (ws := Cond.code y_M_isLive b_M_isLive 5 (some .boolean) :: big) B.pre
  have hown : s.vm.findClass "ListForgeModel" = some m.cls := findClass_of_methodNamed B.named
  subst hsz
  have hD : va_D (AM ad s.heap.size) (mw ad ka t) := AM_D hD0
  have hS : va_S (AM ad s.heap.size) s.heap s.heap [] := va_S.rf
  have hl := lv_entry ([.ref (ad (0)), .int (x), .int (a), .int (w)]) (n := 5) (Nat.le_of_ble_eq_true rfl)
  rw [lg_entry_eq]
  generalize (lg_sl ([.ref (ad (0)), .int (x), .int (a), .int (w)]) ++ List.replicate (5 - (lg_sl ([.ref (ad (0)), .int (x), .int (a), .int (w)])).length) Slot.unset).toArray = ls at hl ⊢
  have hl : lv_has ls 5 [(0, .ref (ad (0))), (1, .int (x)), (2, .int (a)), (3, .int (w))] := hl

  have hs9 := s_of hxu hau
  refine lv_bipush (v := 12) hx hb d_M_isLive_0 (by decide) ?_
  refine lv_iload_n hx hb d_M_isLive_2 rfl (lv_at hl 1 rfl) ?_
  refine lv_imul hx hb d_M_isLive_3 ?_
  refine lv_iload_n hx hb d_M_isLive_4 rfl (lv_at hl 2 rfl) ?_
  refine lv_iadd hx hb d_M_isLive_5 ?_
  refine lv_istore (lv' := [(4, .int ((12 * x) + a)), (0, .ref (ad (0))), (1, .int (x)), (2, .int (a)), (3, .int (w))]) hx hb d_M_isLive_6 hl (by decide) rfl (fun ls hl => ?_)
  refine lv_aload_n hx hb d_M_isLive_8 rfl (lv_at hl 1 rfl) ?_
  refine g_M_state hx hb hts hown hK hP mw_595 d_M_isLive_9 ?_
  refine lv_iload hx hb d_M_isLive_12 (lv_at hl 0 rfl) ?_
  refine g_m_state hx hb hK hP (r := (12 * u + a0)) (by omega) hs9 d_M_isLive_14 ?_
  refine lv_iconst (v := 1) hx hb d_M_isLive_15 (by decide) ?_
  refine lv_icmp_ne (tgt := 34) hx hb d_M_isLive_16 (by decide) (fun c1 => ?_) (fun c1 => ?_)
  · have _u : True := trivial
    refine lv_iconst (v := 0) hx hb d_M_isLive_34 (by decide) ?_
    exact W.zret (v := 0) hx hb hr rfl (fun t9 ht hW => ⟨⟨0, t, rfl, ⟨by simp [mLive, c1], rfl⟩, BM_at ht hW hP hK hD⟩, hS.F ht⟩) hS.2.2 d_M_isLive_35
  · have _u : True := trivial
    refine lv_aload_n hx hb d_M_isLive_19 rfl (lv_at hl 1 rfl) ?_
    refine g_M_way hx hb hts hown hK hP mw_596 d_M_isLive_20 ?_
    refine lv_iload hx hb d_M_isLive_23 (lv_at hl 0 rfl) ?_
    refine g_m_way hx hb hK hP (r := (12 * u + a0)) (by omega) hs9 d_M_isLive_25 ?_
    refine lv_iload_n hx hb d_M_isLive_26 rfl (lv_at hl 4 rfl) ?_
    refine lv_icmp_ne (tgt := 34) hx hb d_M_isLive_27 (by decide) (fun c2 => ?_) (fun c2 => ?_)
    · have _u : True := trivial
      refine lv_iconst (v := 0) hx hb d_M_isLive_34 (by decide) ?_
      exact W.zret (v := 0) hx hb hr rfl (fun t9 ht hW => ⟨⟨0, t, rfl, ⟨by simp [mLive, c1, c2], rfl⟩, BM_at ht hW hP hK hD⟩, hS.F ht⟩) hS.2.2 d_M_isLive_35
    · have _u : True := trivial
      refine lv_iconst (v := 1) hx hb d_M_isLive_30 (by decide) ?_
      refine lv_goto (tgt := 35) hx hb d_M_isLive_31 (by decide) ?_
      exact W.zret (v := 1) hx hb hr rfl (fun t9 ht hW => ⟨⟨1, t, rfl, ⟨by simp [mLive, c1, c2], rfl⟩, BM_at ht hW hP hK hD⟩, hS.F ht⟩) hS.2.2 d_M_isLive_35
set_option maxHeartbeats 4000000 in
set_option maxRecDepth 100000 in
theorem c_M_digest (l : Launch) (D : va_G) (ad : Nat → Nat) (ka : Nat → ClassId) (sz : Nat) (t : Mem) (Bd : Nat) (hBd : Bd < 900000000) (hm : SM t Bd) (u : Nat) (hu : u < 3) (x : Int32) (hxu : x = nI u) : Met l y_M_digest (Cond.code y_M_digest b_M_digest 3 none :: big) ({ frames := 1, cells := 0, slots := 0, locals := 24 }) (va_Pc [.ref (ad (0)), .int (x)] (PM D ad ka sz t)) (va_Qv (fun t' : Mem => t' = mDig t u x) (BM D ad ka sz) (AM ad sz)) 0 0 (AM ad sz) := by
  refine Met.ofW (cc := b_M_digest) (maxL := 3) (ret := none) (by decide) rfl ?_
  intro p e s m args below meth c s₁ B hml hv
  obtain ⟨rfl, hsz, hP, hK, hD0⟩ := hv
  have hx := B.exec
  have hb := B.bytes
  have hr := B.returns
  have hlocks := B.notSynchronized
  have hts := atoms_spec (ws := Cond.code y_M_digest b_M_digest 3 none :: big) B.pre
  have hown : s.vm.findClass "ListForgeModel" = some m.cls := findClass_of_methodNamed B.named
  subst hsz
  have hD : va_D (AM ad s.heap.size) (mw ad ka t) := AM_D hD0
  have hS : va_S (AM ad s.heap.size) s.heap s.heap [] := va_S.rf
  have hl := lv_entry ([.ref (ad (0)), .int (x)]) (n := 3) (Nat.le_of_ble_eq_true rfl)
  rw [lg_entry_eq]
  generalize (lg_sl ([.ref (ad (0)), .int (x)]) ++ List.replicate (3 - (lg_sl ([.ref (ad (0)), .int (x)])).length) Slot.unset).toArray = ls at hl ⊢
  have hl : lv_has ls 3 [(0, .ref (ad (0))), (1, .int (x))] := hl

  refine lv_iconst (v := 0) hx hb d_M_digest_0 (by decide) ?_
  refine lv_istore_n (lv' := [(2, .int (0)), (0, .ref (ad (0))), (1, .int (x))]) hx hb d_M_digest_1 rfl hl (by decide) rfl (fun ls hl => ?_)
  have hloop : ∀ (n a : Nat) (t1 : Mem) (H : Heap) (locs : List Loc) (ls : Array Slot), a ≤ 12 → 12 + 1 ≤ a + n → SM t1 (Bd + a) → lp (mDigF u x) (12 - a) a t1 = lp (mDigF u x) 12 0 t → va_P D clm (mw ad ka t1) H → va_D (AM ad s.heap.size) (mw ad ka t1) → va_S (AM ad s.heap.size) s.heap H locs → lv_has ls 3 [(0, .ref (ad (0))), (1, .int (x)), (2, .int (nI a))] → W p l e ({ frames := 1, cells := 0, slots := 0, locals := 24 }) s m ([.ref (ad (0)), .int (x)] : List Value).toArray below meth c H locs 0 0 (MQ below (va_Qv (fun t' : Mem => t' = mDig t u x) (BM D ad ka s.heap.size) (AM ad s.heap.size)) ([.ref (ad (0)), .int (x)] : List Value).toArray s 0 0 (AM ad s.heap.size)) (F0 m 2 ls []) := by
    intro n
    induction n with
    | zero => intro a t1 H locs ls h1 h2; exact absurd h2 (by omega)
    | succ n ih =>
      intro a t1 H locs ls ha hn ho hF hP hD hS hl
      refine lv_iload_n hx hb d_M_digest_2 rfl (lv_at hl 2 rfl) ?_
      refine lv_bipush (v := 12) hx hb d_M_digest_3 (by decide) ?_
      refine lv_icmp_ge (tgt := 37) hx hb d_M_digest_5 (by decide) (fun c1 => ?_) (fun c1 => ?_)
      · have _u : True := trivial
        obtain rfl := nI_eq_of (x := 12) (N := 12) (rfl) (by decide) ha c1
        have hE := lp_end hF
        refine lv_aload_n hx hb d_M_digest_37 rfl (lv_at hl 0 rfl) ?_
        refine g_M_bundle hx hb hts hown hK hP mw_614 d_M_digest_38 ?_
        refine lv_iload_n hx hb d_M_digest_41 rfl (lv_at hl 1 rfl) ?_
        refine lv_iconst (v := 0) hx hb d_M_digest_42 (by decide) ?_
        refine p_m_bundle hx hb hK hP hD hS (r := u) hu hxu d_M_digest_43 (fun H locs hP hD hS => ?_)
        exact W.vret hx hb hr (fun t9 ht hW => ⟨⟨(pI t1 1020 u 0), rfl, (by rw [mDig, ← hE]), BM_at ht hW hP hK hD⟩, hS.F ht⟩) hS.2.2 d_M_digest_44
      · have _u : True := trivial
        have hlt : a < 12 := nI_lt_of (x := 12) (N := 12) (rfl) ha c1
        refine lv_aload_n hx hb d_M_digest_8 rfl (lv_at hl 0 rfl) ?_
        refine lv_iload_n hx hb d_M_digest_9 rfl (lv_at hl 1 rfl) ?_
        refine lv_iload_n hx hb d_M_digest_10 rfl (lv_at hl 2 rfl) ?_
        refine lv_iconst (v := 1) hx hb d_M_digest_11 (by decide) ?_
        have hA1 := hS.1
        refine va_calli (va_runV (As := [.int (x), .int (nI a), .int (1)]) (rest := []) ⟨hx, hb, hml, hown, hts⟩ (c_M_isLive l D ad ka H.size t1 u hu x hxu a (by omega) (nI a) rfl 1) (cwV 3 hts (gv mw_741 mw_743 (big_sel (i := 7) (by decide +kernel) (by decide +kernel)) mw_6 mw_744) rfl rfl rfl (by decide +kernel) ⟨Nat.le_of_ble_eq_true rfl, Nat.le_of_ble_eq_true rfl⟩) ⟨PM_blind, va_recv hK hP (ci := 0) (q0 := 0) rfl (at_M), fun U hU hW => ⟨rfl, PM_at hU hW hP hK hD⟩⟩ rfl rfl hl.1 rfl (lv_room (Nat.le_of_ble_eq_true rfl)) d_M_digest_12 ⟨Nat.le_of_ble_eq_true rfl, Nat.le_of_ble_eq_true rfl⟩) hS (fun q _ h => AM_up hA1 q h) (AM_up hA1) (fun r2 t4 tq H1 locs ht hvm hw3 hB hz1 hk1 hS => ?_)
        obtain ⟨hP, hD⟩ := BM_back ht hB (AM_up hA1)
        generalize H1 = H at hP hS ⊢
        obtain ⟨hwr, hwt⟩ := hw3
        rw [hwt] at hP hD
        rw [hwr]
        refine lv_if_eq (tgt := 31) hx hb d_M_digest_15 (by decide) (fun c5 => ?_) (fun c5 => ?_)
        · have _u : True := trivial
          refine lv_iinc (v := nI (a + 1)) (lv' := [(2, .int (nI (a + 1))), (0, .ref (ad (0))), (1, .int (x))]) hx hb d_M_digest_31 hl (k := 2) rfl (nI_1 _) (by decide) rfl (fun ls hl => ?_)
          refine lv_goto (tgt := 2) hx hb d_M_digest_34 (by decide) ?_
          exact ih (a + 1) t1 H _ ls (by omega) (by omega) (SM_up ho (by omega)) (lp_next hlt hF (by simp [mDigF, c1, c5])) hP hD hS (lv_sub hl [1, 2, 0] rfl)
        · have _u : True := trivial
          refine lv_aload_n hx hb d_M_digest_18 rfl (lv_at hl 0 rfl) ?_
          refine lv_iload_n hx hb d_M_digest_19 rfl (lv_at hl 2 rfl) ?_
          refine lv_iload_n hx hb d_M_digest_20 rfl (lv_at hl 1 rfl) ?_
          refine lv_iconst (v := 1) hx hb d_M_digest_21 (by decide) ?_
          refine lv_aload_n hx hb d_M_digest_22 rfl (lv_at hl 0 rfl) ?_
          refine g_M_bundle hx hb hts hown hK hP mw_614 d_M_digest_23 ?_
          refine lv_iload_n hx hb d_M_digest_26 rfl (lv_at hl 1 rfl) ?_
          refine g_m_bundle hx hb hK hP (r := u) hu hxu d_M_digest_27 ?_
          have hA1 := hS.1
          refine va_callv (va_runV (As := [.int (nI a), .int (x), .int (1), .int (gI t1 1020 u)]) (rest := []) ⟨hx, hb, hml, hown, hts⟩ (c_M_send l D ad ka H.size t1 (Bd + a) (by omega) ho (nI a) x 1 (gI t1 1020 u)) (cwV 4 hts (gv mw_703 mw_705 (big_sel (i := 5) (by decide +kernel) (by decide +kernel)) mw_6 mw_706) rfl rfl rfl (by decide +kernel) ⟨Nat.le_of_ble_eq_true rfl, Nat.le_of_ble_eq_true rfl⟩) ⟨PM_blind, va_recv hK hP (ci := 0) (q0 := 0) rfl (at_M), fun U hU hW => ⟨rfl, PM_at hU hW hP hK hD⟩⟩ rfl rfl hl.1 rfl (lv_room (Nat.le_of_ble_eq_true rfl)) d_M_digest_28 ⟨Nat.le_of_ble_eq_true rfl, Nat.le_of_ble_eq_true rfl⟩) hS (fun q _ h => AM_up hA1 q h) (AM_up hA1) (fun t8 tq H1 locs ht hvm hw7 hB hz1 hk1 hS => ?_)
          obtain ⟨hP, hD⟩ := BM_back ht hB (AM_up hA1)
          generalize H1 = H at hP hS ⊢
          rw [hw7] at hP hD
          refine lv_iinc (v := nI (a + 1)) (lv' := [(2, .int (nI (a + 1))), (0, .ref (ad (0))), (1, .int (x))]) hx hb d_M_digest_31 hl (k := 2) rfl (nI_1 _) (by decide) rfl (fun ls hl => ?_)
          refine lv_goto (tgt := 2) hx hb d_M_digest_34 (by decide) ?_
          exact ih (a + 1) (mSend t1 (nI a) x 1 (gI t1 1020 u)) H _ ls (by omega) (by omega) (SM_up (SM_send ho) (by omega)) (lp_next hlt hF (by simp [mDigF, c1, c5])) hP hD hS (lv_sub hl [1, 2, 0] rfl)
  exact hloop (12 + 1) 0 t s.heap _ ls (by omega) (by omega) (SM_up hm (by omega)) rfl hP hD hS (lv_sub hl [1, 2, 0] rfl)
set_option maxHeartbeats 4000000 in
set_option maxRecDepth 100000 in
theorem c_M_waiting (l : Launch) (D : va_G) (ad : Nat → Nat) (ka : Nat → ClassId) (sz : Nat) (t : Mem) (n0 : Nat) (hn0 : n0 ≤ 40) (hn : gI t 3 0 = nI n0) (k0 : Int32) : Met l y_M_waiting (Cond.code y_M_waiting b_M_waiting 4 (some .int) :: big) ({ frames := 0, cells := 0, slots := 0, locals := 0 }) (va_Pc [.ref (ad (0)), .int (k0)] (PM D ad ka sz t)) (va_Qi (fun (r : Int32) (t' : Mem) => r = mCnt t k0 ∧ t' = t) (BM D ad ka sz) (AM ad sz)) 0 0 (AM ad sz) := by
  refine Met.ofW (cc := b_M_waiting) (maxL := 4) (ret := (some .int)) (by decide) rfl ?_
  intro p e s m args below meth c s₁ B hml hv
  obtain ⟨rfl, hsz, hP, hK, hD0⟩ := hv
  have hx := B.exec
  have hb := B.bytes
  have hr := B.returns
  have hlocks := B.notSynchronized
  have hts := atoms_spec (ws := Cond.code y_M_waiting b_M_waiting 4 (some .int) :: big) B.pre
  have hown : s.vm.findClass "ListForgeModel" = some m.cls := findClass_of_methodNamed B.named
  subst hsz
  have hD : va_D (AM ad s.heap.size) (mw ad ka t) := AM_D hD0
  have hS : va_S (AM ad s.heap.size) s.heap s.heap [] := va_S.rf
  have hl := lv_entry ([.ref (ad (0)), .int (k0)]) (n := 4) (Nat.le_of_ble_eq_true rfl)
  rw [lg_entry_eq]
  generalize (lg_sl ([.ref (ad (0)), .int (k0)]) ++ List.replicate (4 - (lg_sl ([.ref (ad (0)), .int (k0)])).length) Slot.unset).toArray = ls at hl ⊢
  have hl : lv_has ls 4 [(0, .ref (ad (0))), (1, .int (k0))] := hl

  have hcn : cl (gI t 3 0) = n0 := cl_of hn (by omega)
  refine lv_iconst (v := 0) hx hb d_M_waiting_0 (by decide) ?_
  refine lv_istore_n (lv' := [(2, .int (0)), (0, .ref (ad (0))), (1, .int (k0))]) hx hb d_M_waiting_1 rfl hl (by decide) rfl (fun ls hl => ?_)
  refine lv_iconst (v := 0) hx hb d_M_waiting_2 (by decide) ?_
  refine lv_istore_n (lv' := [(3, .int (0)), (2, .int (0)), (0, .ref (ad (0))), (1, .int (k0))]) hx hb d_M_waiting_3 rfl hl (by decide) rfl (fun ls hl => ?_)
  have hloop1 : ∀ (n a1 : Nat) (f : Int32) (t11 : Mem) (H : Heap) (locs : List Loc) (ls : Array Slot), a1 ≤ n0 → n0 + 1 ≤ a1 + n → t11 = t → lp (fun a n => if gI t 1019 a = k0 then n + 1 else n) (n0 - a1) a1 f = lp (fun a n => if gI t 1019 a = k0 then n + 1 else n) n0 0 0 → va_P D clm (mw ad ka t11) H → va_D (AM ad s.heap.size) (mw ad ka t11) → va_S (AM ad s.heap.size) s.heap H locs → lv_has ls 4 [(0, .ref (ad (0))), (1, .int (k0)), (2, .int (f)), (3, .int (nI a1))] → W p l e ({ frames := 0, cells := 0, slots := 0, locals := 0 }) s m ([.ref (ad (0)), .int (k0)] : List Value).toArray below meth c H locs 0 0 (MQ below (va_Qi (fun (r : Int32) (t' : Mem) => r = mCnt t k0 ∧ t' = t) (BM D ad ka s.heap.size) (AM ad s.heap.size)) ([.ref (ad (0)), .int (k0)] : List Value).toArray s 0 0 (AM ad s.heap.size)) (F0 m 4 ls []) := by
    intro n
    induction n with
    | zero => intro a1 f t11 H locs ls h1 h2; exact absurd h2 (by omega)
    | succ n ih1 =>
      intro a1 f t11 H locs ls ha1 hn1 ho1 hF1 hP hD hS hl
      refine lv_iload_n hx hb d_M_waiting_4 rfl (lv_at hl 3 rfl) ?_
      refine lv_aload_n hx hb d_M_waiting_5 rfl (lv_at hl 0 rfl) ?_
      refine g_M_posts hx hb hts hown hK hP mw_593 d_M_waiting_6 ?_
      refine lv_icmp_ge (tgt := 31) hx hb d_M_waiting_9 (by decide) (fun c1 => ?_) (fun c1 => ?_)
      · have _u : True := trivial
        obtain rfl := nI_eq_of (x := gI t11 3 0) (N := n0) (by rw [ho1]; exact hn) (by omega) ha1 c1
        have hE1 := lp_end hF1
        refine lv_iload_n hx hb d_M_waiting_31 rfl (lv_at hl 2 rfl) ?_
        exact W.iret (v := f) hx hb hr (fun t9 ht hW => ⟨⟨f, t11, rfl, ⟨by rw [mCnt, hcn]; exact hE1, ho1⟩, BM_at ht hW hP hK hD⟩, hS.F ht⟩) hS.2.2 d_M_waiting_32
      · have _u : True := trivial
        have hlt1 : a1 < n0 := nI_lt_of (x := gI t11 3 0) (N := n0) (by rw [ho1]; exact hn) ha1 c1
        refine lv_aload_n hx hb d_M_waiting_12 rfl (lv_at hl 0 rfl) ?_
        refine g_M_pState hx hb hts hown hK hP mw_613 d_M_waiting_13 ?_
        refine lv_iload_n hx hb d_M_waiting_16 rfl (lv_at hl 3 rfl) ?_
        refine g_m_pState hx hb hK hP (r := a1) (by omega) rfl d_M_waiting_17 ?_
        refine lv_iload_n hx hb d_M_waiting_18 rfl (lv_at hl 1 rfl) ?_
        refine lv_icmp_ne (tgt := 25) hx hb d_M_waiting_19 (by decide) (fun c2 => ?_) (fun c2 => ?_)
        · have _u : True := trivial
          refine lv_iinc (v := nI (a1 + 1)) (lv' := [(3, .int (nI (a1 + 1))), (0, .ref (ad (0))), (1, .int (k0)), (2, .int (f))]) hx hb d_M_waiting_25 hl (k := 3) rfl (nI_1 _) (by decide) rfl (fun ls hl => ?_)
          refine lv_goto (tgt := 4) hx hb d_M_waiting_28 (by decide) ?_
          exact ih1 (a1 + 1) f t11 H _ ls (by omega) (by omega) ho1 (lp_next hlt1 hF1 (by rw [ho1] at c2; simp [c2])) hP hD hS (lv_sub hl [1, 2, 3, 0] rfl)
        · have _u : True := trivial
          refine lv_iinc (v := f + 1) (lv' := [(2, .int (f + 1)), (0, .ref (ad (0))), (1, .int (k0)), (3, .int (nI a1))]) hx hb d_M_waiting_22 hl (k := 2) rfl (rfl) (by decide) rfl (fun ls hl => ?_)
          refine lv_iinc (v := nI (a1 + 1)) (lv' := [(3, .int (nI (a1 + 1))), (2, .int (f + 1)), (0, .ref (ad (0))), (1, .int (k0))]) hx hb d_M_waiting_25 hl (k := 3) rfl (nI_1 _) (by decide) rfl (fun ls hl => ?_)
          refine lv_goto (tgt := 4) hx hb d_M_waiting_28 (by decide) ?_
          exact ih1 (a1 + 1) (f + 1) t11 H _ ls (by omega) (by omega) ho1 (lp_next hlt1 hF1 (by rw [ho1] at c2; simp [c2])) hP hD hS (lv_sub hl [2, 3, 1, 0] rfl)
  exact hloop1 (n0 + 1) 0 0 t s.heap _ ls (by omega) (by omega) rfl rfl hP hD hS (lv_sub hl [2, 3, 1, 0] rfl)
set_option maxHeartbeats 4000000 in
set_option maxRecDepth 100000 in
theorem c_M_ask (l : Launch) (D : va_G) (ad : Nat → Nat) (ka : Nat → ClassId) (sz : Nat) (t : Mem) (Bd : Nat) (hBd : Bd < 1000000000) (hm : SM t Bd) (x a w : Int32) : Met l y_M_ask (Cond.code y_M_ask b_M_ask 5 (some .int) :: big) ({ frames := 2, cells := 0, slots := 0, locals := 43 }) (va_Pc [.ref (ad (0)), .int (x), .int (a), .int (w)] (PM D ad ka sz t)) (va_Qi (fun (r : Int32) (t' : Mem) => mAsk t x a w = (r, t')) (BM D ad ka sz) (AM ad sz)) 0 0 (AM ad sz) := by
  refine Met.ofW (cc := b_M_ask) (maxL := 5) (ret := (some .int)) (by decide) rfl ?_
  intro p e s m args below meth c s₁ B hml hv
  obtain ⟨rfl, hsz, hP, hK, hD0⟩ := hv
  have hx := B.exec
  have hb := B.bytes
  have hr := B.returns
  have hlocks := B.notSynchronized
  have hts := atoms_spec (ws := Cond.code y_M_ask b_M_ask 5 (some .int) :: big) B.pre
  have hown : s.vm.findClass "ListForgeModel" = some m.cls := findClass_of_methodNamed B.named
  subst hsz
  have hD : va_D (AM ad s.heap.size) (mw ad ka t) := AM_D hD0
  have hS : va_S (AM ad s.heap.size) s.heap s.heap [] := va_S.rf
  have hl := lv_entry ([.ref (ad (0)), .int (x), .int (a), .int (w)]) (n := 5) (Nat.le_of_ble_eq_true rfl)
  rw [lg_entry_eq]
  generalize (lg_sl ([.ref (ad (0)), .int (x), .int (a), .int (w)]) ++ List.replicate (5 - (lg_sl ([.ref (ad (0)), .int (x), .int (a), .int (w)])).length) Slot.unset).toArray = ls at hl ⊢
  have hl : lv_has ls 5 [(0, .ref (ad (0))), (1, .int (x)), (2, .int (a)), (3, .int (w))] := hl

  refine lv_iload_n hx hb d_M_ask_0 rfl (lv_at hl 1 rfl) ?_
  refine lv_iload_n hx hb d_M_ask_1 rfl (lv_at hl 2 rfl) ?_
  have hA1 := hS.1
  refine va_calli (va_runS (As := [.int (x), .int (a)]) (rest := []) ⟨hx, hb, hml, hown, hts⟩ (c_M_isPlace l D ad ka s.heap.size t x a) (cwS 2 hts (gs mw_693 mw_694 mw_6 mw_695) rfl rfl rfl (by decide +kernel) ⟨Nat.le_of_ble_eq_true rfl, Nat.le_of_ble_eq_true rfl⟩) ⟨PM_blind, fun U hU hW => ⟨rfl, PM_at hU hW hP hK hD⟩⟩ rfl rfl hl.1 rfl (lv_room (Nat.le_of_ble_eq_true rfl)) d_M_ask_2 ⟨Nat.le_of_ble_eq_true rfl, Nat.le_of_ble_eq_true rfl⟩) hS (fun q _ h => AM_up hA1 q h) (AM_up hA1) (fun r1 t3 tq H1 locs ht hvm hw2 hB hz1 hk1 hS => ?_)
  obtain ⟨hP, hD⟩ := BM_back ht hB (AM_up hA1)
  generalize H1 = H at hP hS ⊢
  obtain ⟨hwr, hwt⟩ := hw2
  rw [hwt] at hP hD
  rw [hwr]
  refine lv_if_eq (tgt := 17) hx hb d_M_ask_5 (by decide) (fun c4 => ?_) (fun c4 => ?_)
  · have _u : True := trivial
    refine lv_aload_n hx hb d_M_ask_17 rfl (lv_at hl 0 rfl) ?_
    refine lv_iconst (v := 1) hx hb d_M_ask_18 (by decide) ?_
    have hA1 := hS.1
    refine va_calli (va_runV (As := [.int (1)]) (rest := []) ⟨hx, hb, hml, hown, hts⟩ (c_M_refuse l D ad ka H.size t 1) (cwV 1 hts (gv mw_699 mw_701 (big_sel (i := 4) (by decide +kernel) (by decide +kernel)) mw_6 mw_702) rfl rfl rfl (by decide +kernel) ⟨Nat.le_of_ble_eq_true rfl, Nat.le_of_ble_eq_true rfl⟩) ⟨PM_blind, va_recv hK hP (ci := 0) (q0 := 0) rfl (at_M), fun U hU hW => ⟨rfl, PM_at hU hW hP hK hD⟩⟩ rfl rfl hl.1 rfl (lv_room (Nat.le_of_ble_eq_true rfl)) d_M_ask_19 ⟨Nat.le_of_ble_eq_true rfl, Nat.le_of_ble_eq_true rfl⟩) hS (fun q _ h => AM_up hA1 q h) (AM_up hA1) (fun r5 t7 tq H1 locs ht hvm hw6 hB hz1 hk1 hS => ?_)
    obtain ⟨hP, hD⟩ := BM_back ht hB (AM_up hA1)
    generalize H1 = H at hP hS ⊢
    obtain ⟨hwr, hwt⟩ := hw6
    rw [hwt] at hP hD
    rw [hwr]
    exact W.iret (v := 0) hx hb hr (fun t9 ht hW => ⟨⟨0, (pI t 0 0 1), rfl, (by first | (simp [mAsk, gI_pI, gI_pD, gD_pI, gD_pD, mAskT, mAskC, gI_send, c4]; done) | (simp [mAsk, gI_pI, gI_pD, gD_pI, gD_pD, mAskT, mAskC, gI_send, c4, hj, hcx, hca]; done)), BM_at ht hW hP hK hD⟩, hS.F ht⟩) hS.2.2 d_M_ask_22
  · have _u : True := trivial
    obtain ⟨u, hu, hxu, a0, ha0, hau⟩ := PL_of (x := x) (a := a) c4
    have hcx : cl x = u := cl_of hxu (by omega)
    have hca : cl a = a0 := cl_of hau (by omega)
    have hj : jj x a = 12 * u + a0 := by rw [jj, hcx, hca]
    have hs9 := s_of hxu hau
    refine lv_iload_n hx hb d_M_ask_8 rfl (lv_at hl 3 rfl) ?_
    refine lv_iconst (v := 0) hx hb d_M_ask_9 (by decide) ?_
    refine lv_iconst (v := 2) hx hb d_M_ask_10 (by decide) ?_
    have hA1 := hS.1
    refine va_calli (va_runS (As := [.int (w), .int (0), .int (2)]) (rest := []) ⟨hx, hb, hml, hown, hts⟩ (c_M_in l D ad ka H.size t w 0 2) (cwS 3 hts (gs mw_696 mw_697 mw_6 mw_698) rfl rfl rfl (by decide +kernel) ⟨Nat.le_of_ble_eq_true rfl, Nat.le_of_ble_eq_true rfl⟩) ⟨PM_blind, fun U hU hW => ⟨rfl, PM_at hU hW hP hK hD⟩⟩ rfl rfl hl.1 rfl (lv_room (Nat.le_of_ble_eq_true rfl)) d_M_ask_11 ⟨Nat.le_of_ble_eq_true rfl, Nat.le_of_ble_eq_true rfl⟩) hS (fun q _ h => AM_up hA1 q h) (AM_up hA1) (fun r8 t10 tq H1 locs ht hvm hw9 hB hz1 hk1 hS => ?_)
    obtain ⟨hP, hD⟩ := BM_back ht hB (AM_up hA1)
    generalize H1 = H at hP hS ⊢
    obtain ⟨hwr, hwt⟩ := hw9
    rw [hwt] at hP hD
    rw [hwr]
    refine lv_if_ne (tgt := 23) hx hb d_M_ask_14 (by decide) (fun c11 => ?_) (fun c11 => ?_)
    · have _u : True := trivial
      refine lv_bipush (v := 12) hx hb d_M_ask_23 (by decide) ?_
      refine lv_iload_n hx hb d_M_ask_25 rfl (lv_at hl 1 rfl) ?_
      refine lv_imul hx hb d_M_ask_26 ?_
      refine lv_iload_n hx hb d_M_ask_27 rfl (lv_at hl 2 rfl) ?_
      refine lv_iadd hx hb d_M_ask_28 ?_
      refine lv_istore (lv' := [(4, .int ((12 * x) + a)), (0, .ref (ad (0))), (1, .int (x)), (2, .int (a)), (3, .int (w))]) hx hb d_M_ask_29 hl (by decide) rfl (fun ls hl => ?_)
      refine lv_aload_n hx hb d_M_ask_31 rfl (lv_at hl 1 rfl) ?_
      refine g_M_state hx hb hts hown hK hP mw_595 d_M_ask_32 ?_
      refine lv_iload hx hb d_M_ask_35 (lv_at hl 0 rfl) ?_
      refine g_m_state hx hb hK hP (r := (12 * u + a0)) (by omega) hs9 d_M_ask_37 ?_
      refine lv_iconst (v := -1) hx hb d_M_ask_38 (by decide) ?_
      refine lv_icmp_eq (tgt := 48) hx hb d_M_ask_39 (by decide) (fun c12 => ?_) (fun c12 => ?_)
      · have _u : True := trivial
        refine lv_aload_n hx hb d_M_ask_48 rfl (lv_at hl 1 rfl) ?_
        refine g_M_banned hx hb hts hown hK hP mw_602 d_M_ask_49 ?_
        refine lv_iload hx hb d_M_ask_52 (lv_at hl 0 rfl) ?_
        refine g_m_banned hx hb hK hP (r := (12 * u + a0)) (by omega) hs9 d_M_ask_54 ?_
        refine lv_if_eq (tgt := 64) hx hb d_M_ask_55 (by decide) (fun c13 => ?_) (fun c13 => ?_)
        · have _u : True := trivial
          refine lv_aload_n hx hb d_M_ask_64 rfl (lv_at hl 1 rfl) ?_
          refine lv_iconst (v := 0) hx hb d_M_ask_65 (by decide) ?_
          refine p_M_thrown hx hb hts hown hK hP hD hS mw_590 d_M_ask_66 (fun H locs hP hD hS => ?_)
          refine lv_aload_n hx hb d_M_ask_69 rfl (lv_at hl 1 rfl) ?_
          refine g_M_state hx hb hts hown hK hP mw_595 d_M_ask_70 ?_
          refine lv_iload hx hb d_M_ask_73 (lv_at hl 0 rfl) ?_
          refine lv_iconst (v := 0) hx hb d_M_ask_75 (by decide) ?_
          refine p_m_state hx hb hK hP hD hS (r := (12 * u + a0)) (by omega) hs9 d_M_ask_76 (fun H locs hP hD hS => ?_)
          refine lv_aload_n hx hb d_M_ask_77 rfl (lv_at hl 1 rfl) ?_
          refine g_M_way hx hb hts hown hK hP mw_596 d_M_ask_78 ?_
          refine lv_iload hx hb d_M_ask_81 (lv_at hl 0 rfl) ?_
          refine lv_iload_n hx hb d_M_ask_83 rfl (lv_at hl 4 rfl) ?_
          refine p_m_way hx hb hK hP hD hS (r := (12 * u + a0)) (by omega) hs9 d_M_ask_84 (fun H locs hP hD hS => ?_)
          refine lv_aload_n hx hb d_M_ask_85 rfl (lv_at hl 1 rfl) ?_
          refine g_M_since hx hb hts hown hK hP mw_597 d_M_ask_86 ?_
          refine lv_iload hx hb d_M_ask_89 (lv_at hl 0 rfl) ?_
          refine lv_aload_n hx hb d_M_ask_91 rfl (lv_at hl 1 rfl) ?_
          refine g_M_today hx hb hts hown hK hP mw_591 d_M_ask_92 ?_
          refine p_m_since hx hb hK hP hD hS (r := (12 * u + a0)) (by omega) hs9 d_M_ask_95 (fun H locs hP hD hS => ?_)
          refine lv_aload_n hx hb d_M_ask_96 rfl (lv_at hl 1 rfl) ?_
          refine g_M_moderates hx hb hts hown hK hP mw_601 d_M_ask_97 ?_
          refine lv_iload hx hb d_M_ask_100 (lv_at hl 0 rfl) ?_
          refine lv_iconst (v := 0) hx hb d_M_ask_102 (by decide) ?_
          refine p_m_moderates hx hb hK hP hD hS (r := (12 * u + a0)) (by omega) hs9 b01_0 d_M_ask_103 (fun H locs hP hD hS => ?_)
          refine lv_aload_n hx hb d_M_ask_104 rfl (lv_at hl 1 rfl) ?_
          refine g_M_score hx hb hts hown hK hP mw_603 d_M_ask_105 ?_
          refine lv_iload hx hb d_M_ask_108 (lv_at hl 0 rfl) ?_
          refine lv_dconst0 hx hb d_M_ask_110 ?_
          refine p_m_score hx hb hK hP hD hS (r := (12 * u + a0)) (by omega) hs9 d_M_ask_111 (fun H locs hP hD hS => ?_)
          refine lv_aload_n hx hb d_M_ask_112 rfl (lv_at hl 1 rfl) ?_
          refine g_M_warning hx hb hts hown hK hP mw_599 d_M_ask_113 ?_
          refine lv_iload hx hb d_M_ask_116 (lv_at hl 0 rfl) ?_
          refine lv_iconst (v := 0) hx hb d_M_ask_118 (by decide) ?_
          refine p_m_warning hx hb hK hP hD hS (r := (12 * u + a0)) (by omega) hs9 d_M_ask_119 (fun H locs hP hD hS => ?_)
          refine lv_aload_n hx hb d_M_ask_120 rfl (lv_at hl 1 rfl) ?_
          refine g_M_bounced hx hb hts hown hK hP mw_600 d_M_ask_121 ?_
          refine lv_iload hx hb d_M_ask_124 (lv_at hl 0 rfl) ?_
          refine lv_iconst (v := -1) hx hb d_M_ask_126 (by decide) ?_
          refine p_m_bounced hx hb hK hP hD hS (r := (12 * u + a0)) (by omega) hs9 d_M_ask_127 (fun H locs hP hD hS => ?_)
          refine lv_aload_n hx hb d_M_ask_128 rfl (lv_at hl 1 rfl) ?_
          refine g_M_code hx hb hts hown hK hP mw_598 d_M_ask_129 ?_
          refine lv_iload hx hb d_M_ask_132 (lv_at hl 0 rfl) ?_
          refine lv_sipush (v := 1000) hx hb d_M_ask_134 (by decide) ?_
          refine lv_aload_n hx hb d_M_ask_137 rfl (lv_at hl 1 rfl) ?_
          refine g_M_asked hx hb hts hown hK hP mw_592 d_M_ask_138 ?_
          refine lv_imul hx hb d_M_ask_141 ?_
          refine lv_bipush (v := 100) hx hb d_M_ask_142 (by decide) ?_
          refine lv_iload_n hx hb d_M_ask_144 rfl (lv_at hl 2 rfl) ?_
          refine lv_imul hx hb d_M_ask_145 ?_
          refine lv_iadd hx hb d_M_ask_146 ?_
          refine lv_iload_n hx hb d_M_ask_147 rfl (lv_at hl 3 rfl) ?_
          refine lv_iadd hx hb d_M_ask_148 ?_
          refine p_m_code hx hb hK hP hD hS (r := (12 * u + a0)) (by omega) hs9 d_M_ask_149 (fun H locs hP hD hS => ?_)
          refine lv_aload_n hx hb d_M_ask_150 rfl (lv_at hl 1 rfl) ?_
          refine lv_dup hx hb d_M_ask_151 rfl ?_
          refine g_M_asked hx hb hts hown hK hP mw_592 d_M_ask_152 ?_
          refine lv_iconst (v := 1) hx hb d_M_ask_155 (by decide) ?_
          refine lv_iadd hx hb d_M_ask_156 ?_
          refine p_M_asked hx hb hts hown hK hP hD hS mw_592 d_M_ask_157 (fun H locs hP hD hS => ?_)
          refine lv_aload_n hx hb d_M_ask_160 rfl (lv_at hl 1 rfl) ?_
          refine lv_iload_n hx hb d_M_ask_161 rfl (lv_at hl 3 rfl) ?_
          refine lv_iload_n hx hb d_M_ask_162 rfl (lv_at hl 2 rfl) ?_
          refine lv_iconst (v := 2) hx hb d_M_ask_163 (by decide) ?_
          refine lv_iconst (v := 0) hx hb d_M_ask_164 (by decide) ?_
          have hA1 := hS.1
          refine va_callv (va_runV (As := [.int (a), .int (x), .int (2), .int (0)]) (rest := []) ⟨hx, hb, hml, hown, hts⟩ (c_M_send l D ad ka H.size (pI (pI (pI (pI (pD (pI (pI (pI (pI (pI t 0 0 0) 1001 (12 * u + a0) 0) 1002 (12 * u + a0) w) 1003 (12 * u + a0) (gI (pI (pI (pI t 0 0 0) 1001 (12 * u + a0) 0) 1002 (12 * u + a0) w) 1 0)) 1007 (12 * u + a0) 0) 1009 (12 * u + a0) FP.dconst0) 1005 (12 * u + a0) 0) 1006 (12 * u + a0) (-1)) 1004 (12 * u + a0) (((1000 * (gI (pI (pI (pD (pI (pI (pI (pI (pI t 0 0 0) 1001 (12 * u + a0) 0) 1002 (12 * u + a0) w) 1003 (12 * u + a0) (gI (pI (pI (pI t 0 0 0) 1001 (12 * u + a0) 0) 1002 (12 * u + a0) w) 1 0)) 1007 (12 * u + a0) 0) 1009 (12 * u + a0) FP.dconst0) 1005 (12 * u + a0) 0) 1006 (12 * u + a0) (-1)) 2 0)) + (100 * x)) + a)) 2 0 ((gI (pI (pI (pI (pD (pI (pI (pI (pI (pI t 0 0 0) 1001 (12 * u + a0) 0) 1002 (12 * u + a0) w) 1003 (12 * u + a0) (gI (pI (pI (pI t 0 0 0) 1001 (12 * u + a0) 0) 1002 (12 * u + a0) w) 1 0)) 1007 (12 * u + a0) 0) 1009 (12 * u + a0) FP.dconst0) 1005 (12 * u + a0) 0) 1006 (12 * u + a0) (-1)) 1004 (12 * u + a0) (((1000 * (gI (pI (pI (pD (pI (pI (pI (pI (pI t 0 0 0) 1001 (12 * u + a0) 0) 1002 (12 * u + a0) w) 1003 (12 * u + a0) (gI (pI (pI (pI t 0 0 0) 1001 (12 * u + a0) 0) 1002 (12 * u + a0) w) 1 0)) 1007 (12 * u + a0) 0) 1009 (12 * u + a0) FP.dconst0) 1005 (12 * u + a0) 0) 1006 (12 * u + a0) (-1)) 2 0)) + (100 * x)) + a)) 2 0) + 1)) Bd hBd (SM_f (SM_f (SM_f (SM_f (SM_D (SM_f (SM_f (SM_f (SM_f (SM_f hm (by decide)) (by decide)) (by decide)) (by decide)) (by decide))) (by decide)) (by decide)) (by decide)) (by decide)) a x 2 0) (cwV 4 hts (gv mw_703 mw_705 (big_sel (i := 5) (by decide +kernel) (by decide +kernel)) mw_6 mw_706) rfl rfl rfl (by decide +kernel) ⟨Nat.le_of_ble_eq_true rfl, Nat.le_of_ble_eq_true rfl⟩) ⟨PM_blind, va_recv hK hP (ci := 0) (q0 := 0) rfl (at_M), fun U hU hW => ⟨rfl, PM_at hU hW hP hK hD⟩⟩ rfl rfl hl.1 rfl (lv_room (Nat.le_of_ble_eq_true rfl)) d_M_ask_165 ⟨Nat.le_of_ble_eq_true rfl, Nat.le_of_ble_eq_true rfl⟩) hS (fun q _ h => AM_up hA1 q h) (AM_up hA1) (fun t16 tq H1 locs ht hvm hw15 hB hz1 hk1 hS => ?_)
          obtain ⟨hP, hD⟩ := BM_back ht hB (AM_up hA1)
          generalize H1 = H at hP hS ⊢
          rw [hw15] at hP hD
          refine lv_aload_n hx hb d_M_ask_168 rfl (lv_at hl 1 rfl) ?_
          refine g_M_code hx hb hts hown hK hP mw_598 d_M_ask_169 ?_
          refine lv_iload hx hb d_M_ask_172 (lv_at hl 0 rfl) ?_
          refine g_m_code hx hb hK hP (r := (12 * u + a0)) (by omega) hs9 d_M_ask_174 ?_
          exact W.iret (v := gI (mSend (pI (pI (pI (pI (pD (pI (pI (pI (pI (pI t 0 0 0) 1001 (12 * u + a0) 0) 1002 (12 * u + a0) w) 1003 (12 * u + a0) (gI (pI (pI (pI t 0 0 0) 1001 (12 * u + a0) 0) 1002 (12 * u + a0) w) 1 0)) 1007 (12 * u + a0) 0) 1009 (12 * u + a0) FP.dconst0) 1005 (12 * u + a0) 0) 1006 (12 * u + a0) (-1)) 1004 (12 * u + a0) (((1000 * (gI (pI (pI (pD (pI (pI (pI (pI (pI t 0 0 0) 1001 (12 * u + a0) 0) 1002 (12 * u + a0) w) 1003 (12 * u + a0) (gI (pI (pI (pI t 0 0 0) 1001 (12 * u + a0) 0) 1002 (12 * u + a0) w) 1 0)) 1007 (12 * u + a0) 0) 1009 (12 * u + a0) FP.dconst0) 1005 (12 * u + a0) 0) 1006 (12 * u + a0) (-1)) 2 0)) + (100 * x)) + a)) 2 0 ((gI (pI (pI (pI (pD (pI (pI (pI (pI (pI t 0 0 0) 1001 (12 * u + a0) 0) 1002 (12 * u + a0) w) 1003 (12 * u + a0) (gI (pI (pI (pI t 0 0 0) 1001 (12 * u + a0) 0) 1002 (12 * u + a0) w) 1 0)) 1007 (12 * u + a0) 0) 1009 (12 * u + a0) FP.dconst0) 1005 (12 * u + a0) 0) 1006 (12 * u + a0) (-1)) 1004 (12 * u + a0) (((1000 * (gI (pI (pI (pD (pI (pI (pI (pI (pI t 0 0 0) 1001 (12 * u + a0) 0) 1002 (12 * u + a0) w) 1003 (12 * u + a0) (gI (pI (pI (pI t 0 0 0) 1001 (12 * u + a0) 0) 1002 (12 * u + a0) w) 1 0)) 1007 (12 * u + a0) 0) 1009 (12 * u + a0) FP.dconst0) 1005 (12 * u + a0) 0) 1006 (12 * u + a0) (-1)) 2 0)) + (100 * x)) + a)) 2 0) + 1)) a x 2 0) 1004 (12 * u + a0)) hx hb hr (fun t9 ht hW => ⟨⟨gI (mSend (pI (pI (pI (pI (pD (pI (pI (pI (pI (pI t 0 0 0) 1001 (12 * u + a0) 0) 1002 (12 * u + a0) w) 1003 (12 * u + a0) (gI (pI (pI (pI t 0 0 0) 1001 (12 * u + a0) 0) 1002 (12 * u + a0) w) 1 0)) 1007 (12 * u + a0) 0) 1009 (12 * u + a0) FP.dconst0) 1005 (12 * u + a0) 0) 1006 (12 * u + a0) (-1)) 1004 (12 * u + a0) (((1000 * (gI (pI (pI (pD (pI (pI (pI (pI (pI t 0 0 0) 1001 (12 * u + a0) 0) 1002 (12 * u + a0) w) 1003 (12 * u + a0) (gI (pI (pI (pI t 0 0 0) 1001 (12 * u + a0) 0) 1002 (12 * u + a0) w) 1 0)) 1007 (12 * u + a0) 0) 1009 (12 * u + a0) FP.dconst0) 1005 (12 * u + a0) 0) 1006 (12 * u + a0) (-1)) 2 0)) + (100 * x)) + a)) 2 0 ((gI (pI (pI (pI (pD (pI (pI (pI (pI (pI t 0 0 0) 1001 (12 * u + a0) 0) 1002 (12 * u + a0) w) 1003 (12 * u + a0) (gI (pI (pI (pI t 0 0 0) 1001 (12 * u + a0) 0) 1002 (12 * u + a0) w) 1 0)) 1007 (12 * u + a0) 0) 1009 (12 * u + a0) FP.dconst0) 1005 (12 * u + a0) 0) 1006 (12 * u + a0) (-1)) 1004 (12 * u + a0) (((1000 * (gI (pI (pI (pD (pI (pI (pI (pI (pI t 0 0 0) 1001 (12 * u + a0) 0) 1002 (12 * u + a0) w) 1003 (12 * u + a0) (gI (pI (pI (pI t 0 0 0) 1001 (12 * u + a0) 0) 1002 (12 * u + a0) w) 1 0)) 1007 (12 * u + a0) 0) 1009 (12 * u + a0) FP.dconst0) 1005 (12 * u + a0) 0) 1006 (12 * u + a0) (-1)) 2 0)) + (100 * x)) + a)) 2 0) + 1)) a x 2 0) 1004 (12 * u + a0), (mSend (pI (pI (pI (pI (pD (pI (pI (pI (pI (pI t 0 0 0) 1001 (12 * u + a0) 0) 1002 (12 * u + a0) w) 1003 (12 * u + a0) (gI (pI (pI (pI t 0 0 0) 1001 (12 * u + a0) 0) 1002 (12 * u + a0) w) 1 0)) 1007 (12 * u + a0) 0) 1009 (12 * u + a0) FP.dconst0) 1005 (12 * u + a0) 0) 1006 (12 * u + a0) (-1)) 1004 (12 * u + a0) (((1000 * (gI (pI (pI (pD (pI (pI (pI (pI (pI t 0 0 0) 1001 (12 * u + a0) 0) 1002 (12 * u + a0) w) 1003 (12 * u + a0) (gI (pI (pI (pI t 0 0 0) 1001 (12 * u + a0) 0) 1002 (12 * u + a0) w) 1 0)) 1007 (12 * u + a0) 0) 1009 (12 * u + a0) FP.dconst0) 1005 (12 * u + a0) 0) 1006 (12 * u + a0) (-1)) 2 0)) + (100 * x)) + a)) 2 0 ((gI (pI (pI (pI (pD (pI (pI (pI (pI (pI t 0 0 0) 1001 (12 * u + a0) 0) 1002 (12 * u + a0) w) 1003 (12 * u + a0) (gI (pI (pI (pI t 0 0 0) 1001 (12 * u + a0) 0) 1002 (12 * u + a0) w) 1 0)) 1007 (12 * u + a0) 0) 1009 (12 * u + a0) FP.dconst0) 1005 (12 * u + a0) 0) 1006 (12 * u + a0) (-1)) 1004 (12 * u + a0) (((1000 * (gI (pI (pI (pD (pI (pI (pI (pI (pI t 0 0 0) 1001 (12 * u + a0) 0) 1002 (12 * u + a0) w) 1003 (12 * u + a0) (gI (pI (pI (pI t 0 0 0) 1001 (12 * u + a0) 0) 1002 (12 * u + a0) w) 1 0)) 1007 (12 * u + a0) 0) 1009 (12 * u + a0) FP.dconst0) 1005 (12 * u + a0) 0) 1006 (12 * u + a0) (-1)) 2 0)) + (100 * x)) + a)) 2 0) + 1)) a x 2 0), rfl, (by first | (simp [mAsk, gI_pI, gI_pD, gD_pI, gD_pD, mAskT, mAskC, gI_send, c4, c11, c12, c13]; done) | (simp [mAsk, gI_pI, gI_pD, gD_pI, gD_pD, mAskT, mAskC, gI_send, c4, c11, c12, c13, hj, hcx, hca]; done)), BM_at ht hW hP hK hD⟩, hS.F ht⟩) hS.2.2 d_M_ask_175
        · have _u : True := trivial
          refine lv_aload_n hx hb d_M_ask_58 rfl (lv_at hl 1 rfl) ?_
          refine lv_iconst (v := 3) hx hb d_M_ask_59 (by decide) ?_
          have hA1 := hS.1
          refine va_calli (va_runV (As := [.int (3)]) (rest := []) ⟨hx, hb, hml, hown, hts⟩ (c_M_refuse l D ad ka H.size t 3) (cwV 1 hts (gv mw_699 mw_701 (big_sel (i := 4) (by decide +kernel) (by decide +kernel)) mw_6 mw_702) rfl rfl rfl (by decide +kernel) ⟨Nat.le_of_ble_eq_true rfl, Nat.le_of_ble_eq_true rfl⟩) ⟨PM_blind, va_recv hK hP (ci := 0) (q0 := 0) rfl (at_M), fun U hU hW => ⟨rfl, PM_at hU hW hP hK hD⟩⟩ rfl rfl hl.1 rfl (lv_room (Nat.le_of_ble_eq_true rfl)) d_M_ask_60 ⟨Nat.le_of_ble_eq_true rfl, Nat.le_of_ble_eq_true rfl⟩) hS (fun q _ h => AM_up hA1 q h) (AM_up hA1) (fun r17 t19 tq H1 locs ht hvm hw18 hB hz1 hk1 hS => ?_)
          obtain ⟨hP, hD⟩ := BM_back ht hB (AM_up hA1)
          generalize H1 = H at hP hS ⊢
          obtain ⟨hwr, hwt⟩ := hw18
          rw [hwt] at hP hD
          rw [hwr]
          exact W.iret (v := 0) hx hb hr (fun t9 ht hW => ⟨⟨0, (pI t 0 0 3), rfl, (by first | (simp [mAsk, gI_pI, gI_pD, gD_pI, gD_pD, mAskT, mAskC, gI_send, c4, c11, c12, c13]; done) | (simp [mAsk, gI_pI, gI_pD, gD_pI, gD_pD, mAskT, mAskC, gI_send, c4, c11, c12, c13, hj, hcx, hca]; done)), BM_at ht hW hP hK hD⟩, hS.F ht⟩) hS.2.2 d_M_ask_63
      · have _u : True := trivial
        refine lv_aload_n hx hb d_M_ask_42 rfl (lv_at hl 1 rfl) ?_
        refine lv_iconst (v := 2) hx hb d_M_ask_43 (by decide) ?_
        have hA1 := hS.1
        refine va_calli (va_runV (As := [.int (2)]) (rest := []) ⟨hx, hb, hml, hown, hts⟩ (c_M_refuse l D ad ka H.size t 2) (cwV 1 hts (gv mw_699 mw_701 (big_sel (i := 4) (by decide +kernel) (by decide +kernel)) mw_6 mw_702) rfl rfl rfl (by decide +kernel) ⟨Nat.le_of_ble_eq_true rfl, Nat.le_of_ble_eq_true rfl⟩) ⟨PM_blind, va_recv hK hP (ci := 0) (q0 := 0) rfl (at_M), fun U hU hW => ⟨rfl, PM_at hU hW hP hK hD⟩⟩ rfl rfl hl.1 rfl (lv_room (Nat.le_of_ble_eq_true rfl)) d_M_ask_44 ⟨Nat.le_of_ble_eq_true rfl, Nat.le_of_ble_eq_true rfl⟩) hS (fun q _ h => AM_up hA1 q h) (AM_up hA1) (fun r20 t22 tq H1 locs ht hvm hw21 hB hz1 hk1 hS => ?_)
        obtain ⟨hP, hD⟩ := BM_back ht hB (AM_up hA1)
        generalize H1 = H at hP hS ⊢
        obtain ⟨hwr, hwt⟩ := hw21
        rw [hwt] at hP hD
        rw [hwr]
        exact W.iret (v := 0) hx hb hr (fun t9 ht hW => ⟨⟨0, (pI t 0 0 2), rfl, (by first | (simp [mAsk, gI_pI, gI_pD, gD_pI, gD_pD, mAskT, mAskC, gI_send, c4, c11, c12]; done) | (simp [mAsk, gI_pI, gI_pD, gD_pI, gD_pD, mAskT, mAskC, gI_send, c4, c11, c12, hj, hcx, hca]; done)), BM_at ht hW hP hK hD⟩, hS.F ht⟩) hS.2.2 d_M_ask_47
    · have _u : True := trivial
      refine lv_aload_n hx hb d_M_ask_17 rfl (lv_at hl 0 rfl) ?_
      refine lv_iconst (v := 1) hx hb d_M_ask_18 (by decide) ?_
      have hA1 := hS.1
      refine va_calli (va_runV (As := [.int (1)]) (rest := []) ⟨hx, hb, hml, hown, hts⟩ (c_M_refuse l D ad ka H.size t 1) (cwV 1 hts (gv mw_699 mw_701 (big_sel (i := 4) (by decide +kernel) (by decide +kernel)) mw_6 mw_702) rfl rfl rfl (by decide +kernel) ⟨Nat.le_of_ble_eq_true rfl, Nat.le_of_ble_eq_true rfl⟩) ⟨PM_blind, va_recv hK hP (ci := 0) (q0 := 0) rfl (at_M), fun U hU hW => ⟨rfl, PM_at hU hW hP hK hD⟩⟩ rfl rfl hl.1 rfl (lv_room (Nat.le_of_ble_eq_true rfl)) d_M_ask_19 ⟨Nat.le_of_ble_eq_true rfl, Nat.le_of_ble_eq_true rfl⟩) hS (fun q _ h => AM_up hA1 q h) (AM_up hA1) (fun r23 t25 tq H1 locs ht hvm hw24 hB hz1 hk1 hS => ?_)
      obtain ⟨hP, hD⟩ := BM_back ht hB (AM_up hA1)
      generalize H1 = H at hP hS ⊢
      obtain ⟨hwr, hwt⟩ := hw24
      rw [hwt] at hP hD
      rw [hwr]
      exact W.iret (v := 0) hx hb hr (fun t9 ht hW => ⟨⟨0, (pI t 0 0 1), rfl, (by first | (simp [mAsk, gI_pI, gI_pD, gD_pI, gD_pD, mAskT, mAskC, gI_send, c4, c11]; done) | (simp [mAsk, gI_pI, gI_pD, gD_pI, gD_pD, mAskT, mAskC, gI_send, c4, c11, hj, hcx, hca]; done)), BM_at ht hW hP hK hD⟩, hS.F ht⟩) hS.2.2 d_M_ask_22
set_option maxHeartbeats 4000000 in
set_option maxRecDepth 100000 in
theorem c_M_bounce (l : Launch) (D : va_G) (ad : Nat → Nat) (ka : Nat → ClassId) (sz : Nat) (t : Mem) (Bd : Nat) (hBd : Bd < 1000000000) (hm : SM t Bd) (hnn : ∀ j, NN (gD t 1009 j)) (x a h : Int32) : Met l y_M_bounce (Cond.code y_M_bounce b_M_bounce 5 (some .double) :: big) ({ frames := 2, cells := 0, slots := 0, locals := 43 }) (va_Pc [.ref (ad (0)), .int (x), .int (a), .int (h)] (PM D ad ka sz t)) (va_Qd (fun (r : UInt64) (t' : Mem) => mBnc t x a h = (r, t')) (BM D ad ka sz) (AM ad sz)) 0 0 (AM ad sz) := by
  refine Met.ofW (cc := b_M_bounce) (maxL := 5) (ret := (some .double)) (by decide) rfl ?_
  intro p e s m args below meth c s₁ B hml hv
  obtain ⟨rfl, hsz, hP, hK, hD0⟩ := hv
  have hx := B.exec
  have hb := B.bytes
  have hr := B.returns
  have hlocks := B.notSynchronized
  have hts := atoms_spec (ws := Cond.code y_M_bounce b_M_bounce 5 (some .double) :: big) B.pre
  have hown : s.vm.findClass "ListForgeModel" = some m.cls := findClass_of_methodNamed B.named
  subst hsz
  have hD : va_D (AM ad s.heap.size) (mw ad ka t) := AM_D hD0
  have hS : va_S (AM ad s.heap.size) s.heap s.heap [] := va_S.rf
  have hl := lv_entry ([.ref (ad (0)), .int (x), .int (a), .int (h)]) (n := 5) (Nat.le_of_ble_eq_true rfl)
  rw [lg_entry_eq]
  generalize (lg_sl ([.ref (ad (0)), .int (x), .int (a), .int (h)]) ++ List.replicate (5 - (lg_sl ([.ref (ad (0)), .int (x), .int (a), .int (h)])).length) Slot.unset).toArray = ls at hl ⊢
  have hl : lv_has ls 5 [(0, .ref (ad (0))), (1, .int (x)), (2, .int (a)), (3, .int (h))] := hl

  refine lv_iload_n hx hb d_M_bounce_0 rfl (lv_at hl 1 rfl) ?_
  refine lv_iload_n hx hb d_M_bounce_1 rfl (lv_at hl 2 rfl) ?_
  have hA1 := hS.1
  refine va_calli (va_runS (As := [.int (x), .int (a)]) (rest := []) ⟨hx, hb, hml, hown, hts⟩ (c_M_isPlace l D ad ka s.heap.size t x a) (cwS 2 hts (gs mw_693 mw_694 mw_6 mw_695) rfl rfl rfl (by decide +kernel) ⟨Nat.le_of_ble_eq_true rfl, Nat.le_of_ble_eq_true rfl⟩) ⟨PM_blind, fun U hU hW => ⟨rfl, PM_at hU hW hP hK hD⟩⟩ rfl rfl hl.1 rfl (lv_room (Nat.le_of_ble_eq_true rfl)) d_M_bounce_2 ⟨Nat.le_of_ble_eq_true rfl, Nat.le_of_ble_eq_true rfl⟩) hS (fun q _ h => AM_up hA1 q h) (AM_up hA1) (fun r1 t3 tq H1 locs ht hvm hw2 hB hz1 hk1 hS => ?_)
  obtain ⟨hP, hD⟩ := BM_back ht hB (AM_up hA1)
  generalize H1 = H at hP hS ⊢
  obtain ⟨hwr, hwt⟩ := hw2
  rw [hwt] at hP hD
  rw [hwr]
  refine lv_if_ne (tgt := 15) hx hb d_M_bounce_5 (by decide) (fun c4 => ?_) (fun c4 => ?_)
  · have _u : True := trivial
    obtain ⟨u, hu, hxu, a0, ha0, hau⟩ := PL_of (x := x) (a := a) c4
    have hcx : cl x = u := cl_of hxu (by omega)
    have hca : cl a = a0 := cl_of hau (by omega)
    have hj : jj x a = 12 * u + a0 := by rw [jj, hcx, hca]
    have hs9 := s_of hxu hau
    refine lv_bipush (v := 12) hx hb d_M_bounce_15 (by decide) ?_
    refine lv_iload_n hx hb d_M_bounce_17 rfl (lv_at hl 1 rfl) ?_
    refine lv_imul hx hb d_M_bounce_18 ?_
    refine lv_iload_n hx hb d_M_bounce_19 rfl (lv_at hl 2 rfl) ?_
    refine lv_iadd hx hb d_M_bounce_20 ?_
    refine lv_istore (lv' := [(4, .int ((12 * x) + a)), (0, .ref (ad (0))), (1, .int (x)), (2, .int (a)), (3, .int (h))]) hx hb d_M_bounce_21 hl (by decide) rfl (fun ls hl => ?_)
    refine lv_aload_n hx hb d_M_bounce_23 rfl (lv_at hl 1 rfl) ?_
    refine g_M_state hx hb hts hown hK hP mw_595 d_M_bounce_24 ?_
    refine lv_iload hx hb d_M_bounce_27 (lv_at hl 0 rfl) ?_
    refine g_m_state hx hb hK hP (r := (12 * u + a0)) (by omega) hs9 d_M_bounce_29 ?_
    refine lv_iconst (v := -1) hx hb d_M_bounce_30 (by decide) ?_
    refine lv_icmp_ne (tgt := 41) hx hb d_M_bounce_31 (by decide) (fun c5 => ?_) (fun c5 => ?_)
    · have _u : True := trivial
      refine lv_aload_n hx hb d_M_bounce_41 rfl (lv_at hl 1 rfl) ?_
      refine g_M_state hx hb hts hown hK hP mw_595 d_M_bounce_42 ?_
      refine lv_iload hx hb d_M_bounce_45 (lv_at hl 0 rfl) ?_
      refine g_m_state hx hb hK hP (r := (12 * u + a0)) (by omega) hs9 d_M_bounce_47 ?_
      refine lv_iconst (v := 1) hx hb d_M_bounce_48 (by decide) ?_
      refine lv_icmp_eq (tgt := 59) hx hb d_M_bounce_49 (by decide) (fun c6 => ?_) (fun c6 => ?_)
      · have _u : True := trivial
        refine lv_aload_n hx hb d_M_bounce_59 rfl (lv_at hl 1 rfl) ?_
        refine lv_iconst (v := 0) hx hb d_M_bounce_60 (by decide) ?_
        refine p_M_thrown hx hb hts hown hK hP hD hS mw_590 d_M_bounce_61 (fun H locs hP hD hS => ?_)
        refine lv_aload_n hx hb d_M_bounce_64 rfl (lv_at hl 1 rfl) ?_
        refine g_M_bounced hx hb hts hown hK hP mw_600 d_M_bounce_65 ?_
        refine lv_iload hx hb d_M_bounce_68 (lv_at hl 0 rfl) ?_
        refine g_m_bounced hx hb hK hP (r := (12 * u + a0)) (by omega) hs9 d_M_bounce_70 ?_
        refine lv_aload_n hx hb d_M_bounce_71 rfl (lv_at hl 1 rfl) ?_
        refine g_M_today hx hb hts hown hK hP mw_591 d_M_bounce_72 ?_
        refine lv_icmp_ne (tgt := 86) hx hb d_M_bounce_75 (by decide) (fun c7 => ?_) (fun c7 => ?_)
        · have _u : True := trivial
          refine lv_aload_n hx hb d_M_bounce_86 rfl (lv_at hl 1 rfl) ?_
          refine g_M_bounced hx hb hts hown hK hP mw_600 d_M_bounce_87 ?_
          refine lv_iload hx hb d_M_bounce_90 (lv_at hl 0 rfl) ?_
          refine lv_aload_n hx hb d_M_bounce_92 rfl (lv_at hl 1 rfl) ?_
          refine g_M_today hx hb hts hown hK hP mw_591 d_M_bounce_93 ?_
          refine p_m_bounced hx hb hK hP hD hS (r := (12 * u + a0)) (by omega) hs9 d_M_bounce_96 (fun H locs hP hD hS => ?_)
          refine lv_aload_n hx hb d_M_bounce_97 rfl (lv_at hl 1 rfl) ?_
          refine g_M_score hx hb hts hown hK hP mw_603 d_M_bounce_98 ?_
          refine lv_iload hx hb d_M_bounce_101 (lv_at hl 0 rfl) ?_
          refine lv_dup2_11 hx hb d_M_bounce_103 rfl rfl ?_
          refine g_m_score hx hb hK hP (r := (12 * u + a0)) (by omega) hs9 d_M_bounce_104 ?_
          refine lv_iload_n hx hb d_M_bounce_105 rfl (lv_at hl 4 rfl) ?_
          refine lv_if_eq (tgt := 113) hx hb d_M_bounce_106 (by decide) (fun c8 => ?_) (fun c8 => ?_)
          · have _u : True := trivial
            refine lv_ldc2d (own := "ListForgeModel") (v := 4602678819172646912) hx hb hown (bg hts mw_731) d_M_bounce_113 ?_
            refine lv_dadd hx hb d_M_bounce_116 (NN_nan (NN_add (hnn _) NN_h)) ?_
            refine p_m_score hx hb hK hP hD hS (r := (12 * u + a0)) (by omega) hs9 d_M_bounce_117 (fun H locs hP hD hS => ?_)
            refine lv_aload_n hx hb d_M_bounce_118 rfl (lv_at hl 1 rfl) ?_
            refine g_M_score hx hb hts hown hK hP mw_603 d_M_bounce_119 ?_
            refine lv_iload hx hb d_M_bounce_122 (lv_at hl 0 rfl) ?_
            refine g_m_score hx hb hK hP (r := (12 * u + a0)) (by omega) hs9 d_M_bounce_124 ?_
            refine lv_aload_n hx hb d_M_bounce_125 rfl (lv_at hl 1 rfl) ?_
            refine g_M_best hx hb hts hown hK hP mw_609 d_M_bounce_126 ?_
            refine lv_iload_n hx hb d_M_bounce_129 rfl (lv_at hl 2 rfl) ?_
            refine g_m_best hx hb hK hP (r := u) hu hxu d_M_bounce_130 ?_
            refine lv_dcmp hx hb d_M_bounce_131 ?_
            refine lv_if_lt (tgt := 170) hx hb d_M_bounce_132 (by decide) (fun c9 => ?_) (fun c9 => ?_)
            · have _u : True := trivial
              refine lv_aload_n hx hb d_M_bounce_170 rfl (lv_at hl 1 rfl) ?_
              refine g_M_score hx hb hts hown hK hP mw_603 d_M_bounce_171 ?_
              refine lv_iload hx hb d_M_bounce_174 (lv_at hl 0 rfl) ?_
              refine g_m_score hx hb hK hP (r := (12 * u + a0)) (by omega) hs9 d_M_bounce_176 ?_
              exact W.dret (v := gD (pD (pI (pI t 0 0 0) 1006 (12 * u + a0) (gI (pI t 0 0 0) 1 0)) 1009 (12 * u + a0) (FP.dadd (gD (pI (pI t 0 0 0) 1006 (12 * u + a0) (gI (pI t 0 0 0) 1 0)) 1009 (12 * u + a0)) 4602678819172646912)) 1009 (12 * u + a0)) hx hb hr (fun t9 ht hW => ⟨⟨gD (pD (pI (pI t 0 0 0) 1006 (12 * u + a0) (gI (pI t 0 0 0) 1 0)) 1009 (12 * u + a0) (FP.dadd (gD (pI (pI t 0 0 0) 1006 (12 * u + a0) (gI (pI t 0 0 0) 1 0)) 1009 (12 * u + a0)) 4602678819172646912)) 1009 (12 * u + a0), (pD (pI (pI t 0 0 0) 1006 (12 * u + a0) (gI (pI t 0 0 0) 1 0)) 1009 (12 * u + a0) (FP.dadd (gD (pI (pI t 0 0 0) 1006 (12 * u + a0) (gI (pI t 0 0 0) 1 0)) 1009 (12 * u + a0)) 4602678819172646912)), rfl, (by (try simp [gI_pI, gI_pD, gD_pI, gD_pD] at c4); (try simp [gI_pI, gI_pD, gD_pI, gD_pD] at c5); (try simp [gI_pI, gI_pD, gD_pI, gD_pD] at c6); (try simp [gI_pI, gI_pD, gD_pI, gD_pD] at c7); (try simp [gI_pI, gI_pD, gD_pI, gD_pD] at c8); (try simp [gI_pI, gI_pD, gD_pI, gD_pD] at c9); first | (simp [mBnc, gI_pI, gI_pD, gD_pI, gD_pD, mBncT, mBncV, gI_send, gD_send, c4, c5, c6, c7, c8, c9]; done) | (simp [mBnc, gI_pI, gI_pD, gD_pI, gD_pD, mBncT, mBncV, gI_send, gD_send, c4, c5, c6, c7, c8, c9, hj, hcx, hca]; done) | (simp [mBnc, gI_pI, gI_pD, gD_pI, gD_pD, mBncT, mBncV, gI_send, gD_send, c4, c5, c6, c7, c8, c9, hj, hcx, hca]; intro q9; exact absurd q9 (Int32.not_lt.mpr c9))), BM_at ht hW hP hK hD⟩, hS.F ht⟩) hS.2.2 d_M_bounce_177
            · have _u : True := trivial
              refine lv_aload_n hx hb d_M_bounce_135 rfl (lv_at hl 1 rfl) ?_
              refine g_M_state hx hb hts hown hK hP mw_595 d_M_bounce_136 ?_
              refine lv_iload hx hb d_M_bounce_139 (lv_at hl 0 rfl) ?_
              refine lv_iconst (v := 2) hx hb d_M_bounce_141 (by decide) ?_
              refine p_m_state hx hb hK hP hD hS (r := (12 * u + a0)) (by omega) hs9 d_M_bounce_142 (fun H locs hP hD hS => ?_)
              refine lv_aload_n hx hb d_M_bounce_143 rfl (lv_at hl 1 rfl) ?_
              refine g_M_since hx hb hts hown hK hP mw_597 d_M_bounce_144 ?_
              refine lv_iload hx hb d_M_bounce_147 (lv_at hl 0 rfl) ?_
              refine lv_aload_n hx hb d_M_bounce_149 rfl (lv_at hl 1 rfl) ?_
              refine g_M_today hx hb hts hown hK hP mw_591 d_M_bounce_150 ?_
              refine p_m_since hx hb hK hP hD hS (r := (12 * u + a0)) (by omega) hs9 d_M_bounce_153 (fun H locs hP hD hS => ?_)
              refine lv_aload_n hx hb d_M_bounce_154 rfl (lv_at hl 1 rfl) ?_
              refine g_M_warning hx hb hts hown hK hP mw_599 d_M_bounce_155 ?_
              refine lv_iload hx hb d_M_bounce_158 (lv_at hl 0 rfl) ?_
              refine lv_iconst (v := 1) hx hb d_M_bounce_160 (by decide) ?_
              refine p_m_warning hx hb hK hP hD hS (r := (12 * u + a0)) (by omega) hs9 d_M_bounce_161 (fun H locs hP hD hS => ?_)
              refine lv_aload_n hx hb d_M_bounce_162 rfl (lv_at hl 1 rfl) ?_
              refine lv_iload_n hx hb d_M_bounce_163 rfl (lv_at hl 3 rfl) ?_
              refine lv_iload_n hx hb d_M_bounce_164 rfl (lv_at hl 2 rfl) ?_
              refine lv_iconst (v := 5) hx hb d_M_bounce_165 (by decide) ?_
              refine lv_iconst (v := 1) hx hb d_M_bounce_166 (by decide) ?_
              have hA1 := hS.1
              refine va_callv (va_runV (As := [.int (a), .int (x), .int (5), .int (1)]) (rest := []) ⟨hx, hb, hml, hown, hts⟩ (c_M_send l D ad ka H.size (pI (pI (pI (pD (pI (pI t 0 0 0) 1006 (12 * u + a0) (gI (pI t 0 0 0) 1 0)) 1009 (12 * u + a0) (FP.dadd (gD (pI (pI t 0 0 0) 1006 (12 * u + a0) (gI (pI t 0 0 0) 1 0)) 1009 (12 * u + a0)) 4602678819172646912)) 1001 (12 * u + a0) 2) 1003 (12 * u + a0) (gI (pI (pD (pI (pI t 0 0 0) 1006 (12 * u + a0) (gI (pI t 0 0 0) 1 0)) 1009 (12 * u + a0) (FP.dadd (gD (pI (pI t 0 0 0) 1006 (12 * u + a0) (gI (pI t 0 0 0) 1 0)) 1009 (12 * u + a0)) 4602678819172646912)) 1001 (12 * u + a0) 2) 1 0)) 1005 (12 * u + a0) 1) Bd hBd (SM_f (SM_f (SM_f (SM_D (SM_f (SM_f hm (by decide)) (by decide))) (by decide)) (by decide)) (by decide)) a x 5 1) (cwV 4 hts (gv mw_703 mw_705 (big_sel (i := 5) (by decide +kernel) (by decide +kernel)) mw_6 mw_706) rfl rfl rfl (by decide +kernel) ⟨Nat.le_of_ble_eq_true rfl, Nat.le_of_ble_eq_true rfl⟩) ⟨PM_blind, va_recv hK hP (ci := 0) (q0 := 0) rfl (at_M), fun U hU hW => ⟨rfl, PM_at hU hW hP hK hD⟩⟩ rfl rfl hl.1 rfl (lv_room (Nat.le_of_ble_eq_true rfl)) d_M_bounce_167 ⟨Nat.le_of_ble_eq_true rfl, Nat.le_of_ble_eq_true rfl⟩) hS (fun q _ h => AM_up hA1 q h) (AM_up hA1) (fun t12 tq H1 locs ht hvm hw11 hB hz1 hk1 hS => ?_)
              obtain ⟨hP, hD⟩ := BM_back ht hB (AM_up hA1)
              generalize H1 = H at hP hS ⊢
              rw [hw11] at hP hD
              refine lv_aload_n hx hb d_M_bounce_170 rfl (lv_at hl 1 rfl) ?_
              refine g_M_score hx hb hts hown hK hP mw_603 d_M_bounce_171 ?_
              refine lv_iload hx hb d_M_bounce_174 (lv_at hl 0 rfl) ?_
              refine g_m_score hx hb hK hP (r := (12 * u + a0)) (by omega) hs9 d_M_bounce_176 ?_
              exact W.dret (v := gD (mSend (pI (pI (pI (pD (pI (pI t 0 0 0) 1006 (12 * u + a0) (gI (pI t 0 0 0) 1 0)) 1009 (12 * u + a0) (FP.dadd (gD (pI (pI t 0 0 0) 1006 (12 * u + a0) (gI (pI t 0 0 0) 1 0)) 1009 (12 * u + a0)) 4602678819172646912)) 1001 (12 * u + a0) 2) 1003 (12 * u + a0) (gI (pI (pD (pI (pI t 0 0 0) 1006 (12 * u + a0) (gI (pI t 0 0 0) 1 0)) 1009 (12 * u + a0) (FP.dadd (gD (pI (pI t 0 0 0) 1006 (12 * u + a0) (gI (pI t 0 0 0) 1 0)) 1009 (12 * u + a0)) 4602678819172646912)) 1001 (12 * u + a0) 2) 1 0)) 1005 (12 * u + a0) 1) a x 5 1) 1009 (12 * u + a0)) hx hb hr (fun t9 ht hW => ⟨⟨gD (mSend (pI (pI (pI (pD (pI (pI t 0 0 0) 1006 (12 * u + a0) (gI (pI t 0 0 0) 1 0)) 1009 (12 * u + a0) (FP.dadd (gD (pI (pI t 0 0 0) 1006 (12 * u + a0) (gI (pI t 0 0 0) 1 0)) 1009 (12 * u + a0)) 4602678819172646912)) 1001 (12 * u + a0) 2) 1003 (12 * u + a0) (gI (pI (pD (pI (pI t 0 0 0) 1006 (12 * u + a0) (gI (pI t 0 0 0) 1 0)) 1009 (12 * u + a0) (FP.dadd (gD (pI (pI t 0 0 0) 1006 (12 * u + a0) (gI (pI t 0 0 0) 1 0)) 1009 (12 * u + a0)) 4602678819172646912)) 1001 (12 * u + a0) 2) 1 0)) 1005 (12 * u + a0) 1) a x 5 1) 1009 (12 * u + a0), (mSend (pI (pI (pI (pD (pI (pI t 0 0 0) 1006 (12 * u + a0) (gI (pI t 0 0 0) 1 0)) 1009 (12 * u + a0) (FP.dadd (gD (pI (pI t 0 0 0) 1006 (12 * u + a0) (gI (pI t 0 0 0) 1 0)) 1009 (12 * u + a0)) 4602678819172646912)) 1001 (12 * u + a0) 2) 1003 (12 * u + a0) (gI (pI (pD (pI (pI t 0 0 0) 1006 (12 * u + a0) (gI (pI t 0 0 0) 1 0)) 1009 (12 * u + a0) (FP.dadd (gD (pI (pI t 0 0 0) 1006 (12 * u + a0) (gI (pI t 0 0 0) 1 0)) 1009 (12 * u + a0)) 4602678819172646912)) 1001 (12 * u + a0) 2) 1 0)) 1005 (12 * u + a0) 1) a x 5 1), rfl, (by (try simp [gI_pI, gI_pD, gD_pI, gD_pD] at c4); (try simp [gI_pI, gI_pD, gD_pI, gD_pD] at c5); (try simp [gI_pI, gI_pD, gD_pI, gD_pD] at c6); (try simp [gI_pI, gI_pD, gD_pI, gD_pD] at c7); (try simp [gI_pI, gI_pD, gD_pI, gD_pD] at c8); (try simp [gI_pI, gI_pD, gD_pI, gD_pD] at c9); first | (simp [mBnc, gI_pI, gI_pD, gD_pI, gD_pD, mBncT, mBncV, gI_send, gD_send, c4, c5, c6, c7, c8, c9]; done) | (simp [mBnc, gI_pI, gI_pD, gD_pI, gD_pD, mBncT, mBncV, gI_send, gD_send, c4, c5, c6, c7, c8, c9, hj, hcx, hca]; done) | (simp [mBnc, gI_pI, gI_pD, gD_pI, gD_pD, mBncT, mBncV, gI_send, gD_send, c4, c5, c6, c7, c8, c9, hj, hcx, hca]; intro q9; exact absurd q9 (Int32.not_lt.mpr c9))), BM_at ht hW hP hK hD⟩, hS.F ht⟩) hS.2.2 d_M_bounce_177
          · have _u : True := trivial
            refine lv_dconst1 hx hb d_M_bounce_109 ?_
            refine lv_goto (tgt := 116) hx hb d_M_bounce_110 (by decide) ?_
            refine lv_dadd hx hb d_M_bounce_116 (NN_nan (NN_add (hnn _) NN_1)) ?_
            refine p_m_score hx hb hK hP hD hS (r := (12 * u + a0)) (by omega) hs9 d_M_bounce_117 (fun H locs hP hD hS => ?_)
            refine lv_aload_n hx hb d_M_bounce_118 rfl (lv_at hl 1 rfl) ?_
            refine g_M_score hx hb hts hown hK hP mw_603 d_M_bounce_119 ?_
            refine lv_iload hx hb d_M_bounce_122 (lv_at hl 0 rfl) ?_
            refine g_m_score hx hb hK hP (r := (12 * u + a0)) (by omega) hs9 d_M_bounce_124 ?_
            refine lv_aload_n hx hb d_M_bounce_125 rfl (lv_at hl 1 rfl) ?_
            refine g_M_best hx hb hts hown hK hP mw_609 d_M_bounce_126 ?_
            refine lv_iload_n hx hb d_M_bounce_129 rfl (lv_at hl 2 rfl) ?_
            refine g_m_best hx hb hK hP (r := u) hu hxu d_M_bounce_130 ?_
            refine lv_dcmp hx hb d_M_bounce_131 ?_
            refine lv_if_lt (tgt := 170) hx hb d_M_bounce_132 (by decide) (fun c13 => ?_) (fun c13 => ?_)
            · have _u : True := trivial
              refine lv_aload_n hx hb d_M_bounce_170 rfl (lv_at hl 1 rfl) ?_
              refine g_M_score hx hb hts hown hK hP mw_603 d_M_bounce_171 ?_
              refine lv_iload hx hb d_M_bounce_174 (lv_at hl 0 rfl) ?_
              refine g_m_score hx hb hK hP (r := (12 * u + a0)) (by omega) hs9 d_M_bounce_176 ?_
              exact W.dret (v := gD (pD (pI (pI t 0 0 0) 1006 (12 * u + a0) (gI (pI t 0 0 0) 1 0)) 1009 (12 * u + a0) (FP.dadd (gD (pI (pI t 0 0 0) 1006 (12 * u + a0) (gI (pI t 0 0 0) 1 0)) 1009 (12 * u + a0)) FP.dconst1)) 1009 (12 * u + a0)) hx hb hr (fun t9 ht hW => ⟨⟨gD (pD (pI (pI t 0 0 0) 1006 (12 * u + a0) (gI (pI t 0 0 0) 1 0)) 1009 (12 * u + a0) (FP.dadd (gD (pI (pI t 0 0 0) 1006 (12 * u + a0) (gI (pI t 0 0 0) 1 0)) 1009 (12 * u + a0)) FP.dconst1)) 1009 (12 * u + a0), (pD (pI (pI t 0 0 0) 1006 (12 * u + a0) (gI (pI t 0 0 0) 1 0)) 1009 (12 * u + a0) (FP.dadd (gD (pI (pI t 0 0 0) 1006 (12 * u + a0) (gI (pI t 0 0 0) 1 0)) 1009 (12 * u + a0)) FP.dconst1)), rfl, (by (try simp [gI_pI, gI_pD, gD_pI, gD_pD] at c4); (try simp [gI_pI, gI_pD, gD_pI, gD_pD] at c5); (try simp [gI_pI, gI_pD, gD_pI, gD_pD] at c6); (try simp [gI_pI, gI_pD, gD_pI, gD_pD] at c7); (try simp [gI_pI, gI_pD, gD_pI, gD_pD] at c8); (try simp [gI_pI, gI_pD, gD_pI, gD_pD] at c13); first | (simp [mBnc, gI_pI, gI_pD, gD_pI, gD_pD, mBncT, mBncV, gI_send, gD_send, c4, c5, c6, c7, c8, c13]; done) | (simp [mBnc, gI_pI, gI_pD, gD_pI, gD_pD, mBncT, mBncV, gI_send, gD_send, c4, c5, c6, c7, c8, c13, hj, hcx, hca]; done) | (simp [mBnc, gI_pI, gI_pD, gD_pI, gD_pD, mBncT, mBncV, gI_send, gD_send, c4, c5, c6, c7, c8, c13, hj, hcx, hca]; intro q9; exact absurd q9 (Int32.not_lt.mpr c13))), BM_at ht hW hP hK hD⟩, hS.F ht⟩) hS.2.2 d_M_bounce_177
            · have _u : True := trivial
              refine lv_aload_n hx hb d_M_bounce_135 rfl (lv_at hl 1 rfl) ?_
              refine g_M_state hx hb hts hown hK hP mw_595 d_M_bounce_136 ?_
              refine lv_iload hx hb d_M_bounce_139 (lv_at hl 0 rfl) ?_
              refine lv_iconst (v := 2) hx hb d_M_bounce_141 (by decide) ?_
              refine p_m_state hx hb hK hP hD hS (r := (12 * u + a0)) (by omega) hs9 d_M_bounce_142 (fun H locs hP hD hS => ?_)
              refine lv_aload_n hx hb d_M_bounce_143 rfl (lv_at hl 1 rfl) ?_
              refine g_M_since hx hb hts hown hK hP mw_597 d_M_bounce_144 ?_
              refine lv_iload hx hb d_M_bounce_147 (lv_at hl 0 rfl) ?_
              refine lv_aload_n hx hb d_M_bounce_149 rfl (lv_at hl 1 rfl) ?_
              refine g_M_today hx hb hts hown hK hP mw_591 d_M_bounce_150 ?_
              refine p_m_since hx hb hK hP hD hS (r := (12 * u + a0)) (by omega) hs9 d_M_bounce_153 (fun H locs hP hD hS => ?_)
              refine lv_aload_n hx hb d_M_bounce_154 rfl (lv_at hl 1 rfl) ?_
              refine g_M_warning hx hb hts hown hK hP mw_599 d_M_bounce_155 ?_
              refine lv_iload hx hb d_M_bounce_158 (lv_at hl 0 rfl) ?_
              refine lv_iconst (v := 1) hx hb d_M_bounce_160 (by decide) ?_
              refine p_m_warning hx hb hK hP hD hS (r := (12 * u + a0)) (by omega) hs9 d_M_bounce_161 (fun H locs hP hD hS => ?_)
              refine lv_aload_n hx hb d_M_bounce_162 rfl (lv_at hl 1 rfl) ?_
              refine lv_iload_n hx hb d_M_bounce_163 rfl (lv_at hl 3 rfl) ?_
              refine lv_iload_n hx hb d_M_bounce_164 rfl (lv_at hl 2 rfl) ?_
              refine lv_iconst (v := 5) hx hb d_M_bounce_165 (by decide) ?_
              refine lv_iconst (v := 1) hx hb d_M_bounce_166 (by decide) ?_
              have hA1 := hS.1
              refine va_callv (va_runV (As := [.int (a), .int (x), .int (5), .int (1)]) (rest := []) ⟨hx, hb, hml, hown, hts⟩ (c_M_send l D ad ka H.size (pI (pI (pI (pD (pI (pI t 0 0 0) 1006 (12 * u + a0) (gI (pI t 0 0 0) 1 0)) 1009 (12 * u + a0) (FP.dadd (gD (pI (pI t 0 0 0) 1006 (12 * u + a0) (gI (pI t 0 0 0) 1 0)) 1009 (12 * u + a0)) FP.dconst1)) 1001 (12 * u + a0) 2) 1003 (12 * u + a0) (gI (pI (pD (pI (pI t 0 0 0) 1006 (12 * u + a0) (gI (pI t 0 0 0) 1 0)) 1009 (12 * u + a0) (FP.dadd (gD (pI (pI t 0 0 0) 1006 (12 * u + a0) (gI (pI t 0 0 0) 1 0)) 1009 (12 * u + a0)) FP.dconst1)) 1001 (12 * u + a0) 2) 1 0)) 1005 (12 * u + a0) 1) Bd hBd (SM_f (SM_f (SM_f (SM_D (SM_f (SM_f hm (by decide)) (by decide))) (by decide)) (by decide)) (by decide)) a x 5 1) (cwV 4 hts (gv mw_703 mw_705 (big_sel (i := 5) (by decide +kernel) (by decide +kernel)) mw_6 mw_706) rfl rfl rfl (by decide +kernel) ⟨Nat.le_of_ble_eq_true rfl, Nat.le_of_ble_eq_true rfl⟩) ⟨PM_blind, va_recv hK hP (ci := 0) (q0 := 0) rfl (at_M), fun U hU hW => ⟨rfl, PM_at hU hW hP hK hD⟩⟩ rfl rfl hl.1 rfl (lv_room (Nat.le_of_ble_eq_true rfl)) d_M_bounce_167 ⟨Nat.le_of_ble_eq_true rfl, Nat.le_of_ble_eq_true rfl⟩) hS (fun q _ h => AM_up hA1 q h) (AM_up hA1) (fun t16 tq H1 locs ht hvm hw15 hB hz1 hk1 hS => ?_)
              obtain ⟨hP, hD⟩ := BM_back ht hB (AM_up hA1)
              generalize H1 = H at hP hS ⊢
              rw [hw15] at hP hD
              refine lv_aload_n hx hb d_M_bounce_170 rfl (lv_at hl 1 rfl) ?_
              refine g_M_score hx hb hts hown hK hP mw_603 d_M_bounce_171 ?_
              refine lv_iload hx hb d_M_bounce_174 (lv_at hl 0 rfl) ?_
              refine g_m_score hx hb hK hP (r := (12 * u + a0)) (by omega) hs9 d_M_bounce_176 ?_
              exact W.dret (v := gD (mSend (pI (pI (pI (pD (pI (pI t 0 0 0) 1006 (12 * u + a0) (gI (pI t 0 0 0) 1 0)) 1009 (12 * u + a0) (FP.dadd (gD (pI (pI t 0 0 0) 1006 (12 * u + a0) (gI (pI t 0 0 0) 1 0)) 1009 (12 * u + a0)) FP.dconst1)) 1001 (12 * u + a0) 2) 1003 (12 * u + a0) (gI (pI (pD (pI (pI t 0 0 0) 1006 (12 * u + a0) (gI (pI t 0 0 0) 1 0)) 1009 (12 * u + a0) (FP.dadd (gD (pI (pI t 0 0 0) 1006 (12 * u + a0) (gI (pI t 0 0 0) 1 0)) 1009 (12 * u + a0)) FP.dconst1)) 1001 (12 * u + a0) 2) 1 0)) 1005 (12 * u + a0) 1) a x 5 1) 1009 (12 * u + a0)) hx hb hr (fun t9 ht hW => ⟨⟨gD (mSend (pI (pI (pI (pD (pI (pI t 0 0 0) 1006 (12 * u + a0) (gI (pI t 0 0 0) 1 0)) 1009 (12 * u + a0) (FP.dadd (gD (pI (pI t 0 0 0) 1006 (12 * u + a0) (gI (pI t 0 0 0) 1 0)) 1009 (12 * u + a0)) FP.dconst1)) 1001 (12 * u + a0) 2) 1003 (12 * u + a0) (gI (pI (pD (pI (pI t 0 0 0) 1006 (12 * u + a0) (gI (pI t 0 0 0) 1 0)) 1009 (12 * u + a0) (FP.dadd (gD (pI (pI t 0 0 0) 1006 (12 * u + a0) (gI (pI t 0 0 0) 1 0)) 1009 (12 * u + a0)) FP.dconst1)) 1001 (12 * u + a0) 2) 1 0)) 1005 (12 * u + a0) 1) a x 5 1) 1009 (12 * u + a0), (mSend (pI (pI (pI (pD (pI (pI t 0 0 0) 1006 (12 * u + a0) (gI (pI t 0 0 0) 1 0)) 1009 (12 * u + a0) (FP.dadd (gD (pI (pI t 0 0 0) 1006 (12 * u + a0) (gI (pI t 0 0 0) 1 0)) 1009 (12 * u + a0)) FP.dconst1)) 1001 (12 * u + a0) 2) 1003 (12 * u + a0) (gI (pI (pD (pI (pI t 0 0 0) 1006 (12 * u + a0) (gI (pI t 0 0 0) 1 0)) 1009 (12 * u + a0) (FP.dadd (gD (pI (pI t 0 0 0) 1006 (12 * u + a0) (gI (pI t 0 0 0) 1 0)) 1009 (12 * u + a0)) FP.dconst1)) 1001 (12 * u + a0) 2) 1 0)) 1005 (12 * u + a0) 1) a x 5 1), rfl, (by (try simp [gI_pI, gI_pD, gD_pI, gD_pD] at c4); (try simp [gI_pI, gI_pD, gD_pI, gD_pD] at c5); (try simp [gI_pI, gI_pD, gD_pI, gD_pD] at c6); (try simp [gI_pI, gI_pD, gD_pI, gD_pD] at c7); (try simp [gI_pI, gI_pD, gD_pI, gD_pD] at c8); (try simp [gI_pI, gI_pD, gD_pI, gD_pD] at c13); first | (simp [mBnc, gI_pI, gI_pD, gD_pI, gD_pD, mBncT, mBncV, gI_send, gD_send, c4, c5, c6, c7, c8, c13]; done) | (simp [mBnc, gI_pI, gI_pD, gD_pI, gD_pD, mBncT, mBncV, gI_send, gD_send, c4, c5, c6, c7, c8, c13, hj, hcx, hca]; done) | (simp [mBnc, gI_pI, gI_pD, gD_pI, gD_pD, mBncT, mBncV, gI_send, gD_send, c4, c5, c6, c7, c8, c13, hj, hcx, hca]; intro q9; exact absurd q9 (Int32.not_lt.mpr c13))), BM_at ht hW hP hK hD⟩, hS.F ht⟩) hS.2.2 d_M_bounce_177
        · have _u : True := trivial
          refine lv_aload_n hx hb d_M_bounce_78 rfl (lv_at hl 1 rfl) ?_
          refine g_M_score hx hb hts hown hK hP mw_603 d_M_bounce_79 ?_
          refine lv_iload hx hb d_M_bounce_82 (lv_at hl 0 rfl) ?_
          refine g_m_score hx hb hK hP (r := (12 * u + a0)) (by omega) hs9 d_M_bounce_84 ?_
          exact W.dret (v := gD (pI t 0 0 0) 1009 (12 * u + a0)) hx hb hr (fun t9 ht hW => ⟨⟨gD (pI t 0 0 0) 1009 (12 * u + a0), (pI t 0 0 0), rfl, (by (try simp [gI_pI, gI_pD, gD_pI, gD_pD] at c4); (try simp [gI_pI, gI_pD, gD_pI, gD_pD] at c5); (try simp [gI_pI, gI_pD, gD_pI, gD_pD] at c6); (try simp [gI_pI, gI_pD, gD_pI, gD_pD] at c7); first | (simp [mBnc, gI_pI, gI_pD, gD_pI, gD_pD, mBncT, mBncV, gI_send, gD_send, c4, c5, c6, c7]; done) | (simp [mBnc, gI_pI, gI_pD, gD_pI, gD_pD, mBncT, mBncV, gI_send, gD_send, c4, c5, c6, c7, hj, hcx, hca]; done) | (simp [mBnc, gI_pI, gI_pD, gD_pI, gD_pD, mBncT, mBncV, gI_send, gD_send, c4, c5, c6, c7, hj, hcx, hca]; intro q9; exact absurd q9 (Int32.not_lt.mpr c7))), BM_at ht hW hP hK hD⟩, hS.F ht⟩) hS.2.2 d_M_bounce_85
      · have _u : True := trivial
        refine lv_aload_n hx hb d_M_bounce_52 rfl (lv_at hl 1 rfl) ?_
        refine lv_iconst (v := 3) hx hb d_M_bounce_53 (by decide) ?_
        have hA1 := hS.1
        refine va_calli (va_runV (As := [.int (3)]) (rest := []) ⟨hx, hb, hml, hown, hts⟩ (c_M_refuse l D ad ka H.size t 3) (cwV 1 hts (gv mw_699 mw_701 (big_sel (i := 4) (by decide +kernel) (by decide +kernel)) mw_6 mw_702) rfl rfl rfl (by decide +kernel) ⟨Nat.le_of_ble_eq_true rfl, Nat.le_of_ble_eq_true rfl⟩) ⟨PM_blind, va_recv hK hP (ci := 0) (q0 := 0) rfl (at_M), fun U hU hW => ⟨rfl, PM_at hU hW hP hK hD⟩⟩ rfl rfl hl.1 rfl (lv_room (Nat.le_of_ble_eq_true rfl)) d_M_bounce_54 ⟨Nat.le_of_ble_eq_true rfl, Nat.le_of_ble_eq_true rfl⟩) hS (fun q _ h => AM_up hA1 q h) (AM_up hA1) (fun r17 t19 tq H1 locs ht hvm hw18 hB hz1 hk1 hS => ?_)
        obtain ⟨hP, hD⟩ := BM_back ht hB (AM_up hA1)
        generalize H1 = H at hP hS ⊢
        obtain ⟨hwr, hwt⟩ := hw18
        rw [hwt] at hP hD
        rw [hwr]
        refine lv_i2d hx hb d_M_bounce_57 ?_
        exact W.dret (v := FP.i2d 0) hx hb hr (fun t9 ht hW => ⟨⟨FP.i2d 0, (pI t 0 0 3), rfl, (by (try simp [gI_pI, gI_pD, gD_pI, gD_pD] at c4); (try simp [gI_pI, gI_pD, gD_pI, gD_pD] at c5); (try simp [gI_pI, gI_pD, gD_pI, gD_pD] at c6); first | (simp [mBnc, gI_pI, gI_pD, gD_pI, gD_pD, mBncT, mBncV, gI_send, gD_send, c4, c5, c6]; done) | (simp [mBnc, gI_pI, gI_pD, gD_pI, gD_pD, mBncT, mBncV, gI_send, gD_send, c4, c5, c6, hj, hcx, hca]; done) | (simp [mBnc, gI_pI, gI_pD, gD_pI, gD_pD, mBncT, mBncV, gI_send, gD_send, c4, c5, c6, hj, hcx, hca]; intro q9; exact absurd q9 (Int32.not_lt.mpr c6))), BM_at ht hW hP hK hD⟩, hS.F ht⟩) hS.2.2 d_M_bounce_58
    · have _u : True := trivial
      refine lv_aload_n hx hb d_M_bounce_34 rfl (lv_at hl 1 rfl) ?_
      refine lv_iconst (v := 2) hx hb d_M_bounce_35 (by decide) ?_
      have hA1 := hS.1
      refine va_calli (va_runV (As := [.int (2)]) (rest := []) ⟨hx, hb, hml, hown, hts⟩ (c_M_refuse l D ad ka H.size t 2) (cwV 1 hts (gv mw_699 mw_701 (big_sel (i := 4) (by decide +kernel) (by decide +kernel)) mw_6 mw_702) rfl rfl rfl (by decide +kernel) ⟨Nat.le_of_ble_eq_true rfl, Nat.le_of_ble_eq_true rfl⟩) ⟨PM_blind, va_recv hK hP (ci := 0) (q0 := 0) rfl (at_M), fun U hU hW => ⟨rfl, PM_at hU hW hP hK hD⟩⟩ rfl rfl hl.1 rfl (lv_room (Nat.le_of_ble_eq_true rfl)) d_M_bounce_36 ⟨Nat.le_of_ble_eq_true rfl, Nat.le_of_ble_eq_true rfl⟩) hS (fun q _ h => AM_up hA1 q h) (AM_up hA1) (fun r20 t22 tq H1 locs ht hvm hw21 hB hz1 hk1 hS => ?_)
      obtain ⟨hP, hD⟩ := BM_back ht hB (AM_up hA1)
      generalize H1 = H at hP hS ⊢
      obtain ⟨hwr, hwt⟩ := hw21
      rw [hwt] at hP hD
      rw [hwr]
      refine lv_i2d hx hb d_M_bounce_39 ?_
      exact W.dret (v := FP.i2d 0) hx hb hr (fun t9 ht hW => ⟨⟨FP.i2d 0, (pI t 0 0 2), rfl, (by (try simp [gI_pI, gI_pD, gD_pI, gD_pD] at c4); (try simp [gI_pI, gI_pD, gD_pI, gD_pD] at c5); first | (simp [mBnc, gI_pI, gI_pD, gD_pI, gD_pD, mBncT, mBncV, gI_send, gD_send, c4, c5]; done) | (simp [mBnc, gI_pI, gI_pD, gD_pI, gD_pD, mBncT, mBncV, gI_send, gD_send, c4, c5, hj, hcx, hca]; done) | (simp [mBnc, gI_pI, gI_pD, gD_pI, gD_pD, mBncT, mBncV, gI_send, gD_send, c4, c5, hj, hcx, hca]; intro q9; exact absurd q9 (Int32.not_lt.mpr c5))), BM_at ht hW hP hK hD⟩, hS.F ht⟩) hS.2.2 d_M_bounce_40
  · have _u : True := trivial
    refine lv_aload_n hx hb d_M_bounce_8 rfl (lv_at hl 0 rfl) ?_
    refine lv_iconst (v := 1) hx hb d_M_bounce_9 (by decide) ?_
    have hA1 := hS.1
    refine va_calli (va_runV (As := [.int (1)]) (rest := []) ⟨hx, hb, hml, hown, hts⟩ (c_M_refuse l D ad ka H.size t 1) (cwV 1 hts (gv mw_699 mw_701 (big_sel (i := 4) (by decide +kernel) (by decide +kernel)) mw_6 mw_702) rfl rfl rfl (by decide +kernel) ⟨Nat.le_of_ble_eq_true rfl, Nat.le_of_ble_eq_true rfl⟩) ⟨PM_blind, va_recv hK hP (ci := 0) (q0 := 0) rfl (at_M), fun U hU hW => ⟨rfl, PM_at hU hW hP hK hD⟩⟩ rfl rfl hl.1 rfl (lv_room (Nat.le_of_ble_eq_true rfl)) d_M_bounce_10 ⟨Nat.le_of_ble_eq_true rfl, Nat.le_of_ble_eq_true rfl⟩) hS (fun q _ h => AM_up hA1 q h) (AM_up hA1) (fun r23 t25 tq H1 locs ht hvm hw24 hB hz1 hk1 hS => ?_)
    obtain ⟨hP, hD⟩ := BM_back ht hB (AM_up hA1)
    generalize H1 = H at hP hS ⊢
    obtain ⟨hwr, hwt⟩ := hw24
    rw [hwt] at hP hD
    rw [hwr]
    refine lv_i2d hx hb d_M_bounce_13 ?_
    exact W.dret (v := FP.i2d 0) hx hb hr (fun t9 ht hW => ⟨⟨FP.i2d 0, (pI t 0 0 1), rfl, (by (try simp [gI_pI, gI_pD, gD_pI, gD_pD] at c4); first | (simp [mBnc, gI_pI, gI_pD, gD_pI, gD_pD, mBncT, mBncV, gI_send, gD_send, c4]; done) | (simp [mBnc, gI_pI, gI_pD, gD_pI, gD_pD, mBncT, mBncV, gI_send, gD_send, c4, hj, hcx, hca]; done) | (simp [mBnc, gI_pI, gI_pD, gD_pI, gD_pD, mBncT, mBncV, gI_send, gD_send, c4, hj, hcx, hca]; intro q9; exact absurd q9 (Int32.not_lt.mpr c4))), BM_at ht hW hP hK hD⟩, hS.F ht⟩) hS.2.2 d_M_bounce_14
