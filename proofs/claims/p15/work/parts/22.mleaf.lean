/-- a contract's start and end over the class's world -/
def PM (D : va_G) (ad : Nat → Nat) (ka : Nat → ClassId) (sz : Nat) (t : Mem) (U : State) : Prop := U.heap.size = sz ∧ va_P D clm (mw ad ka t) U.heap ∧ va_K D clm (mT ka) U ∧ va_D (fun _ => True) (mw ad ka t)
def BM (D : va_G) (ad : Nat → Nat) (ka : Nat → ClassId) (sz : Nat) (t : Mem) (U : State) : Prop := va_P D clm (mw ad ka t) U.heap ∧ va_K D clm (mT ka) U ∧ va_D (AM ad sz) (mw ad ka t)
theorem PM_blind {D : va_G} {ad : Nat → Nat} {ka : Nat → ClassId} {sz : Nat} {t : Mem} {av : List Value} : FrameBlind (va_Pc av (PM D ad ka sz t)) := fun a U g mk q => by
  obtain ⟨q0, q1, qP, qK, qD⟩ := q
  exact ⟨q0, q1, qP, va_K.moved (u := U) (U := U.calling g mk a) (Vm.Alike.refl U.vm) qK, qD⟩
theorem PM_at {D : va_G} {ad : Nat → Nat} {ka : Nat → ClassId} {t : Mem} {A : Nat → Prop} {s U : State} {H : Heap} (hU : U.heap = H) (hW : s.WarmedH U.vm) (hP : va_P D clm (mw ad ka t) H) (hK : va_K D clm (mT ka) s) (hD : va_D A (mw ad ka t)) : PM D ad ka H.size t U := ⟨by rw [hU], by rw [hU]; exact hP, va_K.moved hW.alike hK, hD.weaken (fun _ _ _ _ => trivial)⟩
theorem BM_at {D : va_G} {ad : Nat → Nat} {ka : Nat → ClassId} {t : Mem} {sz : Nat} {s U : State} {H : Heap} (hU : U.heap = H) (hW : s.WarmedH U.vm) (hP : va_P D clm (mw ad ka t) H) (hK : va_K D clm (mT ka) s) (hD : va_D (AM ad sz) (mw ad ka t)) : BM D ad ka sz t U := ⟨by rw [hU]; exact hP, va_K.moved hW.alike hK, hD⟩
theorem BM_back {D : va_G} {ad : Nat → Nat} {ka : Nat → ClassId} {t : Mem} {sz sz0 : Nat} {U : State} {H : Heap} (ht : U.heap = H) (h : BM D ad ka sz t U) (hA : ∀ q, AM ad sz q → AM ad sz0 q) : va_P D clm (mw ad ka t) H ∧ va_D (AM ad sz0) (mw ad ka t) := ⟨ht ▸ h.1, h.2.2.weaken (fun _ q _ z => hA q.1 z)⟩

theorem s_of {x a : Int32} {u b : Nat} (h1 : x = nI u) (h2 : a = nI b) : 12 * x + a = nI (12 * u + b) := by
  rw [h1, h2, show (12 : Int32) = nI 12 from rfl, pk_mul, nI_add]
theorem isW4 : ¬ isW 0 0 4 = 0 ∧ ¬ isW 1 0 4 = 0 ∧ ¬ isW 2 0 4 = 0 ∧ ¬ isW 3 0 4 = 0 := by decide
def mLeave (t : Mem) (x a : Int32) : Int32 × Mem := if plz x a = 0 then (0, pI t 0 0 1) else if gI t 1001 (jj x a) = -1 then (0, pI t 0 0 2) else (gI t 1001 (jj x a), pI (pI t 0 0 0) 1001 (jj x a) (-1))
def mWay (t : Mem) (x a w : Int32) : Int32 × Mem := if plz x a = 0 then (0, pI t 0 0 1) else if isW w 0 2 = 0 then (0, pI t 0 0 1) else if gI t 1001 (jj x a) = -1 then (0, pI t 0 0 2) else (gI t 1002 (jj x a), pI (pI t 0 0 0) 1002 (jj x a) w)
def mMod (t : Mem) (x a v : Int32) : Int32 × Mem := if plz x a = 0 then (0, pI t 0 0 1) else if gI t 1001 (jj x a) = -1 then (0, pI t 0 0 2) else if gI t 1001 (jj x a) = 0 then (0, pI t 0 0 3) else (gI t 1007 (jj x a), pI (pI t 0 0 0) 1007 (jj x a) v)
def mBan (t : Mem) (x a v : Int32) : Int32 × Mem := if plz x a = 0 then (0, pI t 0 0 1) else (gI t 1008 (jj x a), if v = 0 then pI (pI t 0 0 0) 1008 (jj x a) v else pI (pI (pI t 0 0 0) 1008 (jj x a) v) 1001 (jj x a) (-1))
def mScore (t : Mem) (x a : Int32) : UInt64 × Mem := if plz x a = 0 then (FP.i2d 0, pI t 0 0 1) else if gI t 1001 (jj x a) = -1 then (FP.i2d 0, pI t 0 0 2) else (gD t 1009 (jj x a), pI t 0 0 0)
def mRenew (t : Mem) (x a : Int32) : Int32 × Mem := if plz x a = 0 then (0, pI t 0 0 1) else if gI t 1001 (jj x a) = -1 then (0, pI t 0 0 2) else if gI t 1001 (jj x a) = 2 then (gI t 1005 (jj x a), pD (pI (pI (pI t 0 0 0) 1001 (jj x a) 1) 1003 (jj x a) (gI t 1 0)) 1009 (jj x a) FP.dconst0) else (0, pI t 0 0 3)
def mToldV (t : Mem) (j : Nat) (w : Int32) : Int32 := if w = 0 then gI t 1001 j else if w = 1 then gI t 1002 j else if w = 2 then (if gI t 1007 j = 0 then 0 else 1) else if w = 3 then (if gI t 1001 j = 2 then gI t 1005 j else 0) else gI t 1003 j
def mTold (t : Mem) (x a w : Int32) : Int32 × Mem := if plz x a = 0 then (0, pI t 0 0 1) else if isW w 0 4 = 0 then (0, pI t 0 0 1) else if gI t 1001 (jj x a) = -1 then (0, pI t 0 0 2) else (mToldV t (jj x a) w, pI t 0 0 0)
set_option maxHeartbeats 4000000 in
set_option maxRecDepth 100000 in
theorem c_M_thrown (l : Launch) (D : va_G) (ad : Nat → Nat) (ka : Nat → ClassId) (sz : Nat) (t : Mem)  : Met l y_M_thrown (Cond.code y_M_thrown b_M_thrown 1 (some .int) :: big) ({ frames := 0, cells := 0, slots := 0, locals := 0 }) (va_Pc [.ref (ad (0))] (PM D ad ka sz t)) (va_Qi (fun (r : Int32) (t' : Mem) => r = gI t 0 0 ∧ t' = t) (BM D ad ka sz) (AM ad sz)) 0 0 (AM ad sz) := by
  refine Met.ofW (cc := b_M_thrown) (maxL := 1) (ret := (some .int)) (by decide) rfl ?_
  intro p e s m args below meth c s₁ B hml hv
  obtain ⟨rfl, hsz, hP, hK, hD0⟩ := hv
  have hx := B.exec
  have hb := B.bytes
  have hr := B.returns
  have hlocks := B.notSynchronized
  have hts := atoms_spec (ws := Cond.code y_M_thrown b_M_thrown 1 (some .int) :: big) B.pre
  have hown : s.vm.findClass "ListForgeModel" = some m.cls := findClass_of_methodNamed B.named
  subst hsz
  have hD : va_D (AM ad s.heap.size) (mw ad ka t) := AM_D hD0
  have hS : va_S (AM ad s.heap.size) s.heap s.heap [] := va_S.rf
  have hl := lv_entry ([.ref (ad (0))]) (n := 1) (Nat.le_of_ble_eq_true rfl)
  rw [lg_entry_eq]
  generalize (lg_sl ([.ref (ad (0))]) ++ List.replicate (1 - (lg_sl ([.ref (ad (0))])).length) Slot.unset).toArray = ls at hl ⊢
  have hl : lv_has ls 1 [(0, .ref (ad (0)))] := hl

  refine lv_aload_n hx hb d_M_thrown_0 rfl (lv_at hl 0 rfl) ?_
  refine g_M_thrown hx hb hts hown hK hP mw_590 d_M_thrown_1 ?_
  exact W.iret (v := gI t 0 0) hx hb hr (fun t9 ht hW => ⟨⟨gI t 0 0, t, rfl, ⟨rfl, rfl⟩, BM_at ht hW hP hK hD⟩, hS.F ht⟩) hS.2.2 d_M_thrown_4
set_option maxHeartbeats 4000000 in
set_option maxRecDepth 100000 in
theorem c_M_in (l : Launch) (D : va_G) (ad : Nat → Nat) (ka : Nat → ClassId) (sz : Nat) (t : Mem) (n0 lo hi : Int32) : Met l y_M_in (Cond.code y_M_in b_M_in 3 (some .boolean) :: big) ({ frames := 0, cells := 0, slots := 0, locals := 0 }) (va_Pc [.int (n0), .int (lo), .int (hi)] (PM D ad ka sz t)) (va_Qi (fun (r : Int32) (t' : Mem) => r = isW n0 lo hi ∧ t' = t) (BM D ad ka sz) (AM ad sz)) 0 0 (AM ad sz) := by
  refine Met.ofW (cc := b_M_in) (maxL := 3) (ret := (some .boolean)) (by decide) rfl ?_
  intro p e s m args below meth c s₁ B hml hv
  obtain ⟨rfl, hsz, hP, hK, hD0⟩ := hv
  have hx := B.exec
  have hb := B.bytes
  have hr := B.returns
  have hlocks := B.notSynchronized
  have hts := atoms_spec (ws := Cond.code y_M_in b_M_in 3 (some .boolean) :: big) B.pre
  have hown : s.vm.findClass "ListForgeModel" = some m.cls := findClass_of_methodNamed B.named
  subst hsz
  have hD : va_D (AM ad s.heap.size) (mw ad ka t) := AM_D hD0
  have hS : va_S (AM ad s.heap.size) s.heap s.heap [] := va_S.rf
  have hl := lv_entry ([.int (n0), .int (lo), .int (hi)]) (n := 3) (Nat.le_of_ble_eq_true rfl)
  rw [lg_entry_eq]
  generalize (lg_sl ([.int (n0), .int (lo), .int (hi)]) ++ List.replicate (3 - (lg_sl ([.int (n0), .int (lo), .int (hi)])).length) Slot.unset).toArray = ls at hl ⊢
  have hl : lv_has ls 3 [(0, .int (n0)), (1, .int (lo)), (2, .int (hi))] := hl

  refine lv_iload_n hx hb d_M_in_0 rfl (lv_at hl 0 rfl) ?_
  refine lv_iload_n hx hb d_M_in_1 rfl (lv_at hl 1 rfl) ?_
  refine lv_icmp_lt (tgt := 14) hx hb d_M_in_2 (by decide) (fun c1 => ?_) (fun c1 => ?_)
  · have _u : True := trivial
    refine lv_iconst (v := 0) hx hb d_M_in_14 (by decide) ?_
    exact W.zret (v := 0) hx hb hr rfl (fun t9 ht hW => ⟨⟨0, t, rfl, ⟨by simp [isW, c1], rfl⟩, BM_at ht hW hP hK hD⟩, hS.F ht⟩) hS.2.2 d_M_in_15
  · have _u : True := trivial
    refine lv_iload_n hx hb d_M_in_5 rfl (lv_at hl 0 rfl) ?_
    refine lv_iload_n hx hb d_M_in_6 rfl (lv_at hl 2 rfl) ?_
    refine lv_icmp_gt (tgt := 14) hx hb d_M_in_7 (by decide) (fun c2 => ?_) (fun c2 => ?_)
    · have _u : True := trivial
      refine lv_iconst (v := 0) hx hb d_M_in_14 (by decide) ?_
      exact W.zret (v := 0) hx hb hr rfl (fun t9 ht hW => ⟨⟨0, t, rfl, ⟨by simp [isW, c1, c2], rfl⟩, BM_at ht hW hP hK hD⟩, hS.F ht⟩) hS.2.2 d_M_in_15
    · have _u : True := trivial
      refine lv_iconst (v := 1) hx hb d_M_in_10 (by decide) ?_
      refine lv_goto (tgt := 15) hx hb d_M_in_11 (by decide) ?_
      exact W.zret (v := 1) hx hb hr rfl (fun t9 ht hW => ⟨⟨1, t, rfl, ⟨by simp [isW, c1, c2], rfl⟩, BM_at ht hW hP hK hD⟩, hS.F ht⟩) hS.2.2 d_M_in_15
set_option maxHeartbeats 4000000 in
set_option maxRecDepth 100000 in
theorem c_M_isPlace (l : Launch) (D : va_G) (ad : Nat → Nat) (ka : Nat → ClassId) (sz : Nat) (t : Mem) (x a : Int32) : Met l y_M_isPlace (Cond.code y_M_isPlace b_M_isPlace 2 (some .boolean) :: big) ({ frames := 1, cells := 0, slots := 0, locals := 22 }) (va_Pc [.int (x), .int (a)] (PM D ad ka sz t)) (va_Qi (fun (r : Int32) (t' : Mem) => r = plz x a ∧ t' = t) (BM D ad ka sz) (AM ad sz)) 0 0 (AM ad sz) := by
  refine Met.ofW (cc := b_M_isPlace) (maxL := 2) (ret := (some .boolean)) (by decide) rfl ?_
  intro p e s m args below meth c s₁ B hml hv
  obtain ⟨rfl, hsz, hP, hK, hD0⟩ := hv
  have hx := B.exec
  have hb := B.bytes
  have hr := B.returns
  have hlocks := B.notSynchronized
  have hts := atoms_spec (ws := Cond.code y_M_isPlace b_M_isPlace 2 (some .boolean) :: big) B.pre
  have hown : s.vm.findClass "ListForgeModel" = some m.cls := findClass_of_methodNamed B.named
  subst hsz
  have hD : va_D (AM ad s.heap.size) (mw ad ka t) := AM_D hD0
  have hS : va_S (AM ad s.heap.size) s.heap s.heap [] := va_S.rf
  have hl := lv_entry ([.int (x), .int (a)]) (n := 2) (Nat.le_of_ble_eq_true rfl)
  rw [lg_entry_eq]
  generalize (lg_sl ([.int (x), .int (a)]) ++ List.replicate (2 - (lg_sl ([.int (x), .int (a)])).length) Slot.unset).toArray = ls at hl ⊢
  have hl : lv_has ls 2 [(0, .int (x)), (1, .int (a))] := hl

  refine lv_iload_n hx hb d_M_isPlace_0 rfl (lv_at hl 0 rfl) ?_
  refine lv_iconst (v := 0) hx hb d_M_isPlace_1 (by decide) ?_
  refine lv_iconst (v := 2) hx hb d_M_isPlace_2 (by decide) ?_
  have hA1 := hS.1
  refine va_calli (va_runS (As := [.int (x), .int (0), .int (2)]) (rest := []) ⟨hx, hb, hml, hown, hts⟩ (c_M_in l D ad ka s.heap.size t x 0 2) (cwS 3 hts (gs mw_696 mw_697 mw_6 mw_698) rfl rfl rfl (by decide +kernel) ⟨Nat.le_of_ble_eq_true rfl, Nat.le_of_ble_eq_true rfl⟩) ⟨PM_blind, fun U hU hW => ⟨rfl, PM_at hU hW hP hK hD⟩⟩ rfl rfl hl.1 rfl (lv_room (Nat.le_of_ble_eq_true rfl)) d_M_isPlace_3 ⟨Nat.le_of_ble_eq_true rfl, Nat.le_of_ble_eq_true rfl⟩) hS (fun q _ h => AM_up hA1 q h) (AM_up hA1) (fun r1 t3 tq H1 locs ht hvm hw2 hB hz1 hk1 hS => ?_)
  obtain ⟨hP, hD⟩ := BM_back ht hB (AM_up hA1)
  generalize H1 = H at hP hS ⊢
  obtain ⟨hwr, hwt⟩ := hw2
  rw [hwt] at hP hD
  rw [hwr]
  refine lv_if_eq (tgt := 23) hx hb d_M_isPlace_6 (by decide) (fun c4 => ?_) (fun c4 => ?_)
  · have _u : True := trivial
    refine lv_iconst (v := 0) hx hb d_M_isPlace_23 (by decide) ?_
    exact W.zret (v := 0) hx hb hr rfl (fun t9 ht hW => ⟨⟨0, t, rfl, ⟨by simp [plz, c4], rfl⟩, BM_at ht hW hP hK hD⟩, hS.F ht⟩) hS.2.2 d_M_isPlace_24
  · have _u : True := trivial
    refine lv_iload_n hx hb d_M_isPlace_9 rfl (lv_at hl 1 rfl) ?_
    refine lv_iconst (v := 0) hx hb d_M_isPlace_10 (by decide) ?_
    refine lv_bipush (v := 11) hx hb d_M_isPlace_11 (by decide) ?_
    have hA1 := hS.1
    refine va_calli (va_runS (As := [.int (a), .int (0), .int (11)]) (rest := []) ⟨hx, hb, hml, hown, hts⟩ (c_M_in l D ad ka H.size t a 0 11) (cwS 3 hts (gs mw_696 mw_697 mw_6 mw_698) rfl rfl rfl (by decide +kernel) ⟨Nat.le_of_ble_eq_true rfl, Nat.le_of_ble_eq_true rfl⟩) ⟨PM_blind, fun U hU hW => ⟨rfl, PM_at hU hW hP hK hD⟩⟩ rfl rfl hl.1 rfl (lv_room (Nat.le_of_ble_eq_true rfl)) d_M_isPlace_13 ⟨Nat.le_of_ble_eq_true rfl, Nat.le_of_ble_eq_true rfl⟩) hS (fun q _ h => AM_up hA1 q h) (AM_up hA1) (fun r5 t7 tq H1 locs ht hvm hw6 hB hz1 hk1 hS => ?_)
    obtain ⟨hP, hD⟩ := BM_back ht hB (AM_up hA1)
    generalize H1 = H at hP hS ⊢
    obtain ⟨hwr, hwt⟩ := hw6
    rw [hwt] at hP hD
    rw [hwr]
    refine lv_if_eq (tgt := 23) hx hb d_M_isPlace_16 (by decide) (fun c8 => ?_) (fun c8 => ?_)
    · have _u : True := trivial
      refine lv_iconst (v := 0) hx hb d_M_isPlace_23 (by decide) ?_
      exact W.zret (v := 0) hx hb hr rfl (fun t9 ht hW => ⟨⟨0, t, rfl, ⟨by simp [plz, c4, c8], rfl⟩, BM_at ht hW hP hK hD⟩, hS.F ht⟩) hS.2.2 d_M_isPlace_24
    · have _u : True := trivial
      refine lv_iconst (v := 1) hx hb d_M_isPlace_19 (by decide) ?_
      refine lv_goto (tgt := 24) hx hb d_M_isPlace_20 (by decide) ?_
      exact W.zret (v := 1) hx hb hr rfl (fun t9 ht hW => ⟨⟨1, t, rfl, ⟨by simp [plz, c4, c8], rfl⟩, BM_at ht hW hP hK hD⟩, hS.F ht⟩) hS.2.2 d_M_isPlace_24
set_option maxHeartbeats 4000000 in
set_option maxRecDepth 100000 in
theorem c_M_refuse (l : Launch) (D : va_G) (ad : Nat → Nat) (ka : Nat → ClassId) (sz : Nat) (t : Mem) (h0 : Int32) : Met l y_M_refuse (Cond.code y_M_refuse b_M_refuse 2 (some .int) :: big) ({ frames := 0, cells := 0, slots := 0, locals := 0 }) (va_Pc [.ref (ad (0)), .int (h0)] (PM D ad ka sz t)) (va_Qi (fun (r : Int32) (t' : Mem) => r = 0 ∧ t' = pI t 0 0 h0) (BM D ad ka sz) (AM ad sz)) 0 0 (AM ad sz) := by
  refine Met.ofW (cc := b_M_refuse) (maxL := 2) (ret := (some .int)) (by decide) rfl ?_
  intro p e s m args below meth c s₁ B hml hv
  obtain ⟨rfl, hsz, hP, hK, hD0⟩ := hv
  have hx := B.exec
  have hb := B.bytes
  have hr := B.returns
  have hlocks := B.notSynchronized
  have hts := atoms_spec (ws := Cond.code y_M_refuse b_M_refuse 2 (some .int) :: big) B.pre
  have hown : s.vm.findClass "ListForgeModel" = some m.cls := findClass_of_methodNamed B.named
  subst hsz
  have hD : va_D (AM ad s.heap.size) (mw ad ka t) := AM_D hD0
  have hS : va_S (AM ad s.heap.size) s.heap s.heap [] := va_S.rf
  have hl := lv_entry ([.ref (ad (0)), .int (h0)]) (n := 2) (Nat.le_of_ble_eq_true rfl)
  rw [lg_entry_eq]
  generalize (lg_sl ([.ref (ad (0)), .int (h0)]) ++ List.replicate (2 - (lg_sl ([.ref (ad (0)), .int (h0)])).length) Slot.unset).toArray = ls at hl ⊢
  have hl : lv_has ls 2 [(0, .ref (ad (0))), (1, .int (h0))] := hl

  refine lv_aload_n hx hb d_M_refuse_0 rfl (lv_at hl 0 rfl) ?_
  refine lv_iload_n hx hb d_M_refuse_1 rfl (lv_at hl 1 rfl) ?_
  refine p_M_thrown hx hb hts hown hK hP hD hS mw_590 d_M_refuse_2 (fun H locs hP hD hS => ?_)
  refine lv_iconst (v := 0) hx hb d_M_refuse_5 (by decide) ?_
  exact W.iret (v := 0) hx hb hr (fun t9 ht hW => ⟨⟨0, (pI t 0 0 h0), rfl, ⟨rfl, rfl⟩, BM_at ht hW hP hK hD⟩, hS.F ht⟩) hS.2.2 d_M_refuse_6
set_option maxHeartbeats 4000000 in
set_option maxRecDepth 100000 in
theorem c_M_leave (l : Launch) (D : va_G) (ad : Nat → Nat) (ka : Nat → ClassId) (sz : Nat) (t : Mem) (x a : Int32) : Met l y_M_leave (Cond.code y_M_leave b_M_leave 5 (some .int) :: big) ({ frames := 2, cells := 0, slots := 0, locals := 43 }) (va_Pc [.ref (ad (0)), .int (x), .int (a)] (PM D ad ka sz t)) (va_Qi (fun (r : Int32) (t' : Mem) => mLeave t x a = (r, t')) (BM D ad ka sz) (AM ad sz)) 0 0 (AM ad sz) := by
  refine Met.ofW (cc := b_M_leave) (maxL := 5) (ret := (some .int)) (by decide) rfl ?_
  intro p e s m args below meth c s₁ B hml hv
  obtain ⟨rfl, hsz, hP, hK, hD0⟩ := hv
  have hx := B.exec
  have hb := B.bytes
  have hr := B.returns
  have hlocks := B.notSynchronized
  have hts := atoms_spec (ws := Cond.code y_M_leave b_M_leave 5 (some .int) :: big) B.pre
  have hown : s.vm.findClass "ListForgeModel" = some m.cls := findClass_of_methodNamed B.named
  subst hsz
  have hD : va_D (AM ad s.heap.size) (mw ad ka t) := AM_D hD0
  have hS : va_S (AM ad s.heap.size) s.heap s.heap [] := va_S.rf
  have hl := lv_entry ([.ref (ad (0)), .int (x), .int (a)]) (n := 5) (Nat.le_of_ble_eq_true rfl)
  rw [lg_entry_eq]
  generalize (lg_sl ([.ref (ad (0)), .int (x), .int (a)]) ++ List.replicate (5 - (lg_sl ([.ref (ad (0)), .int (x), .int (a)])).length) Slot.unset).toArray = ls at hl ⊢
  have hl : lv_has ls 5 [(0, .ref (ad (0))), (1, .int (x)), (2, .int (a))] := hl

  refine lv_iload_n hx hb d_M_leave_0 rfl (lv_at hl 1 rfl) ?_
  refine lv_iload_n hx hb d_M_leave_1 rfl (lv_at hl 2 rfl) ?_
  have hA1 := hS.1
  refine va_calli (va_runS (As := [.int (x), .int (a)]) (rest := []) ⟨hx, hb, hml, hown, hts⟩ (c_M_isPlace l D ad ka s.heap.size t x a) (cwS 2 hts (gs mw_693 mw_694 mw_6 mw_695) rfl rfl rfl (by decide +kernel) ⟨Nat.le_of_ble_eq_true rfl, Nat.le_of_ble_eq_true rfl⟩) ⟨PM_blind, fun U hU hW => ⟨rfl, PM_at hU hW hP hK hD⟩⟩ rfl rfl hl.1 rfl (lv_room (Nat.le_of_ble_eq_true rfl)) d_M_leave_2 ⟨Nat.le_of_ble_eq_true rfl, Nat.le_of_ble_eq_true rfl⟩) hS (fun q _ h => AM_up hA1 q h) (AM_up hA1) (fun r1 t3 tq H1 locs ht hvm hw2 hB hz1 hk1 hS => ?_)
  obtain ⟨hP, hD⟩ := BM_back ht hB (AM_up hA1)
  generalize H1 = H at hP hS ⊢
  obtain ⟨hwr, hwt⟩ := hw2
  rw [hwt] at hP hD
  rw [hwr]
  refine lv_if_ne (tgt := 14) hx hb d_M_leave_5 (by decide) (fun c4 => ?_) (fun c4 => ?_)
  · have _u : True := trivial
    obtain ⟨u, hu, hxu, a0, ha0, hau⟩ := PL_of (x := x) (a := a) c4
    have hcx : cl x = u := cl_of hxu (by omega)
    have hca : cl a = a0 := cl_of hau (by omega)
    have hj : jj x a = 12 * u + a0 := by rw [jj, hcx, hca]
    have hs9 := s_of hxu hau
    refine lv_bipush (v := 12) hx hb d_M_leave_14 (by decide) ?_
    refine lv_iload_n hx hb d_M_leave_16 rfl (lv_at hl 1 rfl) ?_
    refine lv_imul hx hb d_M_leave_17 ?_
    refine lv_iload_n hx hb d_M_leave_18 rfl (lv_at hl 2 rfl) ?_
    refine lv_iadd hx hb d_M_leave_19 ?_
    refine lv_istore_n (lv' := [(3, .int ((12 * x) + a)), (0, .ref (ad (0))), (1, .int (x)), (2, .int (a))]) hx hb d_M_leave_20 rfl hl (by decide) rfl (fun ls hl => ?_)
    refine lv_aload_n hx hb d_M_leave_21 rfl (lv_at hl 1 rfl) ?_
    refine g_M_state hx hb hts hown hK hP mw_595 d_M_leave_22 ?_
    refine lv_iload_n hx hb d_M_leave_25 rfl (lv_at hl 0 rfl) ?_
    refine g_m_state hx hb hK hP (r := (12 * u + a0)) (by omega) hs9 d_M_leave_26 ?_
    refine lv_istore (lv' := [(4, .int (gI t 1001 (12 * u + a0))), (3, .int ((12 * x) + a)), (0, .ref (ad (0))), (1, .int (x)), (2, .int (a))]) hx hb d_M_leave_27 hl (by decide) rfl (fun ls hl => ?_)
    refine lv_iload hx hb d_M_leave_29 (lv_at hl 0 rfl) ?_
    refine lv_iconst (v := -1) hx hb d_M_leave_31 (by decide) ?_
    refine lv_icmp_ne (tgt := 41) hx hb d_M_leave_32 (by decide) (fun c5 => ?_) (fun c5 => ?_)
    · have _u : True := trivial
      refine lv_aload_n hx hb d_M_leave_41 rfl (lv_at hl 2 rfl) ?_
      refine lv_iconst (v := 0) hx hb d_M_leave_42 (by decide) ?_
      refine p_M_thrown hx hb hts hown hK hP hD hS mw_590 d_M_leave_43 (fun H locs hP hD hS => ?_)
      refine lv_aload_n hx hb d_M_leave_46 rfl (lv_at hl 2 rfl) ?_
      refine g_M_state hx hb hts hown hK hP mw_595 d_M_leave_47 ?_
      refine lv_iload_n hx hb d_M_leave_50 rfl (lv_at hl 1 rfl) ?_
      refine lv_iconst (v := -1) hx hb d_M_leave_51 (by decide) ?_
      refine p_m_state hx hb hK hP hD hS (r := (12 * u + a0)) (by omega) hs9 d_M_leave_52 (fun H locs hP hD hS => ?_)
      refine lv_iload hx hb d_M_leave_53 (lv_at hl 0 rfl) ?_
      exact W.iret (v := gI t 1001 (12 * u + a0)) hx hb hr (fun t9 ht hW => ⟨⟨gI t 1001 (12 * u + a0), (pI (pI t 0 0 0) 1001 (12 * u + a0) (-1)), rfl, (by first | (simp [mLeave, gI_pI, gI_pD, gD_pI, gD_pD, c4, c5]; done) | (simp [mLeave, gI_pI, gI_pD, gD_pI, gD_pD, c4, c5, hj, hcx, hca]; done)), BM_at ht hW hP hK hD⟩, hS.F ht⟩) hS.2.2 d_M_leave_55
    · have _u : True := trivial
      refine lv_aload_n hx hb d_M_leave_35 rfl (lv_at hl 2 rfl) ?_
      refine lv_iconst (v := 2) hx hb d_M_leave_36 (by decide) ?_
      have hA1 := hS.1
      refine va_calli (va_runV (As := [.int (2)]) (rest := []) ⟨hx, hb, hml, hown, hts⟩ (c_M_refuse l D ad ka H.size t 2) (cwV 1 hts (gv mw_699 mw_701 (big_sel (i := 4) (by decide +kernel) (by decide +kernel)) mw_6 mw_702) rfl rfl rfl (by decide +kernel) ⟨Nat.le_of_ble_eq_true rfl, Nat.le_of_ble_eq_true rfl⟩) ⟨PM_blind, va_recv hK hP (ci := 0) (q0 := 0) rfl (at_M), fun U hU hW => ⟨rfl, PM_at hU hW hP hK hD⟩⟩ rfl rfl hl.1 rfl (lv_room (Nat.le_of_ble_eq_true rfl)) d_M_leave_37 ⟨Nat.le_of_ble_eq_true rfl, Nat.le_of_ble_eq_true rfl⟩) hS (fun q _ h => AM_up hA1 q h) (AM_up hA1) (fun r6 t8 tq H1 locs ht hvm hw7 hB hz1 hk1 hS => ?_)
      obtain ⟨hP, hD⟩ := BM_back ht hB (AM_up hA1)
      generalize H1 = H at hP hS ⊢
      obtain ⟨hwr, hwt⟩ := hw7
      rw [hwt] at hP hD
      rw [hwr]
      exact W.iret (v := 0) hx hb hr (fun t9 ht hW => ⟨⟨0, (pI t 0 0 2), rfl, (by first | (simp [mLeave, gI_pI, gI_pD, gD_pI, gD_pD, c4, c5]; done) | (simp [mLeave, gI_pI, gI_pD, gD_pI, gD_pD, c4, c5, hj, hcx, hca]; done)), BM_at ht hW hP hK hD⟩, hS.F ht⟩) hS.2.2 d_M_leave_40
  · have _u : True := trivial
    refine lv_aload_n hx hb d_M_leave_8 rfl (lv_at hl 0 rfl) ?_
    refine lv_iconst (v := 1) hx hb d_M_leave_9 (by decide) ?_
    have hA1 := hS.1
    refine va_calli (va_runV (As := [.int (1)]) (rest := []) ⟨hx, hb, hml, hown, hts⟩ (c_M_refuse l D ad ka H.size t 1) (cwV 1 hts (gv mw_699 mw_701 (big_sel (i := 4) (by decide +kernel) (by decide +kernel)) mw_6 mw_702) rfl rfl rfl (by decide +kernel) ⟨Nat.le_of_ble_eq_true rfl, Nat.le_of_ble_eq_true rfl⟩) ⟨PM_blind, va_recv hK hP (ci := 0) (q0 := 0) rfl (at_M), fun U hU hW => ⟨rfl, PM_at hU hW hP hK hD⟩⟩ rfl rfl hl.1 rfl (lv_room (Nat.le_of_ble_eq_true rfl)) d_M_leave_10 ⟨Nat.le_of_ble_eq_true rfl, Nat.le_of_ble_eq_true rfl⟩) hS (fun q _ h => AM_up hA1 q h) (AM_up hA1) (fun r9 t11 tq H1 locs ht hvm hw10 hB hz1 hk1 hS => ?_)
    obtain ⟨hP, hD⟩ := BM_back ht hB (AM_up hA1)
    generalize H1 = H at hP hS ⊢
    obtain ⟨hwr, hwt⟩ := hw10
    rw [hwt] at hP hD
    rw [hwr]
    exact W.iret (v := 0) hx hb hr (fun t9 ht hW => ⟨⟨0, (pI t 0 0 1), rfl, (by first | (simp [mLeave, gI_pI, gI_pD, gD_pI, gD_pD, c4]; done) | (simp [mLeave, gI_pI, gI_pD, gD_pI, gD_pD, c4, hj, hcx, hca]; done)), BM_at ht hW hP hK hD⟩, hS.F ht⟩) hS.2.2 d_M_leave_13
set_option maxHeartbeats 4000000 in
set_option maxRecDepth 100000 in
theorem c_M_way (l : Launch) (D : va_G) (ad : Nat → Nat) (ka : Nat → ClassId) (sz : Nat) (t : Mem) (x a w : Int32) : Met l y_M_way (Cond.code y_M_way b_M_way 6 (some .int) :: big) ({ frames := 2, cells := 0, slots := 0, locals := 43 }) (va_Pc [.ref (ad (0)), .int (x), .int (a), .int (w)] (PM D ad ka sz t)) (va_Qi (fun (r : Int32) (t' : Mem) => mWay t x a w = (r, t')) (BM D ad ka sz) (AM ad sz)) 0 0 (AM ad sz) := by
  refine Met.ofW (cc := b_M_way) (maxL := 6) (ret := (some .int)) (by decide) rfl ?_
  intro p e s m args below meth c s₁ B hml hv
  obtain ⟨rfl, hsz, hP, hK, hD0⟩ := hv
  have hx := B.exec
  have hb := B.bytes
  have hr := B.returns
  have hlocks := B.notSynchronized
  have hts := atoms_spec (ws := Cond.code y_M_way b_M_way 6 (some .int) :: big) B.pre
  have hown : s.vm.findClass "ListForgeModel" = some m.cls := findClass_of_methodNamed B.named
  subst hsz
  have hD : va_D (AM ad s.heap.size) (mw ad ka t) := AM_D hD0
  have hS : va_S (AM ad s.heap.size) s.heap s.heap [] := va_S.rf
  have hl := lv_entry ([.ref (ad (0)), .int (x), .int (a), .int (w)]) (n := 6) (Nat.le_of_ble_eq_true rfl)
  rw [lg_entry_eq]
  generalize (lg_sl ([.ref (ad (0)), .int (x), .int (a), .int (w)]) ++ List.replicate (6 - (lg_sl ([.ref (ad (0)), .int (x), .int (a), .int (w)])).length) Slot.unset).toArray = ls at hl ⊢
  have hl : lv_has ls 6 [(0, .ref (ad (0))), (1, .int (x)), (2, .int (a)), (3, .int (w))] := hl

  refine lv_iload_n hx hb d_M_way_0 rfl (lv_at hl 1 rfl) ?_
  refine lv_iload_n hx hb d_M_way_1 rfl (lv_at hl 2 rfl) ?_
  have hA1 := hS.1
  refine va_calli (va_runS (As := [.int (x), .int (a)]) (rest := []) ⟨hx, hb, hml, hown, hts⟩ (c_M_isPlace l D ad ka s.heap.size t x a) (cwS 2 hts (gs mw_693 mw_694 mw_6 mw_695) rfl rfl rfl (by decide +kernel) ⟨Nat.le_of_ble_eq_true rfl, Nat.le_of_ble_eq_true rfl⟩) ⟨PM_blind, fun U hU hW => ⟨rfl, PM_at hU hW hP hK hD⟩⟩ rfl rfl hl.1 rfl (lv_room (Nat.le_of_ble_eq_true rfl)) d_M_way_2 ⟨Nat.le_of_ble_eq_true rfl, Nat.le_of_ble_eq_true rfl⟩) hS (fun q _ h => AM_up hA1 q h) (AM_up hA1) (fun r1 t3 tq H1 locs ht hvm hw2 hB hz1 hk1 hS => ?_)
  obtain ⟨hP, hD⟩ := BM_back ht hB (AM_up hA1)
  generalize H1 = H at hP hS ⊢
  obtain ⟨hwr, hwt⟩ := hw2
  rw [hwt] at hP hD
  rw [hwr]
  refine lv_if_eq (tgt := 17) hx hb d_M_way_5 (by decide) (fun c4 => ?_) (fun c4 => ?_)
  · have _u : True := trivial
    refine lv_aload_n hx hb d_M_way_17 rfl (lv_at hl 0 rfl) ?_
    refine lv_iconst (v := 1) hx hb d_M_way_18 (by decide) ?_
    have hA1 := hS.1
    refine va_calli (va_runV (As := [.int (1)]) (rest := []) ⟨hx, hb, hml, hown, hts⟩ (c_M_refuse l D ad ka H.size t 1) (cwV 1 hts (gv mw_699 mw_701 (big_sel (i := 4) (by decide +kernel) (by decide +kernel)) mw_6 mw_702) rfl rfl rfl (by decide +kernel) ⟨Nat.le_of_ble_eq_true rfl, Nat.le_of_ble_eq_true rfl⟩) ⟨PM_blind, va_recv hK hP (ci := 0) (q0 := 0) rfl (at_M), fun U hU hW => ⟨rfl, PM_at hU hW hP hK hD⟩⟩ rfl rfl hl.1 rfl (lv_room (Nat.le_of_ble_eq_true rfl)) d_M_way_19 ⟨Nat.le_of_ble_eq_true rfl, Nat.le_of_ble_eq_true rfl⟩) hS (fun q _ h => AM_up hA1 q h) (AM_up hA1) (fun r5 t7 tq H1 locs ht hvm hw6 hB hz1 hk1 hS => ?_)
    obtain ⟨hP, hD⟩ := BM_back ht hB (AM_up hA1)
    generalize H1 = H at hP hS ⊢
    obtain ⟨hwr, hwt⟩ := hw6
    rw [hwt] at hP hD
    rw [hwr]
    exact W.iret (v := 0) hx hb hr (fun t9 ht hW => ⟨⟨0, (pI t 0 0 1), rfl, (by first | (simp [mWay, gI_pI, gI_pD, gD_pI, gD_pD, c4]; done) | (simp [mWay, gI_pI, gI_pD, gD_pI, gD_pD, c4, hj, hcx, hca]; done)), BM_at ht hW hP hK hD⟩, hS.F ht⟩) hS.2.2 d_M_way_22
  · have _u : True := trivial
    obtain ⟨u, hu, hxu, a0, ha0, hau⟩ := PL_of (x := x) (a := a) c4
    have hcx : cl x = u := cl_of hxu (by omega)
    have hca : cl a = a0 := cl_of hau (by omega)
    have hj : jj x a = 12 * u + a0 := by rw [jj, hcx, hca]
    have hs9 := s_of hxu hau
    refine lv_iload_n hx hb d_M_way_8 rfl (lv_at hl 3 rfl) ?_
    refine lv_iconst (v := 0) hx hb d_M_way_9 (by decide) ?_
    refine lv_iconst (v := 2) hx hb d_M_way_10 (by decide) ?_
    have hA1 := hS.1
    refine va_calli (va_runS (As := [.int (w), .int (0), .int (2)]) (rest := []) ⟨hx, hb, hml, hown, hts⟩ (c_M_in l D ad ka H.size t w 0 2) (cwS 3 hts (gs mw_696 mw_697 mw_6 mw_698) rfl rfl rfl (by decide +kernel) ⟨Nat.le_of_ble_eq_true rfl, Nat.le_of_ble_eq_true rfl⟩) ⟨PM_blind, fun U hU hW => ⟨rfl, PM_at hU hW hP hK hD⟩⟩ rfl rfl hl.1 rfl (lv_room (Nat.le_of_ble_eq_true rfl)) d_M_way_11 ⟨Nat.le_of_ble_eq_true rfl, Nat.le_of_ble_eq_true rfl⟩) hS (fun q _ h => AM_up hA1 q h) (AM_up hA1) (fun r8 t10 tq H1 locs ht hvm hw9 hB hz1 hk1 hS => ?_)
    obtain ⟨hP, hD⟩ := BM_back ht hB (AM_up hA1)
    generalize H1 = H at hP hS ⊢
    obtain ⟨hwr, hwt⟩ := hw9
    rw [hwt] at hP hD
    rw [hwr]
    refine lv_if_ne (tgt := 23) hx hb d_M_way_14 (by decide) (fun c11 => ?_) (fun c11 => ?_)
    · have _u : True := trivial
      refine lv_bipush (v := 12) hx hb d_M_way_23 (by decide) ?_
      refine lv_iload_n hx hb d_M_way_25 rfl (lv_at hl 1 rfl) ?_
      refine lv_imul hx hb d_M_way_26 ?_
      refine lv_iload_n hx hb d_M_way_27 rfl (lv_at hl 2 rfl) ?_
      refine lv_iadd hx hb d_M_way_28 ?_
      refine lv_istore (lv' := [(4, .int ((12 * x) + a)), (0, .ref (ad (0))), (1, .int (x)), (2, .int (a)), (3, .int (w))]) hx hb d_M_way_29 hl (by decide) rfl (fun ls hl => ?_)
      refine lv_aload_n hx hb d_M_way_31 rfl (lv_at hl 1 rfl) ?_
      refine g_M_way hx hb hts hown hK hP mw_596 d_M_way_32 ?_
      refine lv_iload hx hb d_M_way_35 (lv_at hl 0 rfl) ?_
      refine g_m_way hx hb hK hP (r := (12 * u + a0)) (by omega) hs9 d_M_way_37 ?_
      refine lv_istore (lv' := [(5, .int (gI t 1002 (12 * u + a0))), (4, .int ((12 * x) + a)), (0, .ref (ad (0))), (1, .int (x)), (2, .int (a)), (3, .int (w))]) hx hb d_M_way_38 hl (by decide) rfl (fun ls hl => ?_)
      refine lv_aload_n hx hb d_M_way_40 rfl (lv_at hl 2 rfl) ?_
      refine g_M_state hx hb hts hown hK hP mw_595 d_M_way_41 ?_
      refine lv_iload hx hb d_M_way_44 (lv_at hl 1 rfl) ?_
      refine g_m_state hx hb hK hP (r := (12 * u + a0)) (by omega) hs9 d_M_way_46 ?_
      refine lv_iconst (v := -1) hx hb d_M_way_47 (by decide) ?_
      refine lv_icmp_ne (tgt := 57) hx hb d_M_way_48 (by decide) (fun c12 => ?_) (fun c12 => ?_)
      · have _u : True := trivial
        refine lv_aload_n hx hb d_M_way_57 rfl (lv_at hl 2 rfl) ?_
        refine lv_iconst (v := 0) hx hb d_M_way_58 (by decide) ?_
        refine p_M_thrown hx hb hts hown hK hP hD hS mw_590 d_M_way_59 (fun H locs hP hD hS => ?_)
        refine lv_aload_n hx hb d_M_way_62 rfl (lv_at hl 2 rfl) ?_
        refine g_M_way hx hb hts hown hK hP mw_596 d_M_way_63 ?_
        refine lv_iload hx hb d_M_way_66 (lv_at hl 1 rfl) ?_
        refine lv_iload_n hx hb d_M_way_68 rfl (lv_at hl 5 rfl) ?_
        refine p_m_way hx hb hK hP hD hS (r := (12 * u + a0)) (by omega) hs9 d_M_way_69 (fun H locs hP hD hS => ?_)
        refine lv_iload hx hb d_M_way_70 (lv_at hl 0 rfl) ?_
        exact W.iret (v := gI t 1002 (12 * u + a0)) hx hb hr (fun t9 ht hW => ⟨⟨gI t 1002 (12 * u + a0), (pI (pI t 0 0 0) 1002 (12 * u + a0) w), rfl, (by first | (simp [mWay, gI_pI, gI_pD, gD_pI, gD_pD, c4, c11, c12]; done) | (simp [mWay, gI_pI, gI_pD, gD_pI, gD_pD, c4, c11, c12, hj, hcx, hca]; done)), BM_at ht hW hP hK hD⟩, hS.F ht⟩) hS.2.2 d_M_way_72
      · have _u : True := trivial
        refine lv_aload_n hx hb d_M_way_51 rfl (lv_at hl 2 rfl) ?_
        refine lv_iconst (v := 2) hx hb d_M_way_52 (by decide) ?_
        have hA1 := hS.1
        refine va_calli (va_runV (As := [.int (2)]) (rest := []) ⟨hx, hb, hml, hown, hts⟩ (c_M_refuse l D ad ka H.size t 2) (cwV 1 hts (gv mw_699 mw_701 (big_sel (i := 4) (by decide +kernel) (by decide +kernel)) mw_6 mw_702) rfl rfl rfl (by decide +kernel) ⟨Nat.le_of_ble_eq_true rfl, Nat.le_of_ble_eq_true rfl⟩) ⟨PM_blind, va_recv hK hP (ci := 0) (q0 := 0) rfl (at_M), fun U hU hW => ⟨rfl, PM_at hU hW hP hK hD⟩⟩ rfl rfl hl.1 rfl (lv_room (Nat.le_of_ble_eq_true rfl)) d_M_way_53 ⟨Nat.le_of_ble_eq_true rfl, Nat.le_of_ble_eq_true rfl⟩) hS (fun q _ h => AM_up hA1 q h) (AM_up hA1) (fun r13 t15 tq H1 locs ht hvm hw14 hB hz1 hk1 hS => ?_)
        obtain ⟨hP, hD⟩ := BM_back ht hB (AM_up hA1)
        generalize H1 = H at hP hS ⊢
        obtain ⟨hwr, hwt⟩ := hw14
        rw [hwt] at hP hD
        rw [hwr]
        exact W.iret (v := 0) hx hb hr (fun t9 ht hW => ⟨⟨0, (pI t 0 0 2), rfl, (by first | (simp [mWay, gI_pI, gI_pD, gD_pI, gD_pD, c4, c11, c12]; done) | (simp [mWay, gI_pI, gI_pD, gD_pI, gD_pD, c4, c11, c12, hj, hcx, hca]; done)), BM_at ht hW hP hK hD⟩, hS.F ht⟩) hS.2.2 d_M_way_56
    · have _u : True := trivial
      refine lv_aload_n hx hb d_M_way_17 rfl (lv_at hl 0 rfl) ?_
      refine lv_iconst (v := 1) hx hb d_M_way_18 (by decide) ?_
      have hA1 := hS.1
      refine va_calli (va_runV (As := [.int (1)]) (rest := []) ⟨hx, hb, hml, hown, hts⟩ (c_M_refuse l D ad ka H.size t 1) (cwV 1 hts (gv mw_699 mw_701 (big_sel (i := 4) (by decide +kernel) (by decide +kernel)) mw_6 mw_702) rfl rfl rfl (by decide +kernel) ⟨Nat.le_of_ble_eq_true rfl, Nat.le_of_ble_eq_true rfl⟩) ⟨PM_blind, va_recv hK hP (ci := 0) (q0 := 0) rfl (at_M), fun U hU hW => ⟨rfl, PM_at hU hW hP hK hD⟩⟩ rfl rfl hl.1 rfl (lv_room (Nat.le_of_ble_eq_true rfl)) d_M_way_19 ⟨Nat.le_of_ble_eq_true rfl, Nat.le_of_ble_eq_true rfl⟩) hS (fun q _ h => AM_up hA1 q h) (AM_up hA1) (fun r16 t18 tq H1 locs ht hvm hw17 hB hz1 hk1 hS => ?_)
      obtain ⟨hP, hD⟩ := BM_back ht hB (AM_up hA1)
      generalize H1 = H at hP hS ⊢
      obtain ⟨hwr, hwt⟩ := hw17
      rw [hwt] at hP hD
      rw [hwr]
      exact W.iret (v := 0) hx hb hr (fun t9 ht hW => ⟨⟨0, (pI t 0 0 1), rfl, (by first | (simp [mWay, gI_pI, gI_pD, gD_pI, gD_pD, c4, c11]; done) | (simp [mWay, gI_pI, gI_pD, gD_pI, gD_pD, c4, c11, hj, hcx, hca]; done)), BM_at ht hW hP hK hD⟩, hS.F ht⟩) hS.2.2 d_M_way_22
set_option maxHeartbeats 4000000 in
set_option maxRecDepth 100000 in
theorem c_M_moderator (l : Launch) (D : va_G) (ad : Nat → Nat) (ka : Nat → ClassId) (sz : Nat) (t : Mem) (hm : ∀ j, b01 (gI t 1007 j)) (x a v : Int32) (hz : b01 v) : Met l y_M_moderator (Cond.code y_M_moderator b_M_moderator 6 (some .boolean) :: big) ({ frames := 2, cells := 0, slots := 0, locals := 43 }) (va_Pc [.ref (ad (0)), .int (x), .int (a), .int (v)] (PM D ad ka sz t)) (va_Qi (fun (r : Int32) (t' : Mem) => mMod t x a v = (r, t')) (BM D ad ka sz) (AM ad sz)) 0 0 (AM ad sz) := by
  refine Met.ofW (cc := b_M_moderator) (maxL := 6) (ret := (some .boolean)) (by decide) rfl ?_
  intro p e s m args below meth c s₁ B hml hv
  obtain ⟨rfl, hsz, hP, hK, hD0⟩ := hv
  have hx := B.exec
  have hb := B.bytes
  have hr := B.returns
  have hlocks := B.notSynchronized
  have hts := atoms_spec (ws := Cond.code y_M_moderator b_M_moderator 6 (some .boolean) :: big) B.pre
  have hown : s.vm.findClass "ListForgeModel" = some m.cls := findClass_of_methodNamed B.named
  subst hsz
  have hD : va_D (AM ad s.heap.size) (mw ad ka t) := AM_D hD0
  have hS : va_S (AM ad s.heap.size) s.heap s.heap [] := va_S.rf
  have hl := lv_entry ([.ref (ad (0)), .int (x), .int (a), .int (v)]) (n := 6) (Nat.le_of_ble_eq_true rfl)
  rw [lg_entry_eq]
  generalize (lg_sl ([.ref (ad (0)), .int (x), .int (a), .int (v)]) ++ List.replicate (6 - (lg_sl ([.ref (ad (0)), .int (x), .int (a), .int (v)])).length) Slot.unset).toArray = ls at hl ⊢
  have hl : lv_has ls 6 [(0, .ref (ad (0))), (1, .int (x)), (2, .int (a)), (3, .int (v))] := hl

  refine lv_aload_n hx hb d_M_moderator_0 rfl (lv_at hl 0 rfl) ?_
  refine lv_iload_n hx hb d_M_moderator_1 rfl (lv_at hl 1 rfl) ?_
  refine lv_iload_n hx hb d_M_moderator_2 rfl (lv_at hl 2 rfl) ?_
  have hA1 := hS.1
  refine va_calli (va_runS (As := [.int (x), .int (a)]) (rest := [.ref (ad (0))]) ⟨hx, hb, hml, hown, hts⟩ (c_M_isPlace l D ad ka s.heap.size t x a) (cwS 2 hts (gs mw_693 mw_694 mw_6 mw_695) rfl rfl rfl (by decide +kernel) ⟨Nat.le_of_ble_eq_true rfl, Nat.le_of_ble_eq_true rfl⟩) ⟨PM_blind, fun U hU hW => ⟨rfl, PM_at hU hW hP hK hD⟩⟩ rfl rfl hl.1 rfl (lv_room (Nat.le_of_ble_eq_true rfl)) d_M_moderator_3 ⟨Nat.le_of_ble_eq_true rfl, Nat.le_of_ble_eq_true rfl⟩) hS (fun q _ h => AM_up hA1 q h) (AM_up hA1) (fun r1 t3 tq H1 locs ht hvm hw2 hB hz1 hk1 hS => ?_)
  obtain ⟨hP, hD⟩ := BM_back ht hB (AM_up hA1)
  generalize H1 = H at hP hS ⊢
  obtain ⟨hwr, hwt⟩ := hw2
  rw [hwt] at hP hD
  rw [hwr]
  refine lv_if_ne (tgt := 13) hx hb d_M_moderator_6 (by decide) (fun c4 => ?_) (fun c4 => ?_)
  · have _u : True := trivial
    obtain ⟨u, hu, hxu, a0, ha0, hau⟩ := PL_of (x := x) (a := a) c4
    have hcx : cl x = u := cl_of hxu (by omega)
    have hca : cl a = a0 := cl_of hau (by omega)
    have hj : jj x a = 12 * u + a0 := by rw [jj, hcx, hca]
    have hs9 := s_of hxu hau
    refine lv_aload_n hx hb d_M_moderator_13 rfl (lv_at hl 0 rfl) ?_
    refine g_M_state hx hb hts hown hK hP mw_595 d_M_moderator_14 ?_
    refine lv_bipush (v := 12) hx hb d_M_moderator_17 (by decide) ?_
    refine lv_iload_n hx hb d_M_moderator_19 rfl (lv_at hl 1 rfl) ?_
    refine lv_imul hx hb d_M_moderator_20 ?_
    refine lv_iload_n hx hb d_M_moderator_21 rfl (lv_at hl 2 rfl) ?_
    refine lv_iadd hx hb d_M_moderator_22 ?_
    refine g_m_state hx hb hK hP (r := (12 * u + a0)) (by omega) hs9 d_M_moderator_23 ?_
    refine lv_iconst (v := -1) hx hb d_M_moderator_24 (by decide) ?_
    refine lv_icmp_ne (tgt := 32) hx hb d_M_moderator_25 (by decide) (fun c5 => ?_) (fun c5 => ?_)
    · have _u : True := trivial
      refine lv_aload_n hx hb d_M_moderator_32 rfl (lv_at hl 0 rfl) ?_
      refine g_M_state hx hb hts hown hK hP mw_595 d_M_moderator_33 ?_
      refine lv_bipush (v := 12) hx hb d_M_moderator_36 (by decide) ?_
      refine lv_iload_n hx hb d_M_moderator_38 rfl (lv_at hl 1 rfl) ?_
      refine lv_imul hx hb d_M_moderator_39 ?_
      refine lv_iload_n hx hb d_M_moderator_40 rfl (lv_at hl 2 rfl) ?_
      refine lv_iadd hx hb d_M_moderator_41 ?_
      refine g_m_state hx hb hK hP (r := (12 * u + a0)) (by omega) hs9 d_M_moderator_42 ?_
      refine lv_if_ne (tgt := 50) hx hb d_M_moderator_43 (by decide) (fun c6 => ?_) (fun c6 => ?_)
      · have _u : True := trivial
        refine lv_iconst (v := 0) hx hb d_M_moderator_50 (by decide) ?_
        refine p_M_thrown hx hb hts hown hK hP hD hS mw_590 d_M_moderator_51 (fun H locs hP hD hS => ?_)
        refine lv_aload_n hx hb d_M_moderator_54 rfl (lv_at hl 0 rfl) ?_
        refine g_M_thrown hx hb hts hown hK hP mw_590 d_M_moderator_55 ?_
        rw [show gI (pI t 0 0 0) 0 0 = 0 from by simp [gI_pI]]
        refine lv_if_le (tgt := 63) hx hb d_M_moderator_58 (by decide) (fun _ => ?_) (fun h => absurd h (by decide))
        refine lv_bipush (v := 12) hx hb d_M_moderator_63 (by decide) ?_
        refine lv_iload_n hx hb d_M_moderator_65 rfl (lv_at hl 1 rfl) ?_
        refine lv_imul hx hb d_M_moderator_66 ?_
        refine lv_iload_n hx hb d_M_moderator_67 rfl (lv_at hl 2 rfl) ?_
        refine lv_iadd hx hb d_M_moderator_68 ?_
        refine lv_istore (lv' := [(4, .int ((12 * x) + a)), (0, .ref (ad (0))), (1, .int (x)), (2, .int (a)), (3, .int (v))]) hx hb d_M_moderator_69 hl (by decide) rfl (fun ls hl => ?_)
        refine lv_aload_n hx hb d_M_moderator_71 rfl (lv_at hl 1 rfl) ?_
        refine g_M_moderates hx hb hts hown hK hP mw_601 d_M_moderator_72 ?_
        refine lv_iload hx hb d_M_moderator_75 (lv_at hl 0 rfl) ?_
        refine g_m_moderates hx hb hK hP (r := (12 * u + a0)) (by omega) hs9 d_M_moderator_77 ?_
        refine lv_istore (lv' := [(5, .int (gI (pI t 0 0 0) 1007 (12 * u + a0))), (4, .int ((12 * x) + a)), (0, .ref (ad (0))), (1, .int (x)), (2, .int (a)), (3, .int (v))]) hx hb d_M_moderator_78 hl (by decide) rfl (fun ls hl => ?_)
        refine lv_aload_n hx hb d_M_moderator_80 rfl (lv_at hl 2 rfl) ?_
        refine g_M_moderates hx hb hts hown hK hP mw_601 d_M_moderator_81 ?_
        refine lv_iload hx hb d_M_moderator_84 (lv_at hl 1 rfl) ?_
        refine lv_iload_n hx hb d_M_moderator_86 rfl (lv_at hl 5 rfl) ?_
        refine p_m_moderates hx hb hK hP hD hS (r := (12 * u + a0)) (by omega) hs9 (hz) d_M_moderator_87 (fun H locs hP hD hS => ?_)
        refine lv_iload hx hb d_M_moderator_88 (lv_at hl 0 rfl) ?_
        exact W.zret (v := gI (pI t 0 0 0) 1007 (12 * u + a0)) hx hb hr (b01_nar (by simpa [gI_pI] using hm _)) (fun t9 ht hW => ⟨⟨gI (pI t 0 0 0) 1007 (12 * u + a0), (pI (pI t 0 0 0) 1007 (12 * u + a0) v), rfl, (by first | (simp [mMod, gI_pI, gI_pD, gD_pI, gD_pD, c4, c5, c6]; done) | (simp [mMod, gI_pI, gI_pD, gD_pI, gD_pD, c4, c5, c6, hj, hcx, hca]; done)), BM_at ht hW hP hK hD⟩, hS.F ht⟩) hS.2.2 d_M_moderator_90
      · have _u : True := trivial
        refine lv_iconst (v := 3) hx hb d_M_moderator_46 (by decide) ?_
        refine lv_goto (tgt := 51) hx hb d_M_moderator_47 (by decide) ?_
        refine p_M_thrown hx hb hts hown hK hP hD hS mw_590 d_M_moderator_51 (fun H locs hP hD hS => ?_)
        refine lv_aload_n hx hb d_M_moderator_54 rfl (lv_at hl 0 rfl) ?_
        refine g_M_thrown hx hb hts hown hK hP mw_590 d_M_moderator_55 ?_
        rw [show gI (pI t 0 0 3) 0 0 = 3 from by simp [gI_pI]]
        refine lv_if_le (tgt := 63) hx hb d_M_moderator_58 (by decide) (fun h => absurd h (by decide)) (fun _ => ?_)
        refine lv_iconst (v := 0) hx hb d_M_moderator_61 (by decide) ?_
        exact W.zret (v := 0) hx hb hr rfl (fun t9 ht hW => ⟨⟨0, (pI t 0 0 3), rfl, (by first | (simp [mMod, gI_pI, gI_pD, gD_pI, gD_pD, c4, c5, c6]; done) | (simp [mMod, gI_pI, gI_pD, gD_pI, gD_pD, c4, c5, c6, hj, hcx, hca]; done)), BM_at ht hW hP hK hD⟩, hS.F ht⟩) hS.2.2 d_M_moderator_62
    · have _u : True := trivial
      refine lv_iconst (v := 2) hx hb d_M_moderator_28 (by decide) ?_
      refine lv_goto (tgt := 51) hx hb d_M_moderator_29 (by decide) ?_
      refine p_M_thrown hx hb hts hown hK hP hD hS mw_590 d_M_moderator_51 (fun H locs hP hD hS => ?_)
      refine lv_aload_n hx hb d_M_moderator_54 rfl (lv_at hl 0 rfl) ?_
      refine g_M_thrown hx hb hts hown hK hP mw_590 d_M_moderator_55 ?_
      rw [show gI (pI t 0 0 2) 0 0 = 2 from by simp [gI_pI]]
      refine lv_if_le (tgt := 63) hx hb d_M_moderator_58 (by decide) (fun h => absurd h (by decide)) (fun _ => ?_)
      refine lv_iconst (v := 0) hx hb d_M_moderator_61 (by decide) ?_
      exact W.zret (v := 0) hx hb hr rfl (fun t9 ht hW => ⟨⟨0, (pI t 0 0 2), rfl, (by first | (simp [mMod, gI_pI, gI_pD, gD_pI, gD_pD, c4, c5]; done) | (simp [mMod, gI_pI, gI_pD, gD_pI, gD_pD, c4, c5, hj, hcx, hca]; done)), BM_at ht hW hP hK hD⟩, hS.F ht⟩) hS.2.2 d_M_moderator_62
  · have _u : True := trivial
    refine lv_iconst (v := 1) hx hb d_M_moderator_9 (by decide) ?_
    refine lv_goto (tgt := 51) hx hb d_M_moderator_10 (by decide) ?_
    refine p_M_thrown hx hb hts hown hK hP hD hS mw_590 d_M_moderator_51 (fun H locs hP hD hS => ?_)
    refine lv_aload_n hx hb d_M_moderator_54 rfl (lv_at hl 0 rfl) ?_
    refine g_M_thrown hx hb hts hown hK hP mw_590 d_M_moderator_55 ?_
    rw [show gI (pI t 0 0 1) 0 0 = 1 from by simp [gI_pI]]
    refine lv_if_le (tgt := 63) hx hb d_M_moderator_58 (by decide) (fun h => absurd h (by decide)) (fun _ => ?_)
    refine lv_iconst (v := 0) hx hb d_M_moderator_61 (by decide) ?_
    exact W.zret (v := 0) hx hb hr rfl (fun t9 ht hW => ⟨⟨0, (pI t 0 0 1), rfl, (by first | (simp [mMod, gI_pI, gI_pD, gD_pI, gD_pD, c4]; done) | (simp [mMod, gI_pI, gI_pD, gD_pI, gD_pD, c4, hj, hcx, hca]; done)), BM_at ht hW hP hK hD⟩, hS.F ht⟩) hS.2.2 d_M_moderator_62
set_option maxHeartbeats 4000000 in
set_option maxRecDepth 100000 in
theorem c_M_ban (l : Launch) (D : va_G) (ad : Nat → Nat) (ka : Nat → ClassId) (sz : Nat) (t : Mem) (hm : ∀ j, b01 (gI t 1008 j)) (x a v : Int32) (hz : b01 v) : Met l y_M_ban (Cond.code y_M_ban b_M_ban 6 (some .boolean) :: big) ({ frames := 2, cells := 0, slots := 0, locals := 43 }) (va_Pc [.ref (ad (0)), .int (x), .int (a), .int (v)] (PM D ad ka sz t)) (va_Qi (fun (r : Int32) (t' : Mem) => mBan t x a v = (r, t')) (BM D ad ka sz) (AM ad sz)) 0 0 (AM ad sz) := by
  refine Met.ofW (cc := b_M_ban) (maxL := 6) (ret := (some .boolean)) (by decide) rfl ?_
  intro p e s m args below meth c s₁ B hml hv
  obtain ⟨rfl, hsz, hP, hK, hD0⟩ := hv
  have hx := B.exec
  have hb := B.bytes
  have hr := B.returns
  have hlocks := B.notSynchronized
  have hts := atoms_spec (ws := Cond.code y_M_ban b_M_ban 6 (some .boolean) :: big) B.pre
  have hown : s.vm.findClass "ListForgeModel" = some m.cls := findClass_of_methodNamed B.named
  subst hsz
  have hD : va_D (AM ad s.heap.size) (mw ad ka t) := AM_D hD0
  have hS : va_S (AM ad s.heap.size) s.heap s.heap [] := va_S.rf
  have hl := lv_entry ([.ref (ad (0)), .int (x), .int (a), .int (v)]) (n := 6) (Nat.le_of_ble_eq_true rfl)
  rw [lg_entry_eq]
  generalize (lg_sl ([.ref (ad (0)), .int (x), .int (a), .int (v)]) ++ List.replicate (6 - (lg_sl ([.ref (ad (0)), .int (x), .int (a), .int (v)])).length) Slot.unset).toArray = ls at hl ⊢
  have hl : lv_has ls 6 [(0, .ref (ad (0))), (1, .int (x)), (2, .int (a)), (3, .int (v))] := hl

  refine lv_aload_n hx hb d_M_ban_0 rfl (lv_at hl 0 rfl) ?_
  refine lv_iload_n hx hb d_M_ban_1 rfl (lv_at hl 1 rfl) ?_
  refine lv_iload_n hx hb d_M_ban_2 rfl (lv_at hl 2 rfl) ?_
  have hA1 := hS.1
  refine va_calli (va_runS (As := [.int (x), .int (a)]) (rest := [.ref (ad (0))]) ⟨hx, hb, hml, hown, hts⟩ (c_M_isPlace l D ad ka s.heap.size t x a) (cwS 2 hts (gs mw_693 mw_694 mw_6 mw_695) rfl rfl rfl (by decide +kernel) ⟨Nat.le_of_ble_eq_true rfl, Nat.le_of_ble_eq_true rfl⟩) ⟨PM_blind, fun U hU hW => ⟨rfl, PM_at hU hW hP hK hD⟩⟩ rfl rfl hl.1 rfl (lv_room (Nat.le_of_ble_eq_true rfl)) d_M_ban_3 ⟨Nat.le_of_ble_eq_true rfl, Nat.le_of_ble_eq_true rfl⟩) hS (fun q _ h => AM_up hA1 q h) (AM_up hA1) (fun r1 t3 tq H1 locs ht hvm hw2 hB hz1 hk1 hS => ?_)
  obtain ⟨hP, hD⟩ := BM_back ht hB (AM_up hA1)
  generalize H1 = H at hP hS ⊢
  obtain ⟨hwr, hwt⟩ := hw2
  rw [hwt] at hP hD
  rw [hwr]
  refine lv_if_eq (tgt := 13) hx hb d_M_ban_6 (by decide) (fun c4 => ?_) (fun c4 => ?_)
  · have _u : True := trivial
    refine lv_iconst (v := 1) hx hb d_M_ban_13 (by decide) ?_
    refine p_M_thrown hx hb hts hown hK hP hD hS mw_590 d_M_ban_14 (fun H locs hP hD hS => ?_)
    refine lv_aload_n hx hb d_M_ban_17 rfl (lv_at hl 0 rfl) ?_
    refine g_M_thrown hx hb hts hown hK hP mw_590 d_M_ban_18 ?_
    rw [show gI (pI t 0 0 1) 0 0 = 1 from by simp [gI_pI]]
    refine lv_if_le (tgt := 26) hx hb d_M_ban_21 (by decide) (fun h => absurd h (by decide)) (fun _ => ?_)
    refine lv_iconst (v := 0) hx hb d_M_ban_24 (by decide) ?_
    exact W.zret (v := 0) hx hb hr rfl (fun t9 ht hW => ⟨⟨0, (pI t 0 0 1), rfl, (by first | (simp [mBan, gI_pI, gI_pD, gD_pI, gD_pD, c4]; done) | (simp [mBan, gI_pI, gI_pD, gD_pI, gD_pD, c4, hj, hcx, hca]; done)), BM_at ht hW hP hK hD⟩, hS.F ht⟩) hS.2.2 d_M_ban_25
  · have _u : True := trivial
    obtain ⟨u, hu, hxu, a0, ha0, hau⟩ := PL_of (x := x) (a := a) c4
    have hcx : cl x = u := cl_of hxu (by omega)
    have hca : cl a = a0 := cl_of hau (by omega)
    have hj : jj x a = 12 * u + a0 := by rw [jj, hcx, hca]
    have hs9 := s_of hxu hau
    refine lv_iconst (v := 0) hx hb d_M_ban_9 (by decide) ?_
    refine lv_goto (tgt := 14) hx hb d_M_ban_10 (by decide) ?_
    refine p_M_thrown hx hb hts hown hK hP hD hS mw_590 d_M_ban_14 (fun H locs hP hD hS => ?_)
    refine lv_aload_n hx hb d_M_ban_17 rfl (lv_at hl 0 rfl) ?_
    refine g_M_thrown hx hb hts hown hK hP mw_590 d_M_ban_18 ?_
    rw [show gI (pI t 0 0 0) 0 0 = 0 from by simp [gI_pI]]
    refine lv_if_le (tgt := 26) hx hb d_M_ban_21 (by decide) (fun _ => ?_) (fun h => absurd h (by decide))
    refine lv_bipush (v := 12) hx hb d_M_ban_26 (by decide) ?_
    refine lv_iload_n hx hb d_M_ban_28 rfl (lv_at hl 1 rfl) ?_
    refine lv_imul hx hb d_M_ban_29 ?_
    refine lv_iload_n hx hb d_M_ban_30 rfl (lv_at hl 2 rfl) ?_
    refine lv_iadd hx hb d_M_ban_31 ?_
    refine lv_istore (lv' := [(4, .int ((12 * x) + a)), (0, .ref (ad (0))), (1, .int (x)), (2, .int (a)), (3, .int (v))]) hx hb d_M_ban_32 hl (by decide) rfl (fun ls hl => ?_)
    refine lv_aload_n hx hb d_M_ban_34 rfl (lv_at hl 1 rfl) ?_
    refine g_M_banned hx hb hts hown hK hP mw_602 d_M_ban_35 ?_
    refine lv_iload hx hb d_M_ban_38 (lv_at hl 0 rfl) ?_
    refine g_m_banned hx hb hK hP (r := (12 * u + a0)) (by omega) hs9 d_M_ban_40 ?_
    refine lv_istore (lv' := [(5, .int (gI (pI t 0 0 0) 1008 (12 * u + a0))), (4, .int ((12 * x) + a)), (0, .ref (ad (0))), (1, .int (x)), (2, .int (a)), (3, .int (v))]) hx hb d_M_ban_41 hl (by decide) rfl (fun ls hl => ?_)
    refine lv_aload_n hx hb d_M_ban_43 rfl (lv_at hl 2 rfl) ?_
    refine g_M_banned hx hb hts hown hK hP mw_602 d_M_ban_44 ?_
    refine lv_iload hx hb d_M_ban_47 (lv_at hl 1 rfl) ?_
    refine lv_iload_n hx hb d_M_ban_49 rfl (lv_at hl 5 rfl) ?_
    refine p_m_banned hx hb hK hP hD hS (r := (12 * u + a0)) (by omega) hs9 (hz) d_M_ban_50 (fun H locs hP hD hS => ?_)
    refine lv_iload_n hx hb d_M_ban_51 rfl (lv_at hl 5 rfl) ?_
    refine lv_if_eq (tgt := 63) hx hb d_M_ban_52 (by decide) (fun c5 => ?_) (fun c5 => ?_)
    · have _u : True := trivial
      refine lv_iload hx hb d_M_ban_63 (lv_at hl 0 rfl) ?_
      exact W.zret (v := gI (pI t 0 0 0) 1008 (12 * u + a0)) hx hb hr (b01_nar (by simpa [gI_pI] using hm _)) (fun t9 ht hW => ⟨⟨gI (pI t 0 0 0) 1008 (12 * u + a0), (pI (pI t 0 0 0) 1008 (12 * u + a0) v), rfl, (by first | (simp [mBan, gI_pI, gI_pD, gD_pI, gD_pD, c4, c5]; done) | (simp [mBan, gI_pI, gI_pD, gD_pI, gD_pD, c4, c5, hj, hcx, hca]; done)), BM_at ht hW hP hK hD⟩, hS.F ht⟩) hS.2.2 d_M_ban_65
    · have _u : True := trivial
      refine lv_aload_n hx hb d_M_ban_55 rfl (lv_at hl 2 rfl) ?_
      refine g_M_state hx hb hts hown hK hP mw_595 d_M_ban_56 ?_
      refine lv_iload hx hb d_M_ban_59 (lv_at hl 1 rfl) ?_
      refine lv_iconst (v := -1) hx hb d_M_ban_61 (by decide) ?_
      refine p_m_state hx hb hK hP hD hS (r := (12 * u + a0)) (by omega) hs9 d_M_ban_62 (fun H locs hP hD hS => ?_)
      refine lv_iload hx hb d_M_ban_63 (lv_at hl 0 rfl) ?_
      exact W.zret (v := gI (pI t 0 0 0) 1008 (12 * u + a0)) hx hb hr (b01_nar (by simpa [gI_pI] using hm _)) (fun t9 ht hW => ⟨⟨gI (pI t 0 0 0) 1008 (12 * u + a0), (pI (pI (pI t 0 0 0) 1008 (12 * u + a0) v) 1001 (12 * u + a0) (-1)), rfl, (by first | (simp [mBan, gI_pI, gI_pD, gD_pI, gD_pD, c4, c5]; done) | (simp [mBan, gI_pI, gI_pD, gD_pI, gD_pD, c4, c5, hj, hcx, hca]; done)), BM_at ht hW hP hK hD⟩, hS.F ht⟩) hS.2.2 d_M_ban_65
set_option maxHeartbeats 4000000 in
set_option maxRecDepth 100000 in
theorem c_M_score (l : Launch) (D : va_G) (ad : Nat → Nat) (ka : Nat → ClassId) (sz : Nat) (t : Mem) (x a : Int32) : Met l y_M_score (Cond.code y_M_score b_M_score 4 (some .double) :: big) ({ frames := 2, cells := 0, slots := 0, locals := 43 }) (va_Pc [.ref (ad (0)), .int (x), .int (a)] (PM D ad ka sz t)) (va_Qd (fun (r : UInt64) (t' : Mem) => mScore t x a = (r, t')) (BM D ad ka sz) (AM ad sz)) 0 0 (AM ad sz) := by
  refine Met.ofW (cc := b_M_score) (maxL := 4) (ret := (some .double)) (by decide) rfl ?_
  intro p e s m args below meth c s₁ B hml hv
  obtain ⟨rfl, hsz, hP, hK, hD0⟩ := hv
  have hx := B.exec
  have hb := B.bytes
  have hr := B.returns
  have hlocks := B.notSynchronized
  have hts := atoms_spec (ws := Cond.code y_M_score b_M_score 4 (some .double) :: big) B.pre
  have hown : s.vm.findClass "ListForgeModel" = some m.cls := findClass_of_methodNamed B.named
  subst hsz
  have hD : va_D (AM ad s.heap.size) (mw ad ka t) := AM_D hD0
  have hS : va_S (AM ad s.heap.size) s.heap s.heap [] := va_S.rf
  have hl := lv_entry ([.ref (ad (0)), .int (x), .int (a)]) (n := 4) (Nat.le_of_ble_eq_true rfl)
  rw [lg_entry_eq]
  generalize (lg_sl ([.ref (ad (0)), .int (x), .int (a)]) ++ List.replicate (4 - (lg_sl ([.ref (ad (0)), .int (x), .int (a)])).length) Slot.unset).toArray = ls at hl ⊢
  have hl : lv_has ls 4 [(0, .ref (ad (0))), (1, .int (x)), (2, .int (a))] := hl

  refine lv_iload_n hx hb d_M_score_0 rfl (lv_at hl 1 rfl) ?_
  refine lv_iload_n hx hb d_M_score_1 rfl (lv_at hl 2 rfl) ?_
  have hA1 := hS.1
  refine va_calli (va_runS (As := [.int (x), .int (a)]) (rest := []) ⟨hx, hb, hml, hown, hts⟩ (c_M_isPlace l D ad ka s.heap.size t x a) (cwS 2 hts (gs mw_693 mw_694 mw_6 mw_695) rfl rfl rfl (by decide +kernel) ⟨Nat.le_of_ble_eq_true rfl, Nat.le_of_ble_eq_true rfl⟩) ⟨PM_blind, fun U hU hW => ⟨rfl, PM_at hU hW hP hK hD⟩⟩ rfl rfl hl.1 rfl (lv_room (Nat.le_of_ble_eq_true rfl)) d_M_score_2 ⟨Nat.le_of_ble_eq_true rfl, Nat.le_of_ble_eq_true rfl⟩) hS (fun q _ h => AM_up hA1 q h) (AM_up hA1) (fun r1 t3 tq H1 locs ht hvm hw2 hB hz1 hk1 hS => ?_)
  obtain ⟨hP, hD⟩ := BM_back ht hB (AM_up hA1)
  generalize H1 = H at hP hS ⊢
  obtain ⟨hwr, hwt⟩ := hw2
  rw [hwt] at hP hD
  rw [hwr]
  refine lv_if_ne (tgt := 15) hx hb d_M_score_5 (by decide) (fun c4 => ?_) (fun c4 => ?_)
  · have _u : True := trivial
    obtain ⟨u, hu, hxu, a0, ha0, hau⟩ := PL_of (x := x) (a := a) c4
    have hcx : cl x = u := cl_of hxu (by omega)
    have hca : cl a = a0 := cl_of hau (by omega)
    have hj : jj x a = 12 * u + a0 := by rw [jj, hcx, hca]
    have hs9 := s_of hxu hau
    refine lv_bipush (v := 12) hx hb d_M_score_15 (by decide) ?_
    refine lv_iload_n hx hb d_M_score_17 rfl (lv_at hl 1 rfl) ?_
    refine lv_imul hx hb d_M_score_18 ?_
    refine lv_iload_n hx hb d_M_score_19 rfl (lv_at hl 2 rfl) ?_
    refine lv_iadd hx hb d_M_score_20 ?_
    refine lv_istore_n (lv' := [(3, .int ((12 * x) + a)), (0, .ref (ad (0))), (1, .int (x)), (2, .int (a))]) hx hb d_M_score_21 rfl hl (by decide) rfl (fun ls hl => ?_)
    refine lv_aload_n hx hb d_M_score_22 rfl (lv_at hl 1 rfl) ?_
    refine g_M_state hx hb hts hown hK hP mw_595 d_M_score_23 ?_
    refine lv_iload_n hx hb d_M_score_26 rfl (lv_at hl 0 rfl) ?_
    refine g_m_state hx hb hK hP (r := (12 * u + a0)) (by omega) hs9 d_M_score_27 ?_
    refine lv_iconst (v := -1) hx hb d_M_score_28 (by decide) ?_
    refine lv_icmp_ne (tgt := 39) hx hb d_M_score_29 (by decide) (fun c5 => ?_) (fun c5 => ?_)
    · have _u : True := trivial
      refine lv_aload_n hx hb d_M_score_39 rfl (lv_at hl 1 rfl) ?_
      refine lv_iconst (v := 0) hx hb d_M_score_40 (by decide) ?_
      refine p_M_thrown hx hb hts hown hK hP hD hS mw_590 d_M_score_41 (fun H locs hP hD hS => ?_)
      refine lv_aload_n hx hb d_M_score_44 rfl (lv_at hl 1 rfl) ?_
      refine g_M_score hx hb hts hown hK hP mw_603 d_M_score_45 ?_
      refine lv_iload_n hx hb d_M_score_48 rfl (lv_at hl 0 rfl) ?_
      refine g_m_score hx hb hK hP (r := (12 * u + a0)) (by omega) hs9 d_M_score_49 ?_
      exact W.dret (v := gD (pI t 0 0 0) 1009 (12 * u + a0)) hx hb hr (fun t9 ht hW => ⟨⟨gD (pI t 0 0 0) 1009 (12 * u + a0), (pI t 0 0 0), rfl, (by first | (simp [mScore, gI_pI, gI_pD, gD_pI, gD_pD, c4, c5]; done) | (simp [mScore, gI_pI, gI_pD, gD_pI, gD_pD, c4, c5, hj, hcx, hca]; done)), BM_at ht hW hP hK hD⟩, hS.F ht⟩) hS.2.2 d_M_score_50
    · have _u : True := trivial
      refine lv_aload_n hx hb d_M_score_32 rfl (lv_at hl 1 rfl) ?_
      refine lv_iconst (v := 2) hx hb d_M_score_33 (by decide) ?_
      have hA1 := hS.1
      refine va_calli (va_runV (As := [.int (2)]) (rest := []) ⟨hx, hb, hml, hown, hts⟩ (c_M_refuse l D ad ka H.size t 2) (cwV 1 hts (gv mw_699 mw_701 (big_sel (i := 4) (by decide +kernel) (by decide +kernel)) mw_6 mw_702) rfl rfl rfl (by decide +kernel) ⟨Nat.le_of_ble_eq_true rfl, Nat.le_of_ble_eq_true rfl⟩) ⟨PM_blind, va_recv hK hP (ci := 0) (q0 := 0) rfl (at_M), fun U hU hW => ⟨rfl, PM_at hU hW hP hK hD⟩⟩ rfl rfl hl.1 rfl (lv_room (Nat.le_of_ble_eq_true rfl)) d_M_score_34 ⟨Nat.le_of_ble_eq_true rfl, Nat.le_of_ble_eq_true rfl⟩) hS (fun q _ h => AM_up hA1 q h) (AM_up hA1) (fun r6 t8 tq H1 locs ht hvm hw7 hB hz1 hk1 hS => ?_)
      obtain ⟨hP, hD⟩ := BM_back ht hB (AM_up hA1)
      generalize H1 = H at hP hS ⊢
      obtain ⟨hwr, hwt⟩ := hw7
      rw [hwt] at hP hD
      rw [hwr]
      refine lv_i2d hx hb d_M_score_37 ?_
      exact W.dret (v := FP.i2d 0) hx hb hr (fun t9 ht hW => ⟨⟨FP.i2d 0, (pI t 0 0 2), rfl, (by first | (simp [mScore, gI_pI, gI_pD, gD_pI, gD_pD, c4, c5]; done) | (simp [mScore, gI_pI, gI_pD, gD_pI, gD_pD, c4, c5, hj, hcx, hca]; done)), BM_at ht hW hP hK hD⟩, hS.F ht⟩) hS.2.2 d_M_score_38
  · have _u : True := trivial
    refine lv_aload_n hx hb d_M_score_8 rfl (lv_at hl 0 rfl) ?_
    refine lv_iconst (v := 1) hx hb d_M_score_9 (by decide) ?_
    have hA1 := hS.1
    refine va_calli (va_runV (As := [.int (1)]) (rest := []) ⟨hx, hb, hml, hown, hts⟩ (c_M_refuse l D ad ka H.size t 1) (cwV 1 hts (gv mw_699 mw_701 (big_sel (i := 4) (by decide +kernel) (by decide +kernel)) mw_6 mw_702) rfl rfl rfl (by decide +kernel) ⟨Nat.le_of_ble_eq_true rfl, Nat.le_of_ble_eq_true rfl⟩) ⟨PM_blind, va_recv hK hP (ci := 0) (q0 := 0) rfl (at_M), fun U hU hW => ⟨rfl, PM_at hU hW hP hK hD⟩⟩ rfl rfl hl.1 rfl (lv_room (Nat.le_of_ble_eq_true rfl)) d_M_score_10 ⟨Nat.le_of_ble_eq_true rfl, Nat.le_of_ble_eq_true rfl⟩) hS (fun q _ h => AM_up hA1 q h) (AM_up hA1) (fun r9 t11 tq H1 locs ht hvm hw10 hB hz1 hk1 hS => ?_)
    obtain ⟨hP, hD⟩ := BM_back ht hB (AM_up hA1)
    generalize H1 = H at hP hS ⊢
    obtain ⟨hwr, hwt⟩ := hw10
    rw [hwt] at hP hD
    rw [hwr]
    refine lv_i2d hx hb d_M_score_13 ?_
    exact W.dret (v := FP.i2d 0) hx hb hr (fun t9 ht hW => ⟨⟨FP.i2d 0, (pI t 0 0 1), rfl, (by first | (simp [mScore, gI_pI, gI_pD, gD_pI, gD_pD, c4]; done) | (simp [mScore, gI_pI, gI_pD, gD_pI, gD_pD, c4, hj, hcx, hca]; done)), BM_at ht hW hP hK hD⟩, hS.F ht⟩) hS.2.2 d_M_score_14
set_option maxHeartbeats 4000000 in
set_option maxRecDepth 100000 in
theorem c_M_renew (l : Launch) (D : va_G) (ad : Nat → Nat) (ka : Nat → ClassId) (sz : Nat) (t : Mem) (x a : Int32) : Met l y_M_renew (Cond.code y_M_renew b_M_renew 4 (some .int) :: big) ({ frames := 2, cells := 0, slots := 0, locals := 43 }) (va_Pc [.ref (ad (0)), .int (x), .int (a)] (PM D ad ka sz t)) (va_Qi (fun (r : Int32) (t' : Mem) => mRenew t x a = (r, t')) (BM D ad ka sz) (AM ad sz)) 0 0 (AM ad sz) := by
  refine Met.ofW (cc := b_M_renew) (maxL := 4) (ret := (some .int)) (by decide) rfl ?_
  intro p e s m args below meth c s₁ B hml hv
  obtain ⟨rfl, hsz, hP, hK, hD0⟩ := hv
  have hx := B.exec
  have hb := B.bytes
  have hr := B.returns
  have hlocks := B.notSynchronized
  have hts := atoms_spec (ws := Cond.code y_M_renew b_M_renew 4 (some .int) :: big) B.pre
  have hown : s.vm.findClass "ListForgeModel" = some m.cls := findClass_of_methodNamed B.named
  subst hsz
  have hD : va_D (AM ad s.heap.size) (mw ad ka t) := AM_D hD0
  have hS : va_S (AM ad s.heap.size) s.heap s.heap [] := va_S.rf
  have hl := lv_entry ([.ref (ad (0)), .int (x), .int (a)]) (n := 4) (Nat.le_of_ble_eq_true rfl)
  rw [lg_entry_eq]
  generalize (lg_sl ([.ref (ad (0)), .int (x), .int (a)]) ++ List.replicate (4 - (lg_sl ([.ref (ad (0)), .int (x), .int (a)])).length) Slot.unset).toArray = ls at hl ⊢
  have hl : lv_has ls 4 [(0, .ref (ad (0))), (1, .int (x)), (2, .int (a))] := hl

  refine lv_iload_n hx hb d_M_renew_0 rfl (lv_at hl 1 rfl) ?_
  refine lv_iload_n hx hb d_M_renew_1 rfl (lv_at hl 2 rfl) ?_
  have hA1 := hS.1
  refine va_calli (va_runS (As := [.int (x), .int (a)]) (rest := []) ⟨hx, hb, hml, hown, hts⟩ (c_M_isPlace l D ad ka s.heap.size t x a) (cwS 2 hts (gs mw_693 mw_694 mw_6 mw_695) rfl rfl rfl (by decide +kernel) ⟨Nat.le_of_ble_eq_true rfl, Nat.le_of_ble_eq_true rfl⟩) ⟨PM_blind, fun U hU hW => ⟨rfl, PM_at hU hW hP hK hD⟩⟩ rfl rfl hl.1 rfl (lv_room (Nat.le_of_ble_eq_true rfl)) d_M_renew_2 ⟨Nat.le_of_ble_eq_true rfl, Nat.le_of_ble_eq_true rfl⟩) hS (fun q _ h => AM_up hA1 q h) (AM_up hA1) (fun r1 t3 tq H1 locs ht hvm hw2 hB hz1 hk1 hS => ?_)
  obtain ⟨hP, hD⟩ := BM_back ht hB (AM_up hA1)
  generalize H1 = H at hP hS ⊢
  obtain ⟨hwr, hwt⟩ := hw2
  rw [hwt] at hP hD
  rw [hwr]
  refine lv_if_ne (tgt := 14) hx hb d_M_renew_5 (by decide) (fun c4 => ?_) (fun c4 => ?_)
  · have _u : True := trivial
    obtain ⟨u, hu, hxu, a0, ha0, hau⟩ := PL_of (x := x) (a := a) c4
    have hcx : cl x = u := cl_of hxu (by omega)
    have hca : cl a = a0 := cl_of hau (by omega)
    have hj : jj x a = 12 * u + a0 := by rw [jj, hcx, hca]
    have hs9 := s_of hxu hau
    refine lv_bipush (v := 12) hx hb d_M_renew_14 (by decide) ?_
    refine lv_iload_n hx hb d_M_renew_16 rfl (lv_at hl 1 rfl) ?_
    refine lv_imul hx hb d_M_renew_17 ?_
    refine lv_iload_n hx hb d_M_renew_18 rfl (lv_at hl 2 rfl) ?_
    refine lv_iadd hx hb d_M_renew_19 ?_
    refine lv_istore_n (lv' := [(3, .int ((12 * x) + a)), (0, .ref (ad (0))), (1, .int (x)), (2, .int (a))]) hx hb d_M_renew_20 rfl hl (by decide) rfl (fun ls hl => ?_)
    refine lv_aload_n hx hb d_M_renew_21 rfl (lv_at hl 1 rfl) ?_
    refine g_M_state hx hb hts hown hK hP mw_595 d_M_renew_22 ?_
    refine lv_iload_n hx hb d_M_renew_25 rfl (lv_at hl 0 rfl) ?_
    refine g_m_state hx hb hK hP (r := (12 * u + a0)) (by omega) hs9 d_M_renew_26 ?_
    refine lv_iconst (v := -1) hx hb d_M_renew_27 (by decide) ?_
    refine lv_icmp_ne (tgt := 37) hx hb d_M_renew_28 (by decide) (fun c5 => ?_) (fun c5 => ?_)
    · have _u : True := trivial
      refine lv_aload_n hx hb d_M_renew_37 rfl (lv_at hl 1 rfl) ?_
      refine g_M_state hx hb hts hown hK hP mw_595 d_M_renew_38 ?_
      refine lv_iload_n hx hb d_M_renew_41 rfl (lv_at hl 0 rfl) ?_
      refine g_m_state hx hb hK hP (r := (12 * u + a0)) (by omega) hs9 d_M_renew_42 ?_
      refine lv_iconst (v := 2) hx hb d_M_renew_43 (by decide) ?_
      refine lv_icmp_eq (tgt := 53) hx hb d_M_renew_44 (by decide) (fun c6 => ?_) (fun c6 => ?_)
      · have _u : True := trivial
        refine lv_aload_n hx hb d_M_renew_53 rfl (lv_at hl 1 rfl) ?_
        refine lv_iconst (v := 0) hx hb d_M_renew_54 (by decide) ?_
        refine p_M_thrown hx hb hts hown hK hP hD hS mw_590 d_M_renew_55 (fun H locs hP hD hS => ?_)
        refine lv_aload_n hx hb d_M_renew_58 rfl (lv_at hl 1 rfl) ?_
        refine g_M_state hx hb hts hown hK hP mw_595 d_M_renew_59 ?_
        refine lv_iload_n hx hb d_M_renew_62 rfl (lv_at hl 0 rfl) ?_
        refine lv_iconst (v := 1) hx hb d_M_renew_63 (by decide) ?_
        refine p_m_state hx hb hK hP hD hS (r := (12 * u + a0)) (by omega) hs9 d_M_renew_64 (fun H locs hP hD hS => ?_)
        refine lv_aload_n hx hb d_M_renew_65 rfl (lv_at hl 1 rfl) ?_
        refine g_M_since hx hb hts hown hK hP mw_597 d_M_renew_66 ?_
        refine lv_iload_n hx hb d_M_renew_69 rfl (lv_at hl 0 rfl) ?_
        refine lv_aload_n hx hb d_M_renew_70 rfl (lv_at hl 1 rfl) ?_
        refine g_M_today hx hb hts hown hK hP mw_591 d_M_renew_71 ?_
        refine p_m_since hx hb hK hP hD hS (r := (12 * u + a0)) (by omega) hs9 d_M_renew_74 (fun H locs hP hD hS => ?_)
        refine lv_aload_n hx hb d_M_renew_75 rfl (lv_at hl 1 rfl) ?_
        refine g_M_score hx hb hts hown hK hP mw_603 d_M_renew_76 ?_
        refine lv_iload_n hx hb d_M_renew_79 rfl (lv_at hl 0 rfl) ?_
        refine lv_dconst0 hx hb d_M_renew_80 ?_
        refine p_m_score hx hb hK hP hD hS (r := (12 * u + a0)) (by omega) hs9 d_M_renew_81 (fun H locs hP hD hS => ?_)
        refine lv_aload_n hx hb d_M_renew_82 rfl (lv_at hl 1 rfl) ?_
        refine g_M_warning hx hb hts hown hK hP mw_599 d_M_renew_83 ?_
        refine lv_iload_n hx hb d_M_renew_86 rfl (lv_at hl 0 rfl) ?_
        refine g_m_warning hx hb hK hP (r := (12 * u + a0)) (by omega) hs9 d_M_renew_87 ?_
        exact W.iret (v := gI (pD (pI (pI (pI t 0 0 0) 1001 (12 * u + a0) 1) 1003 (12 * u + a0) (gI (pI (pI t 0 0 0) 1001 (12 * u + a0) 1) 1 0)) 1009 (12 * u + a0) FP.dconst0) 1005 (12 * u + a0)) hx hb hr (fun t9 ht hW => ⟨⟨gI (pD (pI (pI (pI t 0 0 0) 1001 (12 * u + a0) 1) 1003 (12 * u + a0) (gI (pI (pI t 0 0 0) 1001 (12 * u + a0) 1) 1 0)) 1009 (12 * u + a0) FP.dconst0) 1005 (12 * u + a0), (pD (pI (pI (pI t 0 0 0) 1001 (12 * u + a0) 1) 1003 (12 * u + a0) (gI (pI (pI t 0 0 0) 1001 (12 * u + a0) 1) 1 0)) 1009 (12 * u + a0) FP.dconst0), rfl, (by first | (simp [mRenew, gI_pI, gI_pD, gD_pI, gD_pD, c4, c5, c6]; done) | (simp [mRenew, gI_pI, gI_pD, gD_pI, gD_pD, c4, c5, c6, hj, hcx, hca]; done)), BM_at ht hW hP hK hD⟩, hS.F ht⟩) hS.2.2 d_M_renew_88
      · have _u : True := trivial
        refine lv_aload_n hx hb d_M_renew_47 rfl (lv_at hl 1 rfl) ?_
        refine lv_iconst (v := 3) hx hb d_M_renew_48 (by decide) ?_
        have hA1 := hS.1
        refine va_calli (va_runV (As := [.int (3)]) (rest := []) ⟨hx, hb, hml, hown, hts⟩ (c_M_refuse l D ad ka H.size t 3) (cwV 1 hts (gv mw_699 mw_701 (big_sel (i := 4) (by decide +kernel) (by decide +kernel)) mw_6 mw_702) rfl rfl rfl (by decide +kernel) ⟨Nat.le_of_ble_eq_true rfl, Nat.le_of_ble_eq_true rfl⟩) ⟨PM_blind, va_recv hK hP (ci := 0) (q0 := 0) rfl (at_M), fun U hU hW => ⟨rfl, PM_at hU hW hP hK hD⟩⟩ rfl rfl hl.1 rfl (lv_room (Nat.le_of_ble_eq_true rfl)) d_M_renew_49 ⟨Nat.le_of_ble_eq_true rfl, Nat.le_of_ble_eq_true rfl⟩) hS (fun q _ h => AM_up hA1 q h) (AM_up hA1) (fun r7 t9 tq H1 locs ht hvm hw8 hB hz1 hk1 hS => ?_)
        obtain ⟨hP, hD⟩ := BM_back ht hB (AM_up hA1)
        generalize H1 = H at hP hS ⊢
        obtain ⟨hwr, hwt⟩ := hw8
        rw [hwt] at hP hD
        rw [hwr]
        exact W.iret (v := 0) hx hb hr (fun t9 ht hW => ⟨⟨0, (pI t 0 0 3), rfl, (by first | (simp [mRenew, gI_pI, gI_pD, gD_pI, gD_pD, c4, c5, c6]; done) | (simp [mRenew, gI_pI, gI_pD, gD_pI, gD_pD, c4, c5, c6, hj, hcx, hca]; done)), BM_at ht hW hP hK hD⟩, hS.F ht⟩) hS.2.2 d_M_renew_52
    · have _u : True := trivial
      refine lv_aload_n hx hb d_M_renew_31 rfl (lv_at hl 1 rfl) ?_
      refine lv_iconst (v := 2) hx hb d_M_renew_32 (by decide) ?_
      have hA1 := hS.1
      refine va_calli (va_runV (As := [.int (2)]) (rest := []) ⟨hx, hb, hml, hown, hts⟩ (c_M_refuse l D ad ka H.size t 2) (cwV 1 hts (gv mw_699 mw_701 (big_sel (i := 4) (by decide +kernel) (by decide +kernel)) mw_6 mw_702) rfl rfl rfl (by decide +kernel) ⟨Nat.le_of_ble_eq_true rfl, Nat.le_of_ble_eq_true rfl⟩) ⟨PM_blind, va_recv hK hP (ci := 0) (q0 := 0) rfl (at_M), fun U hU hW => ⟨rfl, PM_at hU hW hP hK hD⟩⟩ rfl rfl hl.1 rfl (lv_room (Nat.le_of_ble_eq_true rfl)) d_M_renew_33 ⟨Nat.le_of_ble_eq_true rfl, Nat.le_of_ble_eq_true rfl⟩) hS (fun q _ h => AM_up hA1 q h) (AM_up hA1) (fun r10 t12 tq H1 locs ht hvm hw11 hB hz1 hk1 hS => ?_)
      obtain ⟨hP, hD⟩ := BM_back ht hB (AM_up hA1)
      generalize H1 = H at hP hS ⊢
      obtain ⟨hwr, hwt⟩ := hw11
      rw [hwt] at hP hD
      rw [hwr]
      exact W.iret (v := 0) hx hb hr (fun t9 ht hW => ⟨⟨0, (pI t 0 0 2), rfl, (by first | (simp [mRenew, gI_pI, gI_pD, gD_pI, gD_pD, c4, c5]; done) | (simp [mRenew, gI_pI, gI_pD, gD_pI, gD_pD, c4, c5, hj, hcx, hca]; done)), BM_at ht hW hP hK hD⟩, hS.F ht⟩) hS.2.2 d_M_renew_36
  · have _u : True := trivial
    refine lv_aload_n hx hb d_M_renew_8 rfl (lv_at hl 0 rfl) ?_
    refine lv_iconst (v := 1) hx hb d_M_renew_9 (by decide) ?_
    have hA1 := hS.1
    refine va_calli (va_runV (As := [.int (1)]) (rest := []) ⟨hx, hb, hml, hown, hts⟩ (c_M_refuse l D ad ka H.size t 1) (cwV 1 hts (gv mw_699 mw_701 (big_sel (i := 4) (by decide +kernel) (by decide +kernel)) mw_6 mw_702) rfl rfl rfl (by decide +kernel) ⟨Nat.le_of_ble_eq_true rfl, Nat.le_of_ble_eq_true rfl⟩) ⟨PM_blind, va_recv hK hP (ci := 0) (q0 := 0) rfl (at_M), fun U hU hW => ⟨rfl, PM_at hU hW hP hK hD⟩⟩ rfl rfl hl.1 rfl (lv_room (Nat.le_of_ble_eq_true rfl)) d_M_renew_10 ⟨Nat.le_of_ble_eq_true rfl, Nat.le_of_ble_eq_true rfl⟩) hS (fun q _ h => AM_up hA1 q h) (AM_up hA1) (fun r13 t15 tq H1 locs ht hvm hw14 hB hz1 hk1 hS => ?_)
    obtain ⟨hP, hD⟩ := BM_back ht hB (AM_up hA1)
    generalize H1 = H at hP hS ⊢
    obtain ⟨hwr, hwt⟩ := hw14
    rw [hwt] at hP hD
    rw [hwr]
    exact W.iret (v := 0) hx hb hr (fun t9 ht hW => ⟨⟨0, (pI t 0 0 1), rfl, (by first | (simp [mRenew, gI_pI, gI_pD, gD_pI, gD_pD, c4]; done) | (simp [mRenew, gI_pI, gI_pD, gD_pI, gD_pD, c4, hj, hcx, hca]; done)), BM_at ht hW hP hK hD⟩, hS.F ht⟩) hS.2.2 d_M_renew_13
set_option maxHeartbeats 4000000 in
set_option maxRecDepth 100000 in
theorem c_M_told (l : Launch) (D : va_G) (ad : Nat → Nat) (ka : Nat → ClassId) (sz : Nat) (t : Mem) (x a w : Int32) : Met l y_M_told (Cond.code y_M_told b_M_told 5 (some .int) :: big) ({ frames := 2, cells := 0, slots := 0, locals := 43 }) (va_Pc [.ref (ad (0)), .int (x), .int (a), .int (w)] (PM D ad ka sz t)) (va_Qi (fun (r : Int32) (t' : Mem) => mTold t x a w = (r, t')) (BM D ad ka sz) (AM ad sz)) 0 0 (AM ad sz) := by
  refine Met.ofW (cc := b_M_told) (maxL := 5) (ret := (some .int)) (by decide) rfl ?_
  intro p e s m args below meth c s₁ B hml hv
  obtain ⟨rfl, hsz, hP, hK, hD0⟩ := hv
  have hx := B.exec
  have hb := B.bytes
  have hr := B.returns
  have hlocks := B.notSynchronized
  have hts := atoms_spec (ws := Cond.code y_M_told b_M_told 5 (some .int) :: big) B.pre
  have hown : s.vm.findClass "ListForgeModel" = some m.cls := findClass_of_methodNamed B.named
  subst hsz
  have hD : va_D (AM ad s.heap.size) (mw ad ka t) := AM_D hD0
  have hS : va_S (AM ad s.heap.size) s.heap s.heap [] := va_S.rf
  have hl := lv_entry ([.ref (ad (0)), .int (x), .int (a), .int (w)]) (n := 5) (Nat.le_of_ble_eq_true rfl)
  rw [lg_entry_eq]
  generalize (lg_sl ([.ref (ad (0)), .int (x), .int (a), .int (w)]) ++ List.replicate (5 - (lg_sl ([.ref (ad (0)), .int (x), .int (a), .int (w)])).length) Slot.unset).toArray = ls at hl ⊢
  have hl : lv_has ls 5 [(0, .ref (ad (0))), (1, .int (x)), (2, .int (a)), (3, .int (w))] := hl

  refine lv_iload_n hx hb d_M_told_0 rfl (lv_at hl 1 rfl) ?_
  refine lv_iload_n hx hb d_M_told_1 rfl (lv_at hl 2 rfl) ?_
  have hA1 := hS.1
  refine va_calli (va_runS (As := [.int (x), .int (a)]) (rest := []) ⟨hx, hb, hml, hown, hts⟩ (c_M_isPlace l D ad ka s.heap.size t x a) (cwS 2 hts (gs mw_693 mw_694 mw_6 mw_695) rfl rfl rfl (by decide +kernel) ⟨Nat.le_of_ble_eq_true rfl, Nat.le_of_ble_eq_true rfl⟩) ⟨PM_blind, fun U hU hW => ⟨rfl, PM_at hU hW hP hK hD⟩⟩ rfl rfl hl.1 rfl (lv_room (Nat.le_of_ble_eq_true rfl)) d_M_told_2 ⟨Nat.le_of_ble_eq_true rfl, Nat.le_of_ble_eq_true rfl⟩) hS (fun q _ h => AM_up hA1 q h) (AM_up hA1) (fun r1 t3 tq H1 locs ht hvm hw2 hB hz1 hk1 hS => ?_)
  obtain ⟨hP, hD⟩ := BM_back ht hB (AM_up hA1)
  generalize H1 = H at hP hS ⊢
  obtain ⟨hwr, hwt⟩ := hw2
  rw [hwt] at hP hD
  rw [hwr]
  refine lv_if_eq (tgt := 17) hx hb d_M_told_5 (by decide) (fun c4 => ?_) (fun c4 => ?_)
  · have _u : True := trivial
    refine lv_aload_n hx hb d_M_told_17 rfl (lv_at hl 0 rfl) ?_
    refine lv_iconst (v := 1) hx hb d_M_told_18 (by decide) ?_
    have hA1 := hS.1
    refine va_calli (va_runV (As := [.int (1)]) (rest := []) ⟨hx, hb, hml, hown, hts⟩ (c_M_refuse l D ad ka H.size t 1) (cwV 1 hts (gv mw_699 mw_701 (big_sel (i := 4) (by decide +kernel) (by decide +kernel)) mw_6 mw_702) rfl rfl rfl (by decide +kernel) ⟨Nat.le_of_ble_eq_true rfl, Nat.le_of_ble_eq_true rfl⟩) ⟨PM_blind, va_recv hK hP (ci := 0) (q0 := 0) rfl (at_M), fun U hU hW => ⟨rfl, PM_at hU hW hP hK hD⟩⟩ rfl rfl hl.1 rfl (lv_room (Nat.le_of_ble_eq_true rfl)) d_M_told_19 ⟨Nat.le_of_ble_eq_true rfl, Nat.le_of_ble_eq_true rfl⟩) hS (fun q _ h => AM_up hA1 q h) (AM_up hA1) (fun r5 t7 tq H1 locs ht hvm hw6 hB hz1 hk1 hS => ?_)
    obtain ⟨hP, hD⟩ := BM_back ht hB (AM_up hA1)
    generalize H1 = H at hP hS ⊢
    obtain ⟨hwr, hwt⟩ := hw6
    rw [hwt] at hP hD
    rw [hwr]
    exact W.iret (v := 0) hx hb hr (fun t9 ht hW => ⟨⟨0, (pI t 0 0 1), rfl, (by (try simp [gI_pI, gI_pD, gD_pI, gD_pD] at c4); first | (simp [mTold, gI_pI, gI_pD, gD_pI, gD_pD, mToldV, isW4.1, isW4.2.1, isW4.2.2.1, isW4.2.2.2, c4]; done) | (simp [mTold, gI_pI, gI_pD, gD_pI, gD_pD, mToldV, isW4.1, isW4.2.1, isW4.2.2.1, isW4.2.2.2, c4, hj, hcx, hca]; done) | (simp [mTold, gI_pI, gI_pD, gD_pI, gD_pD, mToldV, isW4.1, isW4.2.1, isW4.2.2.1, isW4.2.2.2, c4, hj, hcx, hca]; intro q9; exact absurd q9 (Int32.not_lt.mpr c4))), BM_at ht hW hP hK hD⟩, hS.F ht⟩) hS.2.2 d_M_told_22
  · have _u : True := trivial
    obtain ⟨u, hu, hxu, a0, ha0, hau⟩ := PL_of (x := x) (a := a) c4
    have hcx : cl x = u := cl_of hxu (by omega)
    have hca : cl a = a0 := cl_of hau (by omega)
    have hj : jj x a = 12 * u + a0 := by rw [jj, hcx, hca]
    have hs9 := s_of hxu hau
    refine lv_iload_n hx hb d_M_told_8 rfl (lv_at hl 3 rfl) ?_
    refine lv_iconst (v := 0) hx hb d_M_told_9 (by decide) ?_
    refine lv_iconst (v := 4) hx hb d_M_told_10 (by decide) ?_
    have hA1 := hS.1
    refine va_calli (va_runS (As := [.int (w), .int (0), .int (4)]) (rest := []) ⟨hx, hb, hml, hown, hts⟩ (c_M_in l D ad ka H.size t w 0 4) (cwS 3 hts (gs mw_696 mw_697 mw_6 mw_698) rfl rfl rfl (by decide +kernel) ⟨Nat.le_of_ble_eq_true rfl, Nat.le_of_ble_eq_true rfl⟩) ⟨PM_blind, fun U hU hW => ⟨rfl, PM_at hU hW hP hK hD⟩⟩ rfl rfl hl.1 rfl (lv_room (Nat.le_of_ble_eq_true rfl)) d_M_told_11 ⟨Nat.le_of_ble_eq_true rfl, Nat.le_of_ble_eq_true rfl⟩) hS (fun q _ h => AM_up hA1 q h) (AM_up hA1) (fun r8 t10 tq H1 locs ht hvm hw9 hB hz1 hk1 hS => ?_)
    obtain ⟨hP, hD⟩ := BM_back ht hB (AM_up hA1)
    generalize H1 = H at hP hS ⊢
    obtain ⟨hwr, hwt⟩ := hw9
    rw [hwt] at hP hD
    rw [hwr]
    refine lv_if_ne (tgt := 23) hx hb d_M_told_14 (by decide) (fun c11 => ?_) (fun c11 => ?_)
    · have _u : True := trivial
      refine lv_bipush (v := 12) hx hb d_M_told_23 (by decide) ?_
      refine lv_iload_n hx hb d_M_told_25 rfl (lv_at hl 1 rfl) ?_
      refine lv_imul hx hb d_M_told_26 ?_
      refine lv_iload_n hx hb d_M_told_27 rfl (lv_at hl 2 rfl) ?_
      refine lv_iadd hx hb d_M_told_28 ?_
      refine lv_istore (lv' := [(4, .int ((12 * x) + a)), (0, .ref (ad (0))), (1, .int (x)), (2, .int (a)), (3, .int (w))]) hx hb d_M_told_29 hl (by decide) rfl (fun ls hl => ?_)
      refine lv_aload_n hx hb d_M_told_31 rfl (lv_at hl 1 rfl) ?_
      refine g_M_state hx hb hts hown hK hP mw_595 d_M_told_32 ?_
      refine lv_iload hx hb d_M_told_35 (lv_at hl 0 rfl) ?_
      refine g_m_state hx hb hK hP (r := (12 * u + a0)) (by omega) hs9 d_M_told_37 ?_
      refine lv_iconst (v := -1) hx hb d_M_told_38 (by decide) ?_
      refine lv_icmp_ne (tgt := 48) hx hb d_M_told_39 (by decide) (fun c12 => ?_) (fun c12 => ?_)
      · have _u : True := trivial
        refine lv_aload_n hx hb d_M_told_48 rfl (lv_at hl 1 rfl) ?_
        refine lv_iconst (v := 0) hx hb d_M_told_49 (by decide) ?_
        refine p_M_thrown hx hb hts hown hK hP hD hS mw_590 d_M_told_50 (fun H locs hP hD hS => ?_)
        refine lv_iload_n hx hb d_M_told_53 rfl (lv_at hl 4 rfl) ?_
        by_cases k13 : w = 0
        · have _u : True := trivial
          refine lv_tableIn (off := 30) (tgt := 84) hx hb d_M_told_54 (by rw [k13]; decide) (by rw [k13]; decide) (by rw [k13]; decide) (by decide) ?_
          refine lv_aload_n hx hb d_M_told_84 rfl (lv_at hl 1 rfl) ?_
          refine g_M_state hx hb hts hown hK hP mw_595 d_M_told_85 ?_
          refine lv_iload hx hb d_M_told_88 (lv_at hl 0 rfl) ?_
          refine g_m_state hx hb hK hP (r := (12 * u + a0)) (by omega) hs9 d_M_told_90 ?_
          exact W.iret (v := gI (pI t 0 0 0) 1001 (12 * u + a0)) hx hb hr (fun t9 ht hW => ⟨⟨gI (pI t 0 0 0) 1001 (12 * u + a0), (pI t 0 0 0), rfl, (by (try simp [gI_pI, gI_pD, gD_pI, gD_pD] at c4); (try simp [gI_pI, gI_pD, gD_pI, gD_pD] at c11); (try simp [gI_pI, gI_pD, gD_pI, gD_pD] at c12); (try simp [gI_pI, gI_pD, gD_pI, gD_pD] at k13); first | (simp [mTold, gI_pI, gI_pD, gD_pI, gD_pD, mToldV, isW4.1, isW4.2.1, isW4.2.2.1, isW4.2.2.2, c4, c11, c12, k13]; done) | (simp [mTold, gI_pI, gI_pD, gD_pI, gD_pD, mToldV, isW4.1, isW4.2.1, isW4.2.2.1, isW4.2.2.2, c4, c11, c12, k13, hj, hcx, hca]; done) | (simp [mTold, gI_pI, gI_pD, gD_pI, gD_pD, mToldV, isW4.1, isW4.2.1, isW4.2.2.1, isW4.2.2.2, c4, c11, c12, k13, hj, hcx, hca]; intro q9; exact absurd q9 (Int32.not_lt.mpr k13))), BM_at ht hW hP hK hD⟩, hS.F ht⟩) hS.2.2 d_M_told_91
        by_cases k14 : w = 1
        · have _u : True := trivial
          refine lv_tableIn (off := 38) (tgt := 92) hx hb d_M_told_54 (by rw [k14]; decide) (by rw [k14]; decide) (by rw [k14]; decide) (by decide) ?_
          refine lv_aload_n hx hb d_M_told_92 rfl (lv_at hl 1 rfl) ?_
          refine g_M_way hx hb hts hown hK hP mw_596 d_M_told_93 ?_
          refine lv_iload hx hb d_M_told_96 (lv_at hl 0 rfl) ?_
          refine g_m_way hx hb hK hP (r := (12 * u + a0)) (by omega) hs9 d_M_told_98 ?_
          exact W.iret (v := gI (pI t 0 0 0) 1002 (12 * u + a0)) hx hb hr (fun t9 ht hW => ⟨⟨gI (pI t 0 0 0) 1002 (12 * u + a0), (pI t 0 0 0), rfl, (by (try simp [gI_pI, gI_pD, gD_pI, gD_pD] at c4); (try simp [gI_pI, gI_pD, gD_pI, gD_pD] at c11); (try simp [gI_pI, gI_pD, gD_pI, gD_pD] at c12); (try simp [gI_pI, gI_pD, gD_pI, gD_pD] at k13); (try simp [gI_pI, gI_pD, gD_pI, gD_pD] at k14); first | (simp [mTold, gI_pI, gI_pD, gD_pI, gD_pD, mToldV, isW4.1, isW4.2.1, isW4.2.2.1, isW4.2.2.2, c4, c11, c12, k13, k14]; done) | (simp [mTold, gI_pI, gI_pD, gD_pI, gD_pD, mToldV, isW4.1, isW4.2.1, isW4.2.2.1, isW4.2.2.2, c4, c11, c12, k13, k14, hj, hcx, hca]; done) | (simp [mTold, gI_pI, gI_pD, gD_pI, gD_pD, mToldV, isW4.1, isW4.2.1, isW4.2.2.1, isW4.2.2.2, c4, c11, c12, k13, k14, hj, hcx, hca]; intro q9; exact absurd q9 (Int32.not_lt.mpr k14))), BM_at ht hW hP hK hD⟩, hS.F ht⟩) hS.2.2 d_M_told_99
        by_cases k15 : w = 2
        · have _u : True := trivial
          refine lv_tableIn (off := 46) (tgt := 100) hx hb d_M_told_54 (by rw [k15]; decide) (by rw [k15]; decide) (by rw [k15]; decide) (by decide) ?_
          refine lv_aload_n hx hb d_M_told_100 rfl (lv_at hl 1 rfl) ?_
          refine g_M_moderates hx hb hts hown hK hP mw_601 d_M_told_101 ?_
          refine lv_iload hx hb d_M_told_104 (lv_at hl 0 rfl) ?_
          refine g_m_moderates hx hb hK hP (r := (12 * u + a0)) (by omega) hs9 d_M_told_106 ?_
          refine lv_if_eq (tgt := 114) hx hb d_M_told_107 (by decide) (fun c16 => ?_) (fun c16 => ?_)
          · have _u : True := trivial
            refine lv_iconst (v := 0) hx hb d_M_told_114 (by decide) ?_
            exact W.iret (v := 0) hx hb hr (fun t9 ht hW => ⟨⟨0, (pI t 0 0 0), rfl, (by (try simp [gI_pI, gI_pD, gD_pI, gD_pD] at c4); (try simp [gI_pI, gI_pD, gD_pI, gD_pD] at c11); (try simp [gI_pI, gI_pD, gD_pI, gD_pD] at c12); (try simp [gI_pI, gI_pD, gD_pI, gD_pD] at k13); (try simp [gI_pI, gI_pD, gD_pI, gD_pD] at k14); (try simp [gI_pI, gI_pD, gD_pI, gD_pD] at k15); (try simp [gI_pI, gI_pD, gD_pI, gD_pD] at c16); first | (simp [mTold, gI_pI, gI_pD, gD_pI, gD_pD, mToldV, isW4.1, isW4.2.1, isW4.2.2.1, isW4.2.2.2, c4, c11, c12, k13, k14, k15, c16]; done) | (simp [mTold, gI_pI, gI_pD, gD_pI, gD_pD, mToldV, isW4.1, isW4.2.1, isW4.2.2.1, isW4.2.2.2, c4, c11, c12, k13, k14, k15, c16, hj, hcx, hca]; done) | (simp [mTold, gI_pI, gI_pD, gD_pI, gD_pD, mToldV, isW4.1, isW4.2.1, isW4.2.2.1, isW4.2.2.2, c4, c11, c12, k13, k14, k15, c16, hj, hcx, hca]; intro q9; exact absurd q9 (Int32.not_lt.mpr c16))), BM_at ht hW hP hK hD⟩, hS.F ht⟩) hS.2.2 d_M_told_115
          · have _u : True := trivial
            refine lv_iconst (v := 1) hx hb d_M_told_110 (by decide) ?_
            refine lv_goto (tgt := 115) hx hb d_M_told_111 (by decide) ?_
            exact W.iret (v := 1) hx hb hr (fun t9 ht hW => ⟨⟨1, (pI t 0 0 0), rfl, (by (try simp [gI_pI, gI_pD, gD_pI, gD_pD] at c4); (try simp [gI_pI, gI_pD, gD_pI, gD_pD] at c11); (try simp [gI_pI, gI_pD, gD_pI, gD_pD] at c12); (try simp [gI_pI, gI_pD, gD_pI, gD_pD] at k13); (try simp [gI_pI, gI_pD, gD_pI, gD_pD] at k14); (try simp [gI_pI, gI_pD, gD_pI, gD_pD] at k15); (try simp [gI_pI, gI_pD, gD_pI, gD_pD] at c16); first | (simp [mTold, gI_pI, gI_pD, gD_pI, gD_pD, mToldV, isW4.1, isW4.2.1, isW4.2.2.1, isW4.2.2.2, c4, c11, c12, k13, k14, k15, c16]; done) | (simp [mTold, gI_pI, gI_pD, gD_pI, gD_pD, mToldV, isW4.1, isW4.2.1, isW4.2.2.1, isW4.2.2.2, c4, c11, c12, k13, k14, k15, c16, hj, hcx, hca]; done) | (simp [mTold, gI_pI, gI_pD, gD_pI, gD_pD, mToldV, isW4.1, isW4.2.1, isW4.2.2.1, isW4.2.2.2, c4, c11, c12, k13, k14, k15, c16, hj, hcx, hca]; intro q9; exact absurd q9 (Int32.not_lt.mpr c16))), BM_at ht hW hP hK hD⟩, hS.F ht⟩) hS.2.2 d_M_told_115
        by_cases k17 : w = 3
        · have _u : True := trivial
          refine lv_tableIn (off := 62) (tgt := 116) hx hb d_M_told_54 (by rw [k17]; decide) (by rw [k17]; decide) (by rw [k17]; decide) (by decide) ?_
          refine lv_aload_n hx hb d_M_told_116 rfl (lv_at hl 1 rfl) ?_
          refine g_M_state hx hb hts hown hK hP mw_595 d_M_told_117 ?_
          refine lv_iload hx hb d_M_told_120 (lv_at hl 0 rfl) ?_
          refine g_m_state hx hb hK hP (r := (12 * u + a0)) (by omega) hs9 d_M_told_122 ?_
          refine lv_iconst (v := 2) hx hb d_M_told_123 (by decide) ?_
          refine lv_icmp_ne (tgt := 137) hx hb d_M_told_124 (by decide) (fun c18 => ?_) (fun c18 => ?_)
          · have _u : True := trivial
            refine lv_iconst (v := 0) hx hb d_M_told_137 (by decide) ?_
            exact W.iret (v := 0) hx hb hr (fun t9 ht hW => ⟨⟨0, (pI t 0 0 0), rfl, (by (try simp [gI_pI, gI_pD, gD_pI, gD_pD] at c4); (try simp [gI_pI, gI_pD, gD_pI, gD_pD] at c11); (try simp [gI_pI, gI_pD, gD_pI, gD_pD] at c12); (try simp [gI_pI, gI_pD, gD_pI, gD_pD] at k13); (try simp [gI_pI, gI_pD, gD_pI, gD_pD] at k14); (try simp [gI_pI, gI_pD, gD_pI, gD_pD] at k15); (try simp [gI_pI, gI_pD, gD_pI, gD_pD] at k17); (try simp [gI_pI, gI_pD, gD_pI, gD_pD] at c18); first | (simp [mTold, gI_pI, gI_pD, gD_pI, gD_pD, mToldV, isW4.1, isW4.2.1, isW4.2.2.1, isW4.2.2.2, c4, c11, c12, k13, k14, k15, k17, c18]; done) | (simp [mTold, gI_pI, gI_pD, gD_pI, gD_pD, mToldV, isW4.1, isW4.2.1, isW4.2.2.1, isW4.2.2.2, c4, c11, c12, k13, k14, k15, k17, c18, hj, hcx, hca]; done) | (simp [mTold, gI_pI, gI_pD, gD_pI, gD_pD, mToldV, isW4.1, isW4.2.1, isW4.2.2.1, isW4.2.2.2, c4, c11, c12, k13, k14, k15, k17, c18, hj, hcx, hca]; intro q9; exact absurd q9 (Int32.not_lt.mpr c18))), BM_at ht hW hP hK hD⟩, hS.F ht⟩) hS.2.2 d_M_told_138
          · have _u : True := trivial
            refine lv_aload_n hx hb d_M_told_127 rfl (lv_at hl 1 rfl) ?_
            refine g_M_warning hx hb hts hown hK hP mw_599 d_M_told_128 ?_
            refine lv_iload hx hb d_M_told_131 (lv_at hl 0 rfl) ?_
            refine g_m_warning hx hb hK hP (r := (12 * u + a0)) (by omega) hs9 d_M_told_133 ?_
            refine lv_goto (tgt := 138) hx hb d_M_told_134 (by decide) ?_
            exact W.iret (v := gI (pI t 0 0 0) 1005 (12 * u + a0)) hx hb hr (fun t9 ht hW => ⟨⟨gI (pI t 0 0 0) 1005 (12 * u + a0), (pI t 0 0 0), rfl, (by (try simp [gI_pI, gI_pD, gD_pI, gD_pD] at c4); (try simp [gI_pI, gI_pD, gD_pI, gD_pD] at c11); (try simp [gI_pI, gI_pD, gD_pI, gD_pD] at c12); (try simp [gI_pI, gI_pD, gD_pI, gD_pD] at k13); (try simp [gI_pI, gI_pD, gD_pI, gD_pD] at k14); (try simp [gI_pI, gI_pD, gD_pI, gD_pD] at k15); (try simp [gI_pI, gI_pD, gD_pI, gD_pD] at k17); (try simp [gI_pI, gI_pD, gD_pI, gD_pD] at c18); first | (simp [mTold, gI_pI, gI_pD, gD_pI, gD_pD, mToldV, isW4.1, isW4.2.1, isW4.2.2.1, isW4.2.2.2, c4, c11, c12, k13, k14, k15, k17, c18]; done) | (simp [mTold, gI_pI, gI_pD, gD_pI, gD_pD, mToldV, isW4.1, isW4.2.1, isW4.2.2.1, isW4.2.2.2, c4, c11, c12, k13, k14, k15, k17, c18, hj, hcx, hca]; done) | (simp [mTold, gI_pI, gI_pD, gD_pI, gD_pD, mToldV, isW4.1, isW4.2.1, isW4.2.2.1, isW4.2.2.2, c4, c11, c12, k13, k14, k15, k17, c18, hj, hcx, hca]; intro q9; exact absurd q9 (Int32.not_lt.mpr c18))), BM_at ht hW hP hK hD⟩, hS.F ht⟩) hS.2.2 d_M_told_138
        refine lv_tableOut (tgt := 139) hx hb d_M_told_54 (by have ek13 := lv_neT (a := 0) k13 rfl; have ek14 := lv_neT (a := 1) k14 rfl; have ek15 := lv_neT (a := 2) k15 rfl; have ek17 := lv_neT (a := 3) k17 rfl; omega) (by decide) ?_
        refine lv_aload_n hx hb d_M_told_139 rfl (lv_at hl 1 rfl) ?_
        refine g_M_since hx hb hts hown hK hP mw_597 d_M_told_140 ?_
        refine lv_iload hx hb d_M_told_143 (lv_at hl 0 rfl) ?_
        refine g_m_since hx hb hK hP (r := (12 * u + a0)) (by omega) hs9 d_M_told_145 ?_
        exact W.iret (v := gI (pI t 0 0 0) 1003 (12 * u + a0)) hx hb hr (fun t9 ht hW => ⟨⟨gI (pI t 0 0 0) 1003 (12 * u + a0), (pI t 0 0 0), rfl, (by (try simp [gI_pI, gI_pD, gD_pI, gD_pD] at c4); (try simp [gI_pI, gI_pD, gD_pI, gD_pD] at c11); (try simp [gI_pI, gI_pD, gD_pI, gD_pD] at c12); (try simp [gI_pI, gI_pD, gD_pI, gD_pD] at k13); (try simp [gI_pI, gI_pD, gD_pI, gD_pD] at k14); (try simp [gI_pI, gI_pD, gD_pI, gD_pD] at k15); (try simp [gI_pI, gI_pD, gD_pI, gD_pD] at k17); first | (simp [mTold, gI_pI, gI_pD, gD_pI, gD_pD, mToldV, isW4.1, isW4.2.1, isW4.2.2.1, isW4.2.2.2, c4, c11, c12, k13, k14, k15, k17]; done) | (simp [mTold, gI_pI, gI_pD, gD_pI, gD_pD, mToldV, isW4.1, isW4.2.1, isW4.2.2.1, isW4.2.2.2, c4, c11, c12, k13, k14, k15, k17, hj, hcx, hca]; done) | (simp [mTold, gI_pI, gI_pD, gD_pI, gD_pD, mToldV, isW4.1, isW4.2.1, isW4.2.2.1, isW4.2.2.2, c4, c11, c12, k13, k14, k15, k17, hj, hcx, hca]; intro q9; exact absurd q9 (Int32.not_lt.mpr k17))), BM_at ht hW hP hK hD⟩, hS.F ht⟩) hS.2.2 d_M_told_146
      · have _u : True := trivial
        refine lv_aload_n hx hb d_M_told_42 rfl (lv_at hl 1 rfl) ?_
        refine lv_iconst (v := 2) hx hb d_M_told_43 (by decide) ?_
        have hA1 := hS.1
        refine va_calli (va_runV (As := [.int (2)]) (rest := []) ⟨hx, hb, hml, hown, hts⟩ (c_M_refuse l D ad ka H.size t 2) (cwV 1 hts (gv mw_699 mw_701 (big_sel (i := 4) (by decide +kernel) (by decide +kernel)) mw_6 mw_702) rfl rfl rfl (by decide +kernel) ⟨Nat.le_of_ble_eq_true rfl, Nat.le_of_ble_eq_true rfl⟩) ⟨PM_blind, va_recv hK hP (ci := 0) (q0 := 0) rfl (at_M), fun U hU hW => ⟨rfl, PM_at hU hW hP hK hD⟩⟩ rfl rfl hl.1 rfl (lv_room (Nat.le_of_ble_eq_true rfl)) d_M_told_44 ⟨Nat.le_of_ble_eq_true rfl, Nat.le_of_ble_eq_true rfl⟩) hS (fun q _ h => AM_up hA1 q h) (AM_up hA1) (fun r19 t21 tq H1 locs ht hvm hw20 hB hz1 hk1 hS => ?_)
        obtain ⟨hP, hD⟩ := BM_back ht hB (AM_up hA1)
        generalize H1 = H at hP hS ⊢
        obtain ⟨hwr, hwt⟩ := hw20
        rw [hwt] at hP hD
        rw [hwr]
        exact W.iret (v := 0) hx hb hr (fun t9 ht hW => ⟨⟨0, (pI t 0 0 2), rfl, (by (try simp [gI_pI, gI_pD, gD_pI, gD_pD] at c4); (try simp [gI_pI, gI_pD, gD_pI, gD_pD] at c11); (try simp [gI_pI, gI_pD, gD_pI, gD_pD] at c12); first | (simp [mTold, gI_pI, gI_pD, gD_pI, gD_pD, mToldV, isW4.1, isW4.2.1, isW4.2.2.1, isW4.2.2.2, c4, c11, c12]; done) | (simp [mTold, gI_pI, gI_pD, gD_pI, gD_pD, mToldV, isW4.1, isW4.2.1, isW4.2.2.1, isW4.2.2.2, c4, c11, c12, hj, hcx, hca]; done) | (simp [mTold, gI_pI, gI_pD, gD_pI, gD_pD, mToldV, isW4.1, isW4.2.1, isW4.2.2.1, isW4.2.2.2, c4, c11, c12, hj, hcx, hca]; intro q9; exact absurd q9 (Int32.not_lt.mpr c12))), BM_at ht hW hP hK hD⟩, hS.F ht⟩) hS.2.2 d_M_told_47
    · have _u : True := trivial
      refine lv_aload_n hx hb d_M_told_17 rfl (lv_at hl 0 rfl) ?_
      refine lv_iconst (v := 1) hx hb d_M_told_18 (by decide) ?_
      have hA1 := hS.1
      refine va_calli (va_runV (As := [.int (1)]) (rest := []) ⟨hx, hb, hml, hown, hts⟩ (c_M_refuse l D ad ka H.size t 1) (cwV 1 hts (gv mw_699 mw_701 (big_sel (i := 4) (by decide +kernel) (by decide +kernel)) mw_6 mw_702) rfl rfl rfl (by decide +kernel) ⟨Nat.le_of_ble_eq_true rfl, Nat.le_of_ble_eq_true rfl⟩) ⟨PM_blind, va_recv hK hP (ci := 0) (q0 := 0) rfl (at_M), fun U hU hW => ⟨rfl, PM_at hU hW hP hK hD⟩⟩ rfl rfl hl.1 rfl (lv_room (Nat.le_of_ble_eq_true rfl)) d_M_told_19 ⟨Nat.le_of_ble_eq_true rfl, Nat.le_of_ble_eq_true rfl⟩) hS (fun q _ h => AM_up hA1 q h) (AM_up hA1) (fun r22 t24 tq H1 locs ht hvm hw23 hB hz1 hk1 hS => ?_)
      obtain ⟨hP, hD⟩ := BM_back ht hB (AM_up hA1)
      generalize H1 = H at hP hS ⊢
      obtain ⟨hwr, hwt⟩ := hw23
      rw [hwt] at hP hD
      rw [hwr]
      exact W.iret (v := 0) hx hb hr (fun t9 ht hW => ⟨⟨0, (pI t 0 0 1), rfl, (by (try simp [gI_pI, gI_pD, gD_pI, gD_pD] at c4); (try simp [gI_pI, gI_pD, gD_pI, gD_pD] at c11); first | (simp [mTold, gI_pI, gI_pD, gD_pI, gD_pD, mToldV, isW4.1, isW4.2.1, isW4.2.2.1, isW4.2.2.2, c4, c11]; done) | (simp [mTold, gI_pI, gI_pD, gD_pI, gD_pD, mToldV, isW4.1, isW4.2.1, isW4.2.2.1, isW4.2.2.2, c4, c11, hj, hcx, hca]; done) | (simp [mTold, gI_pI, gI_pD, gD_pI, gD_pD, mToldV, isW4.1, isW4.2.1, isW4.2.2.1, isW4.2.2.2, c4, c11, hj, hcx, hca]; intro q9; exact absurd q9 (Int32.not_lt.mpr c11))), BM_at ht hW hP hK hD⟩, hS.F ht⟩) hS.2.2 d_M_told_22
