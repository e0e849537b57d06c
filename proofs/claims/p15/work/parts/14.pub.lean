theorem gD_add (t : Mem) (a x s n : Int32) (k j : Nat) : gD (O_add t a x s n) k j = gD t k j := by unfold O_add; split <;> rfl
def leaveR (t : Mem) (x a : Int32) : Nat × Int32 × Mem := if plz x a = 0 then (1, 0, t) else if gI t 0 (jj x a) = -1 then (2, 0, t) else (0, gI t 0 (jj x a), S_end t (jj x a))
def wayR (t : Mem) (x a w : Int32) : Nat × Int32 × Mem := if isW w 0 2 = 0 then (1, 0, t) else if plz x a = 0 then (1, 0, t) else if gI t 0 (jj x a) = -1 then (2, 0, t) else (0, gI t 1 (jj x a), pI t 1 (jj x a) w)
def modR (t : Mem) (x a v : Int32) : Nat × Int32 × Mem := if plz x a = 0 then (1, 0, t) else if gI t 0 (jj x a) = -1 then (2, 0, t) else if gI t 0 (jj x a) = 0 then (3, 0, t) else (0, gI t 6 (jj x a), pI t 6 (jj x a) v)
def banR (t : Mem) (x a v : Int32) : Nat × Int32 × Mem := if plz x a = 0 then (1, 0, t) else (0, gI t (1014 + cl x) (cl a), if v = 0 then pI t (1014 + cl x) (cl a) v else S_end (pI t (1014 + cl x) (cl a) v) (jj x a))
def askC (t : Mem) (x a : Int32) : Int32 := 1000 * gI t 31 0 + 100 * x + a
def askR (t : Mem) (x a w : Int32) : Nat × Int32 × Mem := if plz x a = 0 then (1, 0, t) else if isW w 0 2 = 0 then (1, 0, t) else if gI t 0 (jj x a) = -1 then (if gI t (1014 + cl x) (cl a) = 0 then (0, askC t x a, O_add (S_begin (pI t 31 0 (gI t 31 0 + 1)) (jj x a) w (askC t x a) (gI t 32 0)) a x 2 0) else (3, 0, t)) else (2, 0, t)
def renewR (t : Mem) (x a : Int32) : Nat × Int32 × Mem := if plz x a = 0 then (1, 0, t) else if gI t 0 (jj x a) = -1 then (2, 0, t) else if gI t 0 (jj x a) = 2 then (0, gI t 4 (jj x a), S_becomeLive t (jj x a) (gI t 32 0)) else (3, 0, t)
def scoreR (t : Mem) (x a : Int32) : Nat × UInt64 × Mem := if plz x a = 0 then (1, 0, t) else if gI t 0 (jj x a) = -1 then (2, 0, t) else (0, gD t 0 (jj x a), t)
def bncV (t : Mem) (x a h : Int32) : UInt64 := FP.dadd (gD t 0 (jj x a)) (if h = 0 then 4602678819172646912 else FP.dconst1)
def bncT (t : Mem) (x a h : Int32) : Mem := pD (pI t 5 (jj x a) (gI t 32 0)) 0 (jj x a) (bncV t x a h)
def bncR (t : Mem) (x a h : Int32) : Nat × UInt64 × Mem := if plz x a = 0 then (1, 0, t) else if gI t 0 (jj x a) = -1 then (2, 0, t) else if gI t 0 (jj x a) = 1 then (if gI t 5 (jj x a) = gI t 32 0 then (0, gD t 0 (jj x a), t) else if Op.cmpValue (FP.dcmp (bncV t x a h) (gD t 1 (cl x))) .l < 0 then (0, bncV t x a h, bncT t x a h) else (0, bncV t x a h, O_add (S_stop (bncT t x a h) (jj x a) (gI t 32 0)) a x 5 1)) else (3, 0, t)
set_option maxHeartbeats 4000000 in
set_option maxRecDepth 100000 in
theorem c_F_leave (l : Launch) (hl0 : l.stackTraces = false) (D : va_G) (ad : Nat → Nat) (ka : Nat → ClassId) (sa : Nat → Nat) (sz : Nat) (t : Mem) (x a : Int32) : vx_Met l y_F_leave (Cond.code y_F_leave b_F_leave 5 (some .int) :: big) ({ frames := 9, cells := 2, slots := 12, locals := 146 }) (va_Pc [.ref (ad (0)), .int (x), .int (a)] (PZ D ad ka sa sz t)) (va_Qi (fun (r : Int32) (t' : Mem) => leaveR t x a = (0, r, t')) (BX D ad ka sz) (AX ad sz)) (XT D ad ka sz t (fun E => (E = e_IAE ∧ (leaveR t x a).1 = 1) ∨ (E = e_NSE ∧ (leaveR t x a).1 = 2))) 2 12 (AX ad sz) := by
  refine vx_ofW (cc := b_F_leave) (maxL := 5) (ret := (some .int)) (by decide) rfl ?_
  intro p e s m args below meth c s₁ B hml hTb hv
  obtain ⟨rfl, ⟨hsz, hP, hK, hD0⟩, hZ⟩ := hv
  have hx := B.exec
  have hb := B.bytes
  have hr := B.returns
  have hlocks := B.notSynchronized
  have hts := atoms_spec (ws := Cond.code y_F_leave b_F_leave 5 (some .int) :: big) B.pre
  have hown : s.vm.findClass "ListForge" = some m.cls := findClass_of_methodNamed B.named
  subst hsz
  have hD : va_D (AX ad s.heap.size) (cw ad ka t) := AX_D hD0
  have hS : va_S (AX ad s.heap.size) s.heap s.heap [] := va_S.rf
  have hl := lv_entry ([.ref (ad (0)), .int (x), .int (a)]) (n := 5) (Nat.le_of_ble_eq_true rfl)
  rw [lg_entry_eq]
  generalize (lg_sl ([.ref (ad (0)), .int (x), .int (a)]) ++ List.replicate (5 - (lg_sl ([.ref (ad (0)), .int (x), .int (a)])).length) Slot.unset).toArray = ls at hl ⊢
  have hl : lv_has ls 5 [(0, .ref (ad (0))), (1, .int (x)), (2, .int (a))] := hl

  refine lv_aload_n hx hb d_F_leave_0 rfl (lv_at hl 0 rfl) ?_
  refine lv_iload_n hx hb d_F_leave_1 rfl (lv_at hl 1 rfl) ?_
  refine lv_iload_n hx hb d_F_leave_2 rfl (lv_at hl 2 rfl) ?_
  have hA1 := hS.1
  refine vx_callr (vx_runV (As := [.int (x), .int (a)]) (rest := []) ⟨hx, hb, hml, hown, hts⟩ (c_F_existing l hl0 D ad ka sa s.heap.size t x a) (cwV 2 hts (gv mw_358 mw_360 (big_sel (i := 1) (by decide +kernel) (by decide +kernel)) mw_1 mw_361) rfl rfl rfl (by decide +kernel) ⟨Nat.le_of_ble_eq_true rfl, Nat.le_of_ble_eq_true rfl⟩) ⟨PZ_blind, va_recv hK hP (ci := 4) (q0 := 0) rfl (at_F), fun U hU hW => ⟨rfl, PX_at hU hW hP hK hD, ZX_at hU hW hZ hS⟩⟩ rfl rfl hl.1 rfl (lv_room (Nat.le_of_ble_eq_true rfl)) d_F_leave_3 ⟨Nat.le_of_ble_eq_true rfl, Nat.le_of_ble_eq_true rfl⟩) hS (fun q _ h => AX_up hA1 q h) (AX_up hA1) (fun q _ h => AX_up hA1 q h) (fun E ce q9 _ tq H1 locs ht hvm _ hB hz1 hk1 hS hce hcv hcl => vx_out (fun x hx9 => (hTb x hx9).elim) hlocks hce hcv hcl (fun t9 e9 a9 => XT_out ht hB.2 (AX_up hA1) hK hS (hB.1.elim (fun h => Or.inl ⟨h.1, by simp [leaveR, h.2]⟩) (fun h => (Or.inr ⟨h.1, by simp [leaveR, h.2.1, h.2.2]⟩))) e9 a9) (fun z hz => hS.2.2 z hz) (by decide) (by decide)) (fun t3 r1 tq H1 locs ht hvm hw2 hB hz1 hk1 hS => ?_)
  obtain ⟨hra, hB⟩ := hB
  obtain ⟨hP, hD⟩ := BX_back ht hB (AX_up hA1)
  generalize H1 = H at hP hS ⊢
  obtain ⟨u, a0⟩ := t3
  have hu : u < 3 := hw2.1
  have ha0 : a0 < 12 := hw2.2.1
  have hxu : x = nI u := hw2.2.2.1
  have hau : a = nI a0 := hw2.2.2.2.1
  have hpl : ¬ plz x a = 0 := hw2.2.2.2.2.1
  have hst : ¬ gI t 0 (12 * u + a0) = -1 := hw2.2.2.2.2.2
  have hcx : cl x = u := cl_of hxu (by omega)
  have hca : cl a = a0 := cl_of hau (by omega)
  have hj : jj x a = 12 * u + a0 := by rw [jj, hcx, hca]
  have hra2 : r1 = ad (60 + (12 * u + a0)) := hra
  rw [hra2]
  refine lv_astore_n (lv' := [(3, .ref (ad (60 + (12 * u + a0)))), (0, .ref (ad (0))), (1, .int (x)), (2, .int (a))]) hx hb d_F_leave_6 rfl hl (by decide) rfl (fun ls hl => ?_)
  refine lv_aload_n hx hb d_F_leave_7 rfl (lv_at hl 0 rfl) ?_
  refine g_S_state hx hb hts hown hK hP (by omega) mw_38 d_F_leave_8 ?_
  refine lv_istore (lv' := [(4, .int (gI t 0 (12 * u + a0))), (3, .ref (ad (60 + (12 * u + a0)))), (0, .ref (ad (0))), (1, .int (x)), (2, .int (a))]) hx hb d_F_leave_11 hl (by decide) rfl (fun ls hl => ?_)
  refine lv_aload_n hx hb d_F_leave_13 rfl (lv_at hl 1 rfl) ?_
  have hA1 := hS.1
  refine va_callv (va_runV (As := []) (rest := []) ⟨hx, hb, hml, hown, hts⟩ (c_S_end l D ad ka H.size t (12 * u + a0) (by omega)) (cwV 0 hts (gv mw_363 mw_364 mw_365 mw_3 mw_366) rfl rfl rfl (by decide +kernel) ⟨Nat.le_of_ble_eq_true rfl, Nat.le_of_ble_eq_true rfl⟩) ⟨PX_blind, va_recv hK hP (ci := 3) (q0 := 60 + (12 * u + a0)) rfl (at_S (by omega)), fun U hU hW => ⟨rfl, PX_at hU hW hP hK hD⟩⟩ rfl rfl hl.1 rfl (lv_room (Nat.le_of_ble_eq_true rfl)) d_F_leave_14 ⟨Nat.le_of_ble_eq_true rfl, Nat.le_of_ble_eq_true rfl⟩) hS (fun q _ h => AX_up hA1 q h) (AX_up hA1) (fun t6 tq H1 locs ht hvm hw5 hB hz1 hk1 hS => ?_)
  obtain ⟨hP, hD⟩ := BX_back ht hB (AX_up hA1)
  generalize H1 = H at hP hS ⊢
  rw [hw5] at hP hD
  refine lv_iload hx hb d_F_leave_17 (lv_at hl 0 rfl) ?_
  refine vx_ret (W.widen (k := 2) (n := 12) (by decide) (by decide) ?_)
  exact W.iret (v := gI t 0 (12 * u + a0)) hx hb hr (fun t9 ht hW => ⟨⟨gI t 0 (12 * u + a0), (S_end t (12 * u + a0) ), rfl, (by simp [leaveR, gI_pI, gI_pD, gD_pI, gD_pD, hpl, hj, hcx, hca, hst]), BX_at ht hW hP hK hD⟩, hS.F ht⟩) hS.2.2 d_F_leave_19
set_option maxHeartbeats 4000000 in
set_option maxRecDepth 100000 in
theorem c_F_way (l : Launch) (hl0 : l.stackTraces = false) (D : va_G) (ad : Nat → Nat) (ka : Nat → ClassId) (sa : Nat → Nat) (sz : Nat) (t : Mem) (x a w : Int32) : vx_Met l y_F_way (Cond.code y_F_way b_F_way 6 (some .int) :: big) ({ frames := 9, cells := 3, slots := 18, locals := 146 }) (va_Pc [.ref (ad (0)), .int (x), .int (a), .int (w)] (PZ D ad ka sa sz t)) (va_Qi (fun (r : Int32) (t' : Mem) => wayR t x a w = (0, r, t')) (BX D ad ka sz) (AX ad sz)) (XT D ad ka sz t (fun E => (E = e_IAE ∧ (wayR t x a w).1 = 1) ∨ (E = e_NSE ∧ (wayR t x a w).1 = 2))) 3 18 (AX ad sz) := by
  refine vx_ofW (cc := b_F_way) (maxL := 6) (ret := (some .int)) (by decide) rfl ?_
  intro p e s m args below meth c s₁ B hml hTb hv
  obtain ⟨rfl, ⟨hsz, hP, hK, hD0⟩, hZ⟩ := hv
  have hx := B.exec
  have hb := B.bytes
  have hr := B.returns
  have hlocks := B.notSynchronized
  have hts := atoms_spec (ws := Cond.code y_F_way b_F_way 6 (some .int) :: big) B.pre
  have hown : s.vm.findClass "ListForge" = some m.cls := findClass_of_methodNamed B.named
  subst hsz
  have hD : va_D (AX ad s.heap.size) (cw ad ka t) := AX_D hD0
  have hS : va_S (AX ad s.heap.size) s.heap s.heap [] := va_S.rf
  have hl := lv_entry ([.ref (ad (0)), .int (x), .int (a), .int (w)]) (n := 6) (Nat.le_of_ble_eq_true rfl)
  rw [lg_entry_eq]
  generalize (lg_sl ([.ref (ad (0)), .int (x), .int (a), .int (w)]) ++ List.replicate (6 - (lg_sl ([.ref (ad (0)), .int (x), .int (a), .int (w)])).length) Slot.unset).toArray = ls at hl ⊢
  have hl : lv_has ls 6 [(0, .ref (ad (0))), (1, .int (x)), (2, .int (a)), (3, .int (w))] := hl

  refine lv_iload_n hx hb d_F_way_0 rfl (lv_at hl 3 rfl) ?_
  refine lv_iconst (v := 0) hx hb d_F_way_1 (by decide) ?_
  refine lv_iconst (v := 2) hx hb d_F_way_2 (by decide) ?_
  have hA1 := hS.1
  refine va_calli (va_runS (As := [.int (w), .int (0), .int (2)]) (rest := []) ⟨hx, hb, hml, hown, hts⟩ (c_F_isWithin l D ad ka s.heap.size t w 0 2) (cwS 3 hts (gs mw_207 mw_208 mw_1 mw_209) rfl rfl rfl (by decide +kernel) ⟨Nat.le_of_ble_eq_true rfl, Nat.le_of_ble_eq_true rfl⟩) ⟨PX_blind, fun U hU hW => ⟨rfl, PX_at hU hW hP hK hD⟩⟩ rfl rfl hl.1 rfl (lv_room (Nat.le_of_ble_eq_true rfl)) d_F_way_3 ⟨Nat.le_of_ble_eq_true rfl, Nat.le_of_ble_eq_true rfl⟩) hS (fun q _ h => AX_up hA1 q h) (AX_up hA1) (fun r1 t3 tq H1 locs ht hvm hw2 hB hz1 hk1 hS => ?_)
  obtain ⟨hP, hD⟩ := BX_back ht hB (AX_up hA1)
  generalize H1 = H at hP hS ⊢
  obtain ⟨hwr, hwt⟩ := hw2
  rw [hwt] at hP hD
  rw [hwr]
  have hA1 := hS.1
  refine vx_callv (vx_runS (As := [.int (isW w 0 2)]) (rest := []) ⟨hx, hb, hml, hown, hts⟩ (c_F_require l hl0 D ad ka sa H.size t (isW w 0 2)) (cwS 1 hts (gs mw_210 mw_211 mw_1 mw_212) rfl rfl rfl (by decide +kernel) ⟨Nat.le_of_ble_eq_true rfl, Nat.le_of_ble_eq_true rfl⟩) ⟨PZ_blind, fun U hU hW => ⟨rfl, PX_at hU hW hP hK hD, ZX_at hU hW hZ hS⟩⟩ rfl rfl hl.1 rfl (lv_room (Nat.le_of_ble_eq_true rfl)) d_F_way_6 ⟨Nat.le_of_ble_eq_true rfl, Nat.le_of_ble_eq_true rfl⟩) hS (fun q _ h => AX_up hA1 q h) (AX_up hA1) (fun q _ h => AX_up hA1 q h) (fun E ce q9 _ tq H1 locs ht hvm _ hB hz1 hk1 hS hce hcv hcl => vx_out (fun x hx9 => (hTb x hx9).elim) hlocks hce hcv hcl (fun t9 e9 a9 => XT_out ht hB.2 (AX_up hA1) hK hS (Or.inl ⟨hB.1.1, by simp [wayR, hB.1.2]⟩) e9 a9) (fun z hz => hS.2.2 z hz) (by decide) (by decide)) (fun t6 tq H1 locs ht hvm hw5 hB hz1 hk1 hS => ?_)
  obtain ⟨hP, hD⟩ := BX_back ht hB (AX_up hA1)
  generalize H1 = H at hP hS ⊢
  obtain ⟨hwt, hz6⟩ := hw5
  rw [hwt] at hP hD
  refine lv_aload_n hx hb d_F_way_9 rfl (lv_at hl 0 rfl) ?_
  refine lv_iload_n hx hb d_F_way_10 rfl (lv_at hl 1 rfl) ?_
  refine lv_iload_n hx hb d_F_way_11 rfl (lv_at hl 2 rfl) ?_
  have hA1 := hS.1
  refine vx_callr (vx_runV (As := [.int (x), .int (a)]) (rest := []) ⟨hx, hb, hml, hown, hts⟩ (c_F_existing l hl0 D ad ka sa H.size t x a) (cwV 2 hts (gv mw_358 mw_360 (big_sel (i := 1) (by decide +kernel) (by decide +kernel)) mw_1 mw_361) rfl rfl rfl (by decide +kernel) ⟨Nat.le_of_ble_eq_true rfl, Nat.le_of_ble_eq_true rfl⟩) ⟨PZ_blind, va_recv hK hP (ci := 4) (q0 := 0) rfl (at_F), fun U hU hW => ⟨rfl, PX_at hU hW hP hK hD, ZX_at hU hW hZ hS⟩⟩ rfl rfl hl.1 rfl (lv_room (Nat.le_of_ble_eq_true rfl)) d_F_way_12 ⟨Nat.le_of_ble_eq_true rfl, Nat.le_of_ble_eq_true rfl⟩) hS (fun q _ h => AX_up hA1 q h) (AX_up hA1) (fun q _ h => AX_up hA1 q h) (fun E ce q9 _ tq H1 locs ht hvm _ hB hz1 hk1 hS hce hcv hcl => vx_out (fun x hx9 => (hTb x hx9).elim) hlocks hce hcv hcl (fun t9 e9 a9 => XT_out ht hB.2 (AX_up hA1) hK hS (hB.1.elim (fun h => Or.inl ⟨h.1, by simp [wayR, hz6, h.2]⟩) (fun h => (Or.inr ⟨h.1, by simp [wayR, hz6, h.2.1, h.2.2]⟩))) e9 a9) (fun z hz => hS.2.2 z hz) (by decide) (by decide)) (fun t9 r7 tq H1 locs ht hvm hw8 hB hz1 hk1 hS => ?_)
  obtain ⟨hra, hB⟩ := hB
  obtain ⟨hP, hD⟩ := BX_back ht hB (AX_up hA1)
  generalize H1 = H at hP hS ⊢
  obtain ⟨u, a0⟩ := t9
  have hu : u < 3 := hw8.1
  have ha0 : a0 < 12 := hw8.2.1
  have hxu : x = nI u := hw8.2.2.1
  have hau : a = nI a0 := hw8.2.2.2.1
  have hpl : ¬ plz x a = 0 := hw8.2.2.2.2.1
  have hst : ¬ gI t 0 (12 * u + a0) = -1 := hw8.2.2.2.2.2
  have hcx : cl x = u := cl_of hxu (by omega)
  have hca : cl a = a0 := cl_of hau (by omega)
  have hj : jj x a = 12 * u + a0 := by rw [jj, hcx, hca]
  have hra2 : r7 = ad (60 + (12 * u + a0)) := hra
  rw [hra2]
  refine lv_astore (lv' := [(4, .ref (ad (60 + (12 * u + a0)))), (0, .ref (ad (0))), (1, .int (x)), (2, .int (a)), (3, .int (w))]) hx hb d_F_way_15 hl (by decide) rfl (fun ls hl => ?_)
  refine lv_aload hx hb d_F_way_17 (lv_at hl 0 rfl) ?_
  refine g_S_way hx hb hts hown hK hP (by omega) mw_41 d_F_way_19 ?_
  refine lv_istore (lv' := [(5, .int (gI t 1 (12 * u + a0))), (4, .ref (ad (60 + (12 * u + a0)))), (0, .ref (ad (0))), (1, .int (x)), (2, .int (a)), (3, .int (w))]) hx hb d_F_way_22 hl (by decide) rfl (fun ls hl => ?_)
  refine lv_aload hx hb d_F_way_24 (lv_at hl 1 rfl) ?_
  refine lv_iload_n hx hb d_F_way_26 rfl (lv_at hl 5 rfl) ?_
  refine p_S_way hx hb hts hown hK hP hD hS (by omega) mw_41 d_F_way_27 (fun H locs hP hD hS => ?_)
  refine lv_iload hx hb d_F_way_30 (lv_at hl 0 rfl) ?_
  refine vx_ret (W.widen (k := 3) (n := 18) (by decide) (by decide) ?_)
  exact W.iret (v := gI t 1 (12 * u + a0)) hx hb hr (fun t9 ht hW => ⟨⟨gI t 1 (12 * u + a0), (pI t 1 (12 * u + a0) w), rfl, (by simp [wayR, gI_pI, gI_pD, gD_pI, gD_pD, hpl, hj, hcx, hca, hz6, hst]), BX_at ht hW hP hK hD⟩, hS.F ht⟩) hS.2.2 d_F_way_32
set_option maxHeartbeats 4000000 in
set_option maxRecDepth 100000 in
theorem c_F_moderator (l : Launch) (hl0 : l.stackTraces = false) (D : va_G) (ad : Nat → Nat) (ka : Nat → ClassId) (sa : Nat → Nat) (sz : Nat) (t : Mem) (ho : OKX t) (x a v : Int32) (hz : b01 v) : vx_Met l y_F_moderator (Cond.code y_F_moderator b_F_moderator 6 (some .boolean) :: big) ({ frames := 9, cells := 3, slots := 18, locals := 146 }) (va_Pc [.ref (ad (0)), .int (x), .int (a), .int (v)] (PZ D ad ka sa sz t)) (va_Qi (fun (r : Int32) (t' : Mem) => modR t x a v = (0, r, t')) (BX D ad ka sz) (AX ad sz)) (XT D ad ka sz t (fun E => (E = e_IAE ∧ (modR t x a v).1 = 1) ∨ (E = e_NSE ∧ (modR t x a v).1 = 2) ∨ (E = e_ISE ∧ (modR t x a v).1 = 3))) 3 18 (AX ad sz) := by
  refine vx_ofW (cc := b_F_moderator) (maxL := 6) (ret := (some .boolean)) (by decide) rfl ?_
  intro p e s m args below meth c s₁ B hml hTb hv
  obtain ⟨rfl, ⟨hsz, hP, hK, hD0⟩, hZ⟩ := hv
  have hx := B.exec
  have hb := B.bytes
  have hr := B.returns
  have hlocks := B.notSynchronized
  have hts := atoms_spec (ws := Cond.code y_F_moderator b_F_moderator 6 (some .boolean) :: big) B.pre
  have hown : s.vm.findClass "ListForge" = some m.cls := findClass_of_methodNamed B.named
  subst hsz
  have hD : va_D (AX ad s.heap.size) (cw ad ka t) := AX_D hD0
  have hS : va_S (AX ad s.heap.size) s.heap s.heap [] := va_S.rf
  have hl := lv_entry ([.ref (ad (0)), .int (x), .int (a), .int (v)]) (n := 6) (Nat.le_of_ble_eq_true rfl)
  rw [lg_entry_eq]
  generalize (lg_sl ([.ref (ad (0)), .int (x), .int (a), .int (v)]) ++ List.replicate (6 - (lg_sl ([.ref (ad (0)), .int (x), .int (a), .int (v)])).length) Slot.unset).toArray = ls at hl ⊢
  have hl : lv_has ls 6 [(0, .ref (ad (0))), (1, .int (x)), (2, .int (a)), (3, .int (v))] := hl

  refine lv_aload_n hx hb d_F_moderator_0 rfl (lv_at hl 0 rfl) ?_
  refine lv_iload_n hx hb d_F_moderator_1 rfl (lv_at hl 1 rfl) ?_
  refine lv_iload_n hx hb d_F_moderator_2 rfl (lv_at hl 2 rfl) ?_
  have hA1 := hS.1
  refine vx_callr (vx_runV (As := [.int (x), .int (a)]) (rest := []) ⟨hx, hb, hml, hown, hts⟩ (c_F_existing l hl0 D ad ka sa s.heap.size t x a) (cwV 2 hts (gv mw_358 mw_360 (big_sel (i := 1) (by decide +kernel) (by decide +kernel)) mw_1 mw_361) rfl rfl rfl (by decide +kernel) ⟨Nat.le_of_ble_eq_true rfl, Nat.le_of_ble_eq_true rfl⟩) ⟨PZ_blind, va_recv hK hP (ci := 4) (q0 := 0) rfl (at_F), fun U hU hW => ⟨rfl, PX_at hU hW hP hK hD, ZX_at hU hW hZ hS⟩⟩ rfl rfl hl.1 rfl (lv_room (Nat.le_of_ble_eq_true rfl)) d_F_moderator_3 ⟨Nat.le_of_ble_eq_true rfl, Nat.le_of_ble_eq_true rfl⟩) hS (fun q _ h => AX_up hA1 q h) (AX_up hA1) (fun q _ h => AX_up hA1 q h) (fun E ce q9 _ tq H1 locs ht hvm _ hB hz1 hk1 hS hce hcv hcl => vx_out (fun x hx9 => (hTb x hx9).elim) hlocks hce hcv hcl (fun t9 e9 a9 => XT_out ht hB.2 (AX_up hA1) hK hS (hB.1.elim (fun h => Or.inl ⟨h.1, by simp [modR, h.2]⟩) (fun h => (Or.inr (Or.inl ⟨h.1, by simp [modR, h.2.1, h.2.2]⟩)))) e9 a9) (fun z hz => hS.2.2 z hz) (by decide) (by decide)) (fun t3 r1 tq H1 locs ht hvm hw2 hB hz1 hk1 hS => ?_)
  obtain ⟨hra, hB⟩ := hB
  obtain ⟨hP, hD⟩ := BX_back ht hB (AX_up hA1)
  generalize H1 = H at hP hS ⊢
  obtain ⟨u, a0⟩ := t3
  have hu : u < 3 := hw2.1
  have ha0 : a0 < 12 := hw2.2.1
  have hxu : x = nI u := hw2.2.2.1
  have hau : a = nI a0 := hw2.2.2.2.1
  have hpl : ¬ plz x a = 0 := hw2.2.2.2.2.1
  have hst : ¬ gI t 0 (12 * u + a0) = -1 := hw2.2.2.2.2.2
  have hcx : cl x = u := cl_of hxu (by omega)
  have hca : cl a = a0 := cl_of hau (by omega)
  have hj : jj x a = 12 * u + a0 := by rw [jj, hcx, hca]
  have hra2 : r1 = ad (60 + (12 * u + a0)) := hra
  rw [hra2]
  refine lv_astore (lv' := [(4, .ref (ad (60 + (12 * u + a0)))), (0, .ref (ad (0))), (1, .int (x)), (2, .int (a)), (3, .int (v))]) hx hb d_F_moderator_6 hl (by decide) rfl (fun ls hl => ?_)
  refine lv_aload hx hb d_F_moderator_8 (lv_at hl 0 rfl) ?_
  refine g_S_state hx hb hts hown hK hP (by omega) mw_38 d_F_moderator_10 ?_
  refine lv_if_ne (tgt := 26) hx hb d_F_moderator_13 (by decide) (fun c4 => ?_) (fun c4 => ?_)
  · have _u : True := trivial
    refine lv_aload hx hb d_F_moderator_26 (lv_at hl 0 rfl) ?_
    refine g_S_moderates hx hb hts hown hK hP (by omega) mw_53 d_F_moderator_28 ?_
    refine lv_istore (lv' := [(5, .int (gI t 6 (12 * u + a0))), (4, .ref (ad (60 + (12 * u + a0)))), (0, .ref (ad (0))), (1, .int (x)), (2, .int (a)), (3, .int (v))]) hx hb d_F_moderator_31 hl (by decide) rfl (fun ls hl => ?_)
    refine lv_aload hx hb d_F_moderator_33 (lv_at hl 1 rfl) ?_
    refine lv_iload_n hx hb d_F_moderator_35 rfl (lv_at hl 5 rfl) ?_
    refine p_S_moderates hx hb hts hown hK hP hD hS (by omega) hz mw_53 d_F_moderator_36 (fun H locs hP hD hS => ?_)
    refine lv_iload hx hb d_F_moderator_39 (lv_at hl 0 rfl) ?_
    refine vx_ret (W.widen (k := 3) (n := 18) (by decide) (by decide) ?_)
    exact W.zret (v := gI t 6 (12 * u + a0)) hx hb hr (b01_nar (ho.1 _)) (fun t9 ht hW => ⟨⟨gI t 6 (12 * u + a0), (pI t 6 (12 * u + a0) v), rfl, (by simp [modR, gI_pI, gI_pD, gD_pI, gD_pD, hpl, hj, hcx, hca, c4, hst]), BX_at ht hW hP hK hD⟩, hS.F ht⟩) hS.2.2 d_F_moderator_41
  · have _u : True := trivial
    exact vx_throwS (names := RTE) (own := "ListForge") (cls := e_ISE) (text := "the subscription is not confirmed") hx hb hl0 hown (by decide) (by decide) (bg hts mw_283) (bg hts mw_11) (hZ.2.2.2 (105, "the subscription is not confirmed") (by decide)) (hatO hts hZ.1 ag_ISE an_ISE) ao_ISE hZ.2.1 hZ.2.2.1 hS (by rw [hml]; exact hl.1) d_F_moderator_16 d_F_moderator_19 d_F_moderator_20 d_F_moderator_22 d_F_moderator_25 (fun x hx9 => (hTb x hx9).elim) (by decide) (Nat.le_of_ble_eq_true rfl) (by decide) (by decide) hlocks (fun t9 a9 z9 k9 => XT_at hP hK hD hS (Or.inr (Or.inr ⟨rfl, by simp [modR, gI_pI, gI_pD, gD_pI, gD_pD, hpl, hj, hcx, hca, c4, hst]⟩)) a9 z9 k9) (fun z hz => hS.2.2 z hz) (by decide) (by decide)
set_option maxHeartbeats 4000000 in
set_option maxRecDepth 100000 in
theorem c_F_ban (l : Launch) (hl0 : l.stackTraces = false) (D : va_G) (ad : Nat → Nat) (ka : Nat → ClassId) (sa : Nat → Nat) (sz : Nat) (t : Mem) (ho : OKX t) (x a v : Int32) (hz : b01 v) : vx_Met l y_F_ban (Cond.code y_F_ban b_F_ban 6 (some .boolean) :: big) ({ frames := 8, cells := 1, slots := 6, locals := 123 }) (va_Pc [.ref (ad (0)), .int (x), .int (a), .int (v)] (PZ D ad ka sa sz t)) (va_Qi (fun (r : Int32) (t' : Mem) => banR t x a v = (0, r, t')) (BX D ad ka sz) (AX ad sz)) (XT D ad ka sz t (fun E => (E = e_IAE ∧ (banR t x a v).1 = 1))) 1 6 (AX ad sz) := by
  refine vx_ofW (cc := b_F_ban) (maxL := 6) (ret := (some .boolean)) (by decide) rfl ?_
  intro p e s m args below meth c s₁ B hml hTb hv
  obtain ⟨rfl, ⟨hsz, hP, hK, hD0⟩, hZ⟩ := hv
  have hx := B.exec
  have hb := B.bytes
  have hr := B.returns
  have hlocks := B.notSynchronized
  have hts := atoms_spec (ws := Cond.code y_F_ban b_F_ban 6 (some .boolean) :: big) B.pre
  have hown : s.vm.findClass "ListForge" = some m.cls := findClass_of_methodNamed B.named
  subst hsz
  have hD : va_D (AX ad s.heap.size) (cw ad ka t) := AX_D hD0
  have hS : va_S (AX ad s.heap.size) s.heap s.heap [] := va_S.rf
  have hl := lv_entry ([.ref (ad (0)), .int (x), .int (a), .int (v)]) (n := 6) (Nat.le_of_ble_eq_true rfl)
  rw [lg_entry_eq]
  generalize (lg_sl ([.ref (ad (0)), .int (x), .int (a), .int (v)]) ++ List.replicate (6 - (lg_sl ([.ref (ad (0)), .int (x), .int (a), .int (v)])).length) Slot.unset).toArray = ls at hl ⊢
  have hl : lv_has ls 6 [(0, .ref (ad (0))), (1, .int (x)), (2, .int (a)), (3, .int (v))] := hl

  refine lv_iload_n hx hb d_F_ban_0 rfl (lv_at hl 1 rfl) ?_
  refine lv_iload_n hx hb d_F_ban_1 rfl (lv_at hl 2 rfl) ?_
  have hA1 := hS.1
  refine vx_callv (vx_runS (As := [.int (x), .int (a)]) (rest := []) ⟨hx, hb, hml, hown, hts⟩ (c_F_requirePlace l hl0 D ad ka sa s.heap.size t x a) (cwS 2 hts (gs mw_204 mw_205 mw_1 mw_206) rfl rfl rfl (by decide +kernel) ⟨Nat.le_of_ble_eq_true rfl, Nat.le_of_ble_eq_true rfl⟩) ⟨PZ_blind, fun U hU hW => ⟨rfl, PX_at hU hW hP hK hD, ZX_at hU hW hZ hS⟩⟩ rfl rfl hl.1 rfl (lv_room (Nat.le_of_ble_eq_true rfl)) d_F_ban_2 ⟨Nat.le_of_ble_eq_true rfl, Nat.le_of_ble_eq_true rfl⟩) hS (fun q _ h => AX_up hA1 q h) (AX_up hA1) (fun q _ h => AX_up hA1 q h) (fun E ce q9 _ tq H1 locs ht hvm _ hB hz1 hk1 hS hce hcv hcl => vx_out (fun x hx9 => (hTb x hx9).elim) hlocks hce hcv hcl (fun t9 e9 a9 => XT_out ht hB.2 (AX_up hA1) hK hS ⟨hB.1.1, by simp [banR, Decidable.not_not.mp hB.1.2]⟩ e9 a9) (fun z hz => hS.2.2 z hz) (by decide) (by decide)) (fun t3 tq H1 locs ht hvm hw2 hB hz1 hk1 hS => ?_)
  obtain ⟨hP, hD⟩ := BX_back ht hB (AX_up hA1)
  generalize H1 = H at hP hS ⊢
  obtain ⟨hwt, hpl⟩ := hw2
  rw [hwt] at hP hD
  obtain ⟨u, hu, hxu, a0, ha0, hau⟩ := PL_of hpl
  have hpl : ¬ plz x a = 0 := hpl
  have hcx : cl x = u := cl_of hxu (by omega)
  have hca : cl a = a0 := cl_of hau (by omega)
  have hj : jj x a = 12 * u + a0 := by rw [jj, hcx, hca]
  refine lv_aload_n hx hb d_F_ban_5 rfl (lv_at hl 0 rfl) ?_
  refine g_F_lists hx hb hts hown hK hP mw_175 d_F_ban_6 ?_
  refine lv_iload_n hx hb d_F_ban_9 rfl (lv_at hl 1 rfl) ?_
  refine a_lists hx hb hK hP (r := u) hu hxu d_F_ban_10 ?_
  refine lv_astore (lv' := [(4, .ref (ad (8 + u))), (0, .ref (ad (0))), (1, .int (x)), (2, .int (a)), (3, .int (v))]) hx hb d_F_ban_11 hl (by decide) rfl (fun ls hl => ?_)
  refine lv_aload hx hb d_F_ban_13 (lv_at hl 0 rfl) ?_
  refine g_L_banned hx hb hts hown hK hP hu mw_79 d_F_ban_15 ?_
  refine lv_iload_n hx hb d_F_ban_18 rfl (lv_at hl 3 rfl) ?_
  refine g_ban (u := u) hx hb hK hP hu (r := a0) ha0 hau d_F_ban_19 ?_
  refine lv_istore (lv' := [(5, .int (gI t (1014 + u) a0)), (4, .ref (ad (8 + u))), (0, .ref (ad (0))), (1, .int (x)), (2, .int (a)), (3, .int (v))]) hx hb d_F_ban_20 hl (by decide) rfl (fun ls hl => ?_)
  refine lv_aload hx hb d_F_ban_22 (lv_at hl 1 rfl) ?_
  refine g_L_banned hx hb hts hown hK hP hu mw_79 d_F_ban_24 ?_
  refine lv_iload_n hx hb d_F_ban_27 rfl (lv_at hl 4 rfl) ?_
  refine lv_iload_n hx hb d_F_ban_28 rfl (lv_at hl 5 rfl) ?_
  refine p_ban (u := u) hx hb hK hP hD hS hu (r := a0) ha0 hau hz d_F_ban_29 (fun H locs hP hD hS => ?_)
  refine lv_iload_n hx hb d_F_ban_30 rfl (lv_at hl 5 rfl) ?_
  refine lv_if_eq (tgt := 44) hx hb d_F_ban_31 (by decide) (fun c4 => ?_) (fun c4 => ?_)
  · have _u : True := trivial
    refine lv_iload hx hb d_F_ban_44 (lv_at hl 0 rfl) ?_
    refine vx_ret (W.widen (k := 1) (n := 6) (by decide) (by decide) ?_)
    exact W.zret (v := gI t (1014 + u) a0) hx hb hr (b01_nar (ho.2.2.2.1 _ _ (by omega))) (fun t9 ht hW => ⟨⟨gI t (1014 + u) a0, (pI t (1014 + u) a0 v), rfl, (by simp [banR, gI_pI, gI_pD, gD_pI, gD_pD, hpl, hj, hcx, hca, c4]), BX_at ht hW hP hK hD⟩, hS.F ht⟩) hS.2.2 d_F_ban_46
  · have _u : True := trivial
    refine lv_aload hx hb d_F_ban_34 (lv_at hl 1 rfl) ?_
    refine g_L_subscriptions hx hb hts hown hK hP hu mw_77 d_F_ban_36 ?_
    refine lv_iload_n hx hb d_F_ban_39 rfl (lv_at hl 4 rfl) ?_
    refine a_subs hx hb hK hP hu (r := a0) ha0 hau d_F_ban_40 ?_
    have hA1 := hS.1
    refine va_callv (va_runV (As := []) (rest := []) ⟨hx, hb, hml, hown, hts⟩ (c_S_end l D ad ka H.size (pI t (1014 + u) a0 v) (12 * u + a0) (by omega)) (cwV 0 hts (gv mw_363 mw_364 mw_365 mw_3 mw_366) rfl rfl rfl (by decide +kernel) ⟨Nat.le_of_ble_eq_true rfl, Nat.le_of_ble_eq_true rfl⟩) ⟨PX_blind, va_recv hK hP (ci := 3) (q0 := 60 + (12 * u + a0)) rfl (at_S (by omega)), fun U hU hW => ⟨rfl, PX_at hU hW hP hK hD⟩⟩ rfl rfl hl.1 rfl (lv_room (Nat.le_of_ble_eq_true rfl)) d_F_ban_41 ⟨Nat.le_of_ble_eq_true rfl, Nat.le_of_ble_eq_true rfl⟩) hS (fun q _ h => AX_up hA1 q h) (AX_up hA1) (fun t7 tq H1 locs ht hvm hw6 hB hz1 hk1 hS => ?_)
    obtain ⟨hP, hD⟩ := BX_back ht hB (AX_up hA1)
    generalize H1 = H at hP hS ⊢
    rw [hw6] at hP hD
    refine lv_iload hx hb d_F_ban_44 (lv_at hl 0 rfl) ?_
    refine vx_ret (W.widen (k := 1) (n := 6) (by decide) (by decide) ?_)
    exact W.zret (v := gI t (1014 + u) a0) hx hb hr (b01_nar (ho.2.2.2.1 _ _ (by omega))) (fun t9 ht hW => ⟨⟨gI t (1014 + u) a0, (S_end (pI t (1014 + u) a0 v) (12 * u + a0) ), rfl, (by simp [banR, gI_pI, gI_pD, gD_pI, gD_pD, hpl, hj, hcx, hca, c4]), BX_at ht hW hP hK hD⟩, hS.F ht⟩) hS.2.2 d_F_ban_46
set_option maxHeartbeats 4000000 in
set_option maxRecDepth 100000 in
theorem c_F_ask (l : Launch) (hl0 : l.stackTraces = false) (D : va_G) (ad : Nat → Nat) (ka : Nat → ClassId) (sa : Nat → Nat) (sz : Nat) (t : Mem) (ho : OKX t) (x a w : Int32) : vx_Met l y_F_ask (Cond.code y_F_ask b_F_ask 7 (some .int) :: big) ({ frames := 8, cells := 3, slots := 18, locals := 123 }) (va_Pc [.ref (ad (0)), .int (x), .int (a), .int (w)] (PZ D ad ka sa sz t)) (va_Qi (fun (r : Int32) (t' : Mem) => askR t x a w = (0, r, t')) (BX D ad ka sz) (AX ad sz)) (XT D ad ka sz t (fun E => (E = e_IAE ∧ (askR t x a w).1 = 1) ∨ (E = e_ISE ∧ (askR t x a w).1 = 2) ∨ (E = e_UOE ∧ (askR t x a w).1 = 3))) 3 18 (AX ad sz) := by
  refine vx_ofW (cc := b_F_ask) (maxL := 7) (ret := (some .int)) (by decide) rfl ?_
  intro p e s m args below meth c s₁ B hml hTb hv
  obtain ⟨rfl, ⟨hsz, hP, hK, hD0⟩, hZ⟩ := hv
  have hx := B.exec
  have hb := B.bytes
  have hr := B.returns
  have hlocks := B.notSynchronized
  have hts := atoms_spec (ws := Cond.code y_F_ask b_F_ask 7 (some .int) :: big) B.pre
  have hown : s.vm.findClass "ListForge" = some m.cls := findClass_of_methodNamed B.named
  subst hsz
  have hD : va_D (AX ad s.heap.size) (cw ad ka t) := AX_D hD0
  have hS : va_S (AX ad s.heap.size) s.heap s.heap [] := va_S.rf
  have hl := lv_entry ([.ref (ad (0)), .int (x), .int (a), .int (w)]) (n := 7) (Nat.le_of_ble_eq_true rfl)
  rw [lg_entry_eq]
  generalize (lg_sl ([.ref (ad (0)), .int (x), .int (a), .int (w)]) ++ List.replicate (7 - (lg_sl ([.ref (ad (0)), .int (x), .int (a), .int (w)])).length) Slot.unset).toArray = ls at hl ⊢
  have hl : lv_has ls 7 [(0, .ref (ad (0))), (1, .int (x)), (2, .int (a)), (3, .int (w))] := hl

  refine lv_iload_n hx hb d_F_ask_0 rfl (lv_at hl 1 rfl) ?_
  refine lv_iload_n hx hb d_F_ask_1 rfl (lv_at hl 2 rfl) ?_
  have hA1 := hS.1
  refine vx_callv (vx_runS (As := [.int (x), .int (a)]) (rest := []) ⟨hx, hb, hml, hown, hts⟩ (c_F_requirePlace l hl0 D ad ka sa s.heap.size t x a) (cwS 2 hts (gs mw_204 mw_205 mw_1 mw_206) rfl rfl rfl (by decide +kernel) ⟨Nat.le_of_ble_eq_true rfl, Nat.le_of_ble_eq_true rfl⟩) ⟨PZ_blind, fun U hU hW => ⟨rfl, PX_at hU hW hP hK hD, ZX_at hU hW hZ hS⟩⟩ rfl rfl hl.1 rfl (lv_room (Nat.le_of_ble_eq_true rfl)) d_F_ask_2 ⟨Nat.le_of_ble_eq_true rfl, Nat.le_of_ble_eq_true rfl⟩) hS (fun q _ h => AX_up hA1 q h) (AX_up hA1) (fun q _ h => AX_up hA1 q h) (fun E ce q9 _ tq H1 locs ht hvm _ hB hz1 hk1 hS hce hcv hcl => vx_out (fun x hx9 => (hTb x hx9).elim) hlocks hce hcv hcl (fun t9 e9 a9 => XT_out ht hB.2 (AX_up hA1) hK hS (Or.inl ⟨hB.1.1, by simp [askR, Decidable.not_not.mp hB.1.2]⟩) e9 a9) (fun z hz => hS.2.2 z hz) (by decide) (by decide)) (fun t3 tq H1 locs ht hvm hw2 hB hz1 hk1 hS => ?_)
  obtain ⟨hP, hD⟩ := BX_back ht hB (AX_up hA1)
  generalize H1 = H at hP hS ⊢
  obtain ⟨hwt, hpl⟩ := hw2
  rw [hwt] at hP hD
  obtain ⟨u, hu, hxu, a0, ha0, hau⟩ := PL_of hpl
  have hpl : ¬ plz x a = 0 := hpl
  have hcx : cl x = u := cl_of hxu (by omega)
  have hca : cl a = a0 := cl_of hau (by omega)
  have hj : jj x a = 12 * u + a0 := by rw [jj, hcx, hca]
  refine lv_iload_n hx hb d_F_ask_5 rfl (lv_at hl 3 rfl) ?_
  refine lv_iconst (v := 0) hx hb d_F_ask_6 (by decide) ?_
  refine lv_iconst (v := 2) hx hb d_F_ask_7 (by decide) ?_
  have hA1 := hS.1
  refine va_calli (va_runS (As := [.int (w), .int (0), .int (2)]) (rest := []) ⟨hx, hb, hml, hown, hts⟩ (c_F_isWithin l D ad ka H.size t w 0 2) (cwS 3 hts (gs mw_207 mw_208 mw_1 mw_209) rfl rfl rfl (by decide +kernel) ⟨Nat.le_of_ble_eq_true rfl, Nat.le_of_ble_eq_true rfl⟩) ⟨PX_blind, fun U hU hW => ⟨rfl, PX_at hU hW hP hK hD⟩⟩ rfl rfl hl.1 rfl (lv_room (Nat.le_of_ble_eq_true rfl)) d_F_ask_8 ⟨Nat.le_of_ble_eq_true rfl, Nat.le_of_ble_eq_true rfl⟩) hS (fun q _ h => AX_up hA1 q h) (AX_up hA1) (fun r4 t6 tq H1 locs ht hvm hw5 hB hz1 hk1 hS => ?_)
  obtain ⟨hP, hD⟩ := BX_back ht hB (AX_up hA1)
  generalize H1 = H at hP hS ⊢
  obtain ⟨hwr, hwt⟩ := hw5
  rw [hwt] at hP hD
  rw [hwr]
  have hA1 := hS.1
  refine vx_callv (vx_runS (As := [.int (isW w 0 2)]) (rest := []) ⟨hx, hb, hml, hown, hts⟩ (c_F_require l hl0 D ad ka sa H.size t (isW w 0 2)) (cwS 1 hts (gs mw_210 mw_211 mw_1 mw_212) rfl rfl rfl (by decide +kernel) ⟨Nat.le_of_ble_eq_true rfl, Nat.le_of_ble_eq_true rfl⟩) ⟨PZ_blind, fun U hU hW => ⟨rfl, PX_at hU hW hP hK hD, ZX_at hU hW hZ hS⟩⟩ rfl rfl hl.1 rfl (lv_room (Nat.le_of_ble_eq_true rfl)) d_F_ask_11 ⟨Nat.le_of_ble_eq_true rfl, Nat.le_of_ble_eq_true rfl⟩) hS (fun q _ h => AX_up hA1 q h) (AX_up hA1) (fun q _ h => AX_up hA1 q h) (fun E ce q9 _ tq H1 locs ht hvm _ hB hz1 hk1 hS hce hcv hcl => vx_out (fun x hx9 => (hTb x hx9).elim) hlocks hce hcv hcl (fun t9 e9 a9 => XT_out ht hB.2 (AX_up hA1) hK hS (Or.inl ⟨hB.1.1, by simp [askR, hB.1.2, hpl]⟩) e9 a9) (fun z hz => hS.2.2 z hz) (by decide) (by decide)) (fun t9 tq H1 locs ht hvm hw8 hB hz1 hk1 hS => ?_)
  obtain ⟨hP, hD⟩ := BX_back ht hB (AX_up hA1)
  generalize H1 = H at hP hS ⊢
  obtain ⟨hwt, hz11⟩ := hw8
  rw [hwt] at hP hD
  refine lv_aload_n hx hb d_F_ask_14 rfl (lv_at hl 0 rfl) ?_
  refine g_F_lists hx hb hts hown hK hP mw_175 d_F_ask_15 ?_
  refine lv_iload_n hx hb d_F_ask_18 rfl (lv_at hl 1 rfl) ?_
  refine a_lists hx hb hK hP (r := u) hu hxu d_F_ask_19 ?_
  refine lv_astore (lv' := [(4, .ref (ad (8 + u))), (0, .ref (ad (0))), (1, .int (x)), (2, .int (a)), (3, .int (w))]) hx hb d_F_ask_20 hl (by decide) rfl (fun ls hl => ?_)
  refine lv_aload hx hb d_F_ask_22 (lv_at hl 0 rfl) ?_
  refine g_L_subscriptions hx hb hts hown hK hP hu mw_77 d_F_ask_24 ?_
  refine lv_iload_n hx hb d_F_ask_27 rfl (lv_at hl 3 rfl) ?_
  refine a_subs hx hb hK hP hu (r := a0) ha0 hau d_F_ask_28 ?_
  refine lv_astore (lv' := [(5, .ref (ad (60 + (12 * u + a0)))), (4, .ref (ad (8 + u))), (0, .ref (ad (0))), (1, .int (x)), (2, .int (a)), (3, .int (w))]) hx hb d_F_ask_29 hl (by decide) rfl (fun ls hl => ?_)
  refine lv_aload hx hb d_F_ask_31 (lv_at hl 0 rfl) ?_
  refine g_S_state hx hb hts hown hK hP (by omega) mw_38 d_F_ask_33 ?_
  refine lv_iconst (v := -1) hx hb d_F_ask_36 (by decide) ?_
  refine lv_icmp_eq (tgt := 50) hx hb d_F_ask_37 (by decide) (fun c10 => ?_) (fun c10 => ?_)
  · have _u : True := trivial
    refine lv_aload hx hb d_F_ask_50 (lv_at hl 1 rfl) ?_
    refine g_L_banned hx hb hts hown hK hP hu mw_79 d_F_ask_52 ?_
    refine lv_iload_n hx hb d_F_ask_55 rfl (lv_at hl 4 rfl) ?_
    refine g_ban (u := u) hx hb hK hP hu (r := a0) ha0 hau d_F_ask_56 ?_
    refine lv_if_eq (tgt := 70) hx hb d_F_ask_57 (by decide) (fun c11 => ?_) (fun c11 => ?_)
    · have _u : True := trivial
      refine lv_sipush (v := 1000) hx hb d_F_ask_70 (by decide) ?_
      refine lv_aload_n hx hb d_F_ask_73 rfl (lv_at hl 2 rfl) ?_
      refine g_F_askedBefore hx hb hts hown hK hP mw_179 d_F_ask_74 ?_
      refine lv_imul hx hb d_F_ask_77 ?_
      refine lv_bipush (v := 100) hx hb d_F_ask_78 (by decide) ?_
      refine lv_iload_n hx hb d_F_ask_80 rfl (lv_at hl 3 rfl) ?_
      refine lv_imul hx hb d_F_ask_81 ?_
      refine lv_iadd hx hb d_F_ask_82 ?_
      refine lv_iload_n hx hb d_F_ask_83 rfl (lv_at hl 4 rfl) ?_
      refine lv_iadd hx hb d_F_ask_84 ?_
      refine lv_istore (lv' := [(6, .int (((1000 * (gI t 31 0)) + (100 * x)) + a)), (5, .ref (ad (60 + (12 * u + a0)))), (4, .ref (ad (8 + u))), (0, .ref (ad (0))), (1, .int (x)), (2, .int (a)), (3, .int (w))]) hx hb d_F_ask_85 hl (by decide) rfl (fun ls hl => ?_)
      refine lv_aload_n hx hb d_F_ask_87 rfl (lv_at hl 3 rfl) ?_
      refine lv_dup hx hb d_F_ask_88 rfl ?_
      refine g_F_askedBefore hx hb hts hown hK hP mw_179 d_F_ask_89 ?_
      refine lv_iconst (v := 1) hx hb d_F_ask_92 (by decide) ?_
      refine lv_iadd hx hb d_F_ask_93 ?_
      refine p_F_askedBefore hx hb hts hown hK hP hD hS mw_179 d_F_ask_94 (fun H locs hP hD hS => ?_)
      refine lv_aload hx hb d_F_ask_97 (lv_at hl 1 rfl) ?_
      refine lv_iload_n hx hb d_F_ask_99 rfl (lv_at hl 6 rfl) ?_
      refine lv_iload hx hb d_F_ask_100 (lv_at hl 0 rfl) ?_
      refine lv_aload_n hx hb d_F_ask_102 rfl (lv_at hl 3 rfl) ?_
      refine g_F_today hx hb hts hown hK hP mw_180 d_F_ask_103 ?_
      have hA1 := hS.1
      refine va_callv (va_runV (As := [.int (w), .int (((1000 * (gI t 31 0)) + (100 * x)) + a), .int (gI (pI t 31 0 ((gI t 31 0) + 1)) 32 0)]) (rest := []) ⟨hx, hb, hml, hown, hts⟩ (c_S_begin l D ad ka H.size (pI t 31 0 ((gI t 31 0) + 1)) (12 * u + a0) (by omega) w (((1000 * (gI t 31 0)) + (100 * x)) + a) (gI (pI t 31 0 ((gI t 31 0) + 1)) 32 0)) (cwV 3 hts (gv mw_315 mw_316 mw_317 mw_3 mw_318) rfl rfl rfl (by decide +kernel) ⟨Nat.le_of_ble_eq_true rfl, Nat.le_of_ble_eq_true rfl⟩) ⟨PX_blind, va_recv hK hP (ci := 3) (q0 := 60 + (12 * u + a0)) rfl (at_S (by omega)), fun U hU hW => ⟨rfl, PX_at hU hW hP hK hD⟩⟩ rfl rfl hl.1 rfl (lv_room (Nat.le_of_ble_eq_true rfl)) d_F_ask_106 ⟨Nat.le_of_ble_eq_true rfl, Nat.le_of_ble_eq_true rfl⟩) hS (fun q _ h => AX_up hA1 q h) (AX_up hA1) (fun t14 tq H1 locs ht hvm hw13 hB hz1 hk1 hS => ?_)
      obtain ⟨hP, hD⟩ := BX_back ht hB (AX_up hA1)
      generalize H1 = H at hP hS ⊢
      rw [hw13] at hP hD
      refine lv_aload_n hx hb d_F_ask_109 rfl (lv_at hl 3 rfl) ?_
      refine g_F_outbox hx hb hts hown hK hP mw_177 d_F_ask_110 ?_
      refine lv_iload_n hx hb d_F_ask_113 rfl (lv_at hl 5 rfl) ?_
      refine lv_iload_n hx hb d_F_ask_114 rfl (lv_at hl 4 rfl) ?_
      refine lv_iconst (v := 2) hx hb d_F_ask_115 (by decide) ?_
      refine lv_iconst (v := 0) hx hb d_F_ask_116 (by decide) ?_
      have hA1 := hS.1
      refine va_callv (va_runV (As := [.int (a), .int (x), .int (2), .int (0)]) (rest := []) ⟨hx, hb, hml, hown, hts⟩ (c_O_add l D ad ka H.size (S_begin (pI t 31 0 ((gI t 31 0) + 1)) (12 * u + a0) w (((1000 * (gI t 31 0)) + (100 * x)) + a) (gI (pI t 31 0 ((gI t 31 0) + 1)) 32 0)) (OKX_begin (OKX_f ho (by decide))) a x 2 0) (cwV 4 hts (gv mw_319 mw_320 mw_321 mw_5 mw_322) rfl rfl rfl (by decide +kernel) ⟨Nat.le_of_ble_eq_true rfl, Nat.le_of_ble_eq_true rfl⟩) ⟨PX_blind, va_recv hK hP (ci := 1) (q0 := 3) rfl (at_O), fun U hU hW => ⟨rfl, PX_at hU hW hP hK hD⟩⟩ rfl rfl hl.1 rfl (lv_room (Nat.le_of_ble_eq_true rfl)) d_F_ask_117 ⟨Nat.le_of_ble_eq_true rfl, Nat.le_of_ble_eq_true rfl⟩) hS (fun q _ h => AX_up hA1 q h) (AX_up hA1) (fun t17 tq H1 locs ht hvm hw16 hB hz1 hk1 hS => ?_)
      obtain ⟨hP, hD⟩ := BX_back ht hB (AX_up hA1)
      generalize H1 = H at hP hS ⊢
      rw [hw16] at hP hD
      refine lv_iload hx hb d_F_ask_120 (lv_at hl 0 rfl) ?_
      refine vx_ret (W.widen (k := 3) (n := 18) (by decide) (by decide) ?_)
      exact W.iret (v := ((1000 * (gI t 31 0)) + (100 * x)) + a) hx hb hr (fun t9 ht hW => ⟨⟨((1000 * (gI t 31 0)) + (100 * x)) + a, (O_add (S_begin (pI t 31 0 ((gI t 31 0) + 1)) (12 * u + a0) w (((1000 * (gI t 31 0)) + (100 * x)) + a) (gI (pI t 31 0 ((gI t 31 0) + 1)) 32 0)) a x 2 0), rfl, (by simp [askR, gI_pI, gI_pD, gD_pI, gD_pD, hpl, hj, hcx, hca, askC, hz11, c10, c11]), BX_at ht hW hP hK hD⟩, hS.F ht⟩) hS.2.2 d_F_ask_122
    · have _u : True := trivial
      exact vx_throwS (names := RTE) (own := "ListForge") (cls := e_UOE) (text := "the address is banned") hx hb hl0 hown (by decide) (by decide) (bg hts mw_299) (bg hts mw_12) (hZ.2.2.2 (67, "the address is banned") (by decide)) (hatO hts hZ.1 ag_UOE an_UOE) ao_UOE hZ.2.1 hZ.2.2.1 hS (by rw [hml]; exact hl.1) d_F_ask_60 d_F_ask_63 d_F_ask_64 d_F_ask_66 d_F_ask_69 (fun x hx9 => (hTb x hx9).elim) (by decide) (Nat.le_of_ble_eq_true rfl) (by decide) (by decide) hlocks (fun t9 a9 z9 k9 => XT_at hP hK hD hS (Or.inr (Or.inr ⟨rfl, by simp [askR, gI_pI, gI_pD, gD_pI, gD_pD, hpl, hj, hcx, hca, askC, hz11, c10, c11]⟩)) a9 z9 k9) (fun z hz => hS.2.2 z hz) (by decide) (by decide)
  · have _u : True := trivial
    exact vx_throwS (names := RTE) (own := "ListForge") (cls := e_ISE) (text := "there is a subscription") hx hb hl0 hown (by decide) (by decide) (bg hts mw_283) (bg hts mw_11) (hZ.2.2.2 (56, "there is a subscription") (by decide)) (hatO hts hZ.1 ag_ISE an_ISE) ao_ISE hZ.2.1 hZ.2.2.1 hS (by rw [hml]; exact hl.1) d_F_ask_40 d_F_ask_43 d_F_ask_44 d_F_ask_46 d_F_ask_49 (fun x hx9 => (hTb x hx9).elim) (by decide) (Nat.le_of_ble_eq_true rfl) (by decide) (by decide) hlocks (fun t9 a9 z9 k9 => XT_at hP hK hD hS (Or.inr (Or.inl ⟨rfl, by simp [askR, gI_pI, gI_pD, gD_pI, gD_pD, hpl, hj, hcx, hca, askC, hz11, c10]⟩)) a9 z9 k9) (fun z hz => hS.2.2 z hz) (by decide) (by decide)
set_option maxHeartbeats 4000000 in
set_option maxRecDepth 100000 in
theorem c_F_renew (l : Launch) (hl0 : l.stackTraces = false) (D : va_G) (ad : Nat → Nat) (ka : Nat → ClassId) (sa : Nat → Nat) (sz : Nat) (t : Mem) (x a : Int32) : vx_Met l y_F_renew (Cond.code y_F_renew b_F_renew 5 (some .int) :: big) ({ frames := 9, cells := 3, slots := 18, locals := 146 }) (va_Pc [.ref (ad (0)), .int (x), .int (a)] (PZ D ad ka sa sz t)) (va_Qi (fun (r : Int32) (t' : Mem) => renewR t x a = (0, r, t')) (BX D ad ka sz) (AX ad sz)) (XT D ad ka sz t (fun E => (E = e_IAE ∧ (renewR t x a).1 = 1) ∨ (E = e_NSE ∧ (renewR t x a).1 = 2) ∨ (E = e_ISE ∧ (renewR t x a).1 = 3))) 3 18 (AX ad sz) := by
  refine vx_ofW (cc := b_F_renew) (maxL := 5) (ret := (some .int)) (by decide) rfl ?_
  intro p e s m args below meth c s₁ B hml hTb hv
  obtain ⟨rfl, ⟨hsz, hP, hK, hD0⟩, hZ⟩ := hv
  have hx := B.exec
  have hb := B.bytes
  have hr := B.returns
  have hlocks := B.notSynchronized
  have hts := atoms_spec (ws := Cond.code y_F_renew b_F_renew 5 (some .int) :: big) B.pre
  have hown : s.vm.findClass "ListForge" = some m.cls := findClass_of_methodNamed B.named
  subst hsz
  have hD : va_D (AX ad s.heap.size) (cw ad ka t) := AX_D hD0
  have hS : va_S (AX ad s.heap.size) s.heap s.heap [] := va_S.rf
  have hl := lv_entry ([.ref (ad (0)), .int (x), .int (a)]) (n := 5) (Nat.le_of_ble_eq_true rfl)
  rw [lg_entry_eq]
  generalize (lg_sl ([.ref (ad (0)), .int (x), .int (a)]) ++ List.replicate (5 - (lg_sl ([.ref (ad (0)), .int (x), .int (a)])).length) Slot.unset).toArray = ls at hl ⊢
  have hl : lv_has ls 5 [(0, .ref (ad (0))), (1, .int (x)), (2, .int (a))] := hl

  refine lv_aload_n hx hb d_F_renew_0 rfl (lv_at hl 0 rfl) ?_
  refine lv_iload_n hx hb d_F_renew_1 rfl (lv_at hl 1 rfl) ?_
  refine lv_iload_n hx hb d_F_renew_2 rfl (lv_at hl 2 rfl) ?_
  have hA1 := hS.1
  refine vx_callr (vx_runV (As := [.int (x), .int (a)]) (rest := []) ⟨hx, hb, hml, hown, hts⟩ (c_F_existing l hl0 D ad ka sa s.heap.size t x a) (cwV 2 hts (gv mw_358 mw_360 (big_sel (i := 1) (by decide +kernel) (by decide +kernel)) mw_1 mw_361) rfl rfl rfl (by decide +kernel) ⟨Nat.le_of_ble_eq_true rfl, Nat.le_of_ble_eq_true rfl⟩) ⟨PZ_blind, va_recv hK hP (ci := 4) (q0 := 0) rfl (at_F), fun U hU hW => ⟨rfl, PX_at hU hW hP hK hD, ZX_at hU hW hZ hS⟩⟩ rfl rfl hl.1 rfl (lv_room (Nat.le_of_ble_eq_true rfl)) d_F_renew_3 ⟨Nat.le_of_ble_eq_true rfl, Nat.le_of_ble_eq_true rfl⟩) hS (fun q _ h => AX_up hA1 q h) (AX_up hA1) (fun q _ h => AX_up hA1 q h) (fun E ce q9 _ tq H1 locs ht hvm _ hB hz1 hk1 hS hce hcv hcl => vx_out (fun x hx9 => (hTb x hx9).elim) hlocks hce hcv hcl (fun t9 e9 a9 => XT_out ht hB.2 (AX_up hA1) hK hS (hB.1.elim (fun h => Or.inl ⟨h.1, by simp [renewR, h.2]⟩) (fun h => (Or.inr (Or.inl ⟨h.1, by simp [renewR, h.2.1, h.2.2]⟩)))) e9 a9) (fun z hz => hS.2.2 z hz) (by decide) (by decide)) (fun t3 r1 tq H1 locs ht hvm hw2 hB hz1 hk1 hS => ?_)
  obtain ⟨hra, hB⟩ := hB
  obtain ⟨hP, hD⟩ := BX_back ht hB (AX_up hA1)
  generalize H1 = H at hP hS ⊢
  obtain ⟨u, a0⟩ := t3
  have hu : u < 3 := hw2.1
  have ha0 : a0 < 12 := hw2.2.1
  have hxu : x = nI u := hw2.2.2.1
  have hau : a = nI a0 := hw2.2.2.2.1
  have hpl : ¬ plz x a = 0 := hw2.2.2.2.2.1
  have hst : ¬ gI t 0 (12 * u + a0) = -1 := hw2.2.2.2.2.2
  have hcx : cl x = u := cl_of hxu (by omega)
  have hca : cl a = a0 := cl_of hau (by omega)
  have hj : jj x a = 12 * u + a0 := by rw [jj, hcx, hca]
  have hra2 : r1 = ad (60 + (12 * u + a0)) := hra
  rw [hra2]
  refine lv_astore_n (lv' := [(3, .ref (ad (60 + (12 * u + a0)))), (0, .ref (ad (0))), (1, .int (x)), (2, .int (a))]) hx hb d_F_renew_6 rfl hl (by decide) rfl (fun ls hl => ?_)
  refine lv_aload_n hx hb d_F_renew_7 rfl (lv_at hl 0 rfl) ?_
  refine g_S_state hx hb hts hown hK hP (by omega) mw_38 d_F_renew_8 ?_
  refine lv_iconst (v := 2) hx hb d_F_renew_11 (by decide) ?_
  refine lv_icmp_eq (tgt := 25) hx hb d_F_renew_12 (by decide) (fun c4 => ?_) (fun c4 => ?_)
  · have _u : True := trivial
    refine lv_aload_n hx hb d_F_renew_25 rfl (lv_at hl 0 rfl) ?_
    refine g_S_warning hx hb hts hown hK hP (by omega) mw_48 d_F_renew_26 ?_
    refine lv_istore (lv' := [(4, .int (gI t 4 (12 * u + a0))), (3, .ref (ad (60 + (12 * u + a0)))), (0, .ref (ad (0))), (1, .int (x)), (2, .int (a))]) hx hb d_F_renew_29 hl (by decide) rfl (fun ls hl => ?_)
    refine lv_aload_n hx hb d_F_renew_31 rfl (lv_at hl 1 rfl) ?_
    refine lv_aload_n hx hb d_F_renew_32 rfl (lv_at hl 2 rfl) ?_
    refine g_F_today hx hb hts hown hK hP mw_180 d_F_renew_33 ?_
    have hA1 := hS.1
    refine va_callv (va_runV (As := [.int (gI t 32 0)]) (rest := []) ⟨hx, hb, hml, hown, hts⟩ (c_S_becomeLive l D ad ka H.size t (12 * u + a0) (by omega) (gI t 32 0)) (cwV 1 hts (gv mw_331 mw_332 mw_333 mw_3 mw_334) rfl rfl rfl (by decide +kernel) ⟨Nat.le_of_ble_eq_true rfl, Nat.le_of_ble_eq_true rfl⟩) ⟨PX_blind, va_recv hK hP (ci := 3) (q0 := 60 + (12 * u + a0)) rfl (at_S (by omega)), fun U hU hW => ⟨rfl, PX_at hU hW hP hK hD⟩⟩ rfl rfl hl.1 rfl (lv_room (Nat.le_of_ble_eq_true rfl)) d_F_renew_36 ⟨Nat.le_of_ble_eq_true rfl, Nat.le_of_ble_eq_true rfl⟩) hS (fun q _ h => AX_up hA1 q h) (AX_up hA1) (fun t7 tq H1 locs ht hvm hw6 hB hz1 hk1 hS => ?_)
    obtain ⟨hP, hD⟩ := BX_back ht hB (AX_up hA1)
    generalize H1 = H at hP hS ⊢
    rw [hw6] at hP hD
    refine lv_iload hx hb d_F_renew_39 (lv_at hl 0 rfl) ?_
    refine vx_ret (W.widen (k := 3) (n := 18) (by decide) (by decide) ?_)
    exact W.iret (v := gI t 4 (12 * u + a0)) hx hb hr (fun t9 ht hW => ⟨⟨gI t 4 (12 * u + a0), (S_becomeLive t (12 * u + a0) (gI t 32 0)), rfl, (by simp [renewR, gI_pI, gI_pD, gD_pI, gD_pD, hpl, hj, hcx, hca, c4, hst]), BX_at ht hW hP hK hD⟩, hS.F ht⟩) hS.2.2 d_F_renew_41
  · have _u : True := trivial
    exact vx_throwS (names := RTE) (own := "ListForge") (cls := e_ISE) (text := "the subscription is not stopped") hx hb hl0 hown (by decide) (by decide) (bg hts mw_283) (bg hts mw_11) (hZ.2.2.2 (196, "the subscription is not stopped") (by decide)) (hatO hts hZ.1 ag_ISE an_ISE) ao_ISE hZ.2.1 hZ.2.2.1 hS (by rw [hml]; exact hl.1) d_F_renew_15 d_F_renew_18 d_F_renew_19 d_F_renew_21 d_F_renew_24 (fun x hx9 => (hTb x hx9).elim) (by decide) (Nat.le_of_ble_eq_true rfl) (by decide) (by decide) hlocks (fun t9 a9 z9 k9 => XT_at hP hK hD hS (Or.inr (Or.inr ⟨rfl, by simp [renewR, gI_pI, gI_pD, gD_pI, gD_pD, hpl, hj, hcx, hca, c4, hst]⟩)) a9 z9 k9) (fun z hz => hS.2.2 z hz) (by decide) (by decide)
set_option maxHeartbeats 4000000 in
set_option maxRecDepth 100000 in
theorem c_F_score (l : Launch) (hl0 : l.stackTraces = false) (D : va_G) (ad : Nat → Nat) (ka : Nat → ClassId) (sa : Nat → Nat) (sz : Nat) (t : Mem) (x a : Int32) : vx_Met l y_F_score (Cond.code y_F_score b_F_score 3 (some .double) :: big) ({ frames := 9, cells := 2, slots := 12, locals := 146 }) (va_Pc [.ref (ad (0)), .int (x), .int (a)] (PZ D ad ka sa sz t)) (va_Qd (fun (r : UInt64) (t' : Mem) => scoreR t x a = (0, r, t')) (BX D ad ka sz) (AX ad sz)) (XT D ad ka sz t (fun E => (E = e_IAE ∧ (scoreR t x a).1 = 1) ∨ (E = e_NSE ∧ (scoreR t x a).1 = 2))) 2 12 (AX ad sz) := by
  refine vx_ofW (cc := b_F_score) (maxL := 3) (ret := (some .double)) (by decide) rfl ?_
  intro p e s m args below meth c s₁ B hml hTb hv
  obtain ⟨rfl, ⟨hsz, hP, hK, hD0⟩, hZ⟩ := hv
  have hx := B.exec
  have hb := B.bytes
  have hr := B.returns
  have hlocks := B.notSynchronized
  have hts := atoms_spec (ws := Cond.code y_F_score b_F_score 3 (some .double) :: big) B.pre
  have hown : s.vm.findClass "ListForge" = some m.cls := findClass_of_methodNamed B.named
  subst hsz
  have hD : va_D (AX ad s.heap.size) (cw ad ka t) := AX_D hD0
  have hS : va_S (AX ad s.heap.size) s.heap s.heap [] := va_S.rf
  have hl := lv_entry ([.ref (ad (0)), .int (x), .int (a)]) (n := 3) (Nat.le_of_ble_eq_true rfl)
  rw [lg_entry_eq]
  generalize (lg_sl ([.ref (ad (0)), .int (x), .int (a)]) ++ List.replicate (3 - (lg_sl ([.ref (ad (0)), .int (x), .int (a)])).length) Slot.unset).toArray = ls at hl ⊢
  have hl : lv_has ls 3 [(0, .ref (ad (0))), (1, .int (x)), (2, .int (a))] := hl

  refine lv_aload_n hx hb d_F_score_0 rfl (lv_at hl 0 rfl) ?_
  refine lv_iload_n hx hb d_F_score_1 rfl (lv_at hl 1 rfl) ?_
  refine lv_iload_n hx hb d_F_score_2 rfl (lv_at hl 2 rfl) ?_
  have hA1 := hS.1
  refine vx_callr (vx_runV (As := [.int (x), .int (a)]) (rest := []) ⟨hx, hb, hml, hown, hts⟩ (c_F_existing l hl0 D ad ka sa s.heap.size t x a) (cwV 2 hts (gv mw_358 mw_360 (big_sel (i := 1) (by decide +kernel) (by decide +kernel)) mw_1 mw_361) rfl rfl rfl (by decide +kernel) ⟨Nat.le_of_ble_eq_true rfl, Nat.le_of_ble_eq_true rfl⟩) ⟨PZ_blind, va_recv hK hP (ci := 4) (q0 := 0) rfl (at_F), fun U hU hW => ⟨rfl, PX_at hU hW hP hK hD, ZX_at hU hW hZ hS⟩⟩ rfl rfl hl.1 rfl (lv_room (Nat.le_of_ble_eq_true rfl)) d_F_score_3 ⟨Nat.le_of_ble_eq_true rfl, Nat.le_of_ble_eq_true rfl⟩) hS (fun q _ h => AX_up hA1 q h) (AX_up hA1) (fun q _ h => AX_up hA1 q h) (fun E ce q9 _ tq H1 locs ht hvm _ hB hz1 hk1 hS hce hcv hcl => vx_out (fun x hx9 => (hTb x hx9).elim) hlocks hce hcv hcl (fun t9 e9 a9 => XT_out ht hB.2 (AX_up hA1) hK hS (hB.1.elim (fun h => Or.inl ⟨h.1, by simp [scoreR, h.2]⟩) (fun h => (Or.inr ⟨h.1, by simp [scoreR, h.2.1, h.2.2]⟩))) e9 a9) (fun z hz => hS.2.2 z hz) (by decide) (by decide)) (fun t3 r1 tq H1 locs ht hvm hw2 hB hz1 hk1 hS => ?_)
  obtain ⟨hra, hB⟩ := hB
  obtain ⟨hP, hD⟩ := BX_back ht hB (AX_up hA1)
  generalize H1 = H at hP hS ⊢
  obtain ⟨u, a0⟩ := t3
  have hu : u < 3 := hw2.1
  have ha0 : a0 < 12 := hw2.2.1
  have hxu : x = nI u := hw2.2.2.1
  have hau : a = nI a0 := hw2.2.2.2.1
  have hpl : ¬ plz x a = 0 := hw2.2.2.2.2.1
  have hst : ¬ gI t 0 (12 * u + a0) = -1 := hw2.2.2.2.2.2
  have hcx : cl x = u := cl_of hxu (by omega)
  have hca : cl a = a0 := cl_of hau (by omega)
  have hj : jj x a = 12 * u + a0 := by rw [jj, hcx, hca]
  have hra2 : r1 = ad (60 + (12 * u + a0)) := hra
  rw [hra2]
  refine g_S_score hx hb hts hown hK hP (by omega) mw_56 d_F_score_6 ?_
  refine vx_ret (W.widen (k := 2) (n := 12) (by decide) (by decide) ?_)
  exact W.dret (v := gD t 0 (12 * u + a0)) hx hb hr (fun t9 ht hW => ⟨⟨gD t 0 (12 * u + a0), t, rfl, (by simp [scoreR, gI_pI, gI_pD, gD_pI, gD_pD, hpl, hj, hcx, hca, hst]), BX_at ht hW hP hK hD⟩, hS.F ht⟩) hS.2.2 d_F_score_9
set_option maxHeartbeats 4000000 in
set_option maxRecDepth 100000 in
theorem c_F_bounce (l : Launch) (hl0 : l.stackTraces = false) (D : va_G) (ad : Nat → Nat) (ka : Nat → ClassId) (sa : Nat → Nat) (sz : Nat) (t : Mem) (ho : OKX t) (x a h : Int32) : vx_Met l y_F_bounce (Cond.code y_F_bounce b_F_bounce 5 (some .double) :: big) ({ frames := 9, cells := 3, slots := 18, locals := 146 }) (va_Pc [.ref (ad (0)), .int (x), .int (a), .int (h)] (PZ D ad ka sa sz t)) (va_Qd (fun (r : UInt64) (t' : Mem) => bncR t x a h = (0, r, t')) (BX D ad ka sz) (AX ad sz)) (XT D ad ka sz t (fun E => (E = e_IAE ∧ (bncR t x a h).1 = 1) ∨ (E = e_NSE ∧ (bncR t x a h).1 = 2) ∨ (E = e_ISE ∧ (bncR t x a h).1 = 3))) 3 18 (AX ad sz) := by
  refine vx_ofW (cc := b_F_bounce) (maxL := 5) (ret := (some .double)) (by decide) rfl ?_
  intro p e s m args below meth c s₁ B hml hTb hv
  obtain ⟨rfl, ⟨hsz, hP, hK, hD0⟩, hZ⟩ := hv
  have hx := B.exec
  have hb := B.bytes
  have hr := B.returns
  have hlocks := B.notSynchronized
  have hts := atoms_spec (ws := Cond.code y_F_bounce b_F_bounce 5 (some .double) :: big) B.pre
  have hown : s.vm.findClass "ListForge" = some m.cls := findClass_of_methodNamed B.named
  subst hsz
  have hD : va_D (AX ad s.heap.size) (cw ad ka t) := AX_D hD0
  have hS : va_S (AX ad s.heap.size) s.heap s.heap [] := va_S.rf
  have hl := lv_entry ([.ref (ad (0)), .int (x), .int (a), .int (h)]) (n := 5) (Nat.le_of_ble_eq_true rfl)
  rw [lg_entry_eq]
  generalize (lg_sl ([.ref (ad (0)), .int (x), .int (a), .int (h)]) ++ List.replicate (5 - (lg_sl ([.ref (ad (0)), .int (x), .int (a), .int (h)])).length) Slot.unset).toArray = ls at hl ⊢
  have hl : lv_has ls 5 [(0, .ref (ad (0))), (1, .int (x)), (2, .int (a)), (3, .int (h))] := hl

  refine lv_aload_n hx hb d_F_bounce_0 rfl (lv_at hl 0 rfl) ?_
  refine lv_iload_n hx hb d_F_bounce_1 rfl (lv_at hl 1 rfl) ?_
  refine lv_iload_n hx hb d_F_bounce_2 rfl (lv_at hl 2 rfl) ?_
  have hA1 := hS.1
  refine vx_callr (vx_runV (As := [.int (x), .int (a)]) (rest := []) ⟨hx, hb, hml, hown, hts⟩ (c_F_existing l hl0 D ad ka sa s.heap.size t x a) (cwV 2 hts (gv mw_358 mw_360 (big_sel (i := 1) (by decide +kernel) (by decide +kernel)) mw_1 mw_361) rfl rfl rfl (by decide +kernel) ⟨Nat.le_of_ble_eq_true rfl, Nat.le_of_ble_eq_true rfl⟩) ⟨PZ_blind, va_recv hK hP (ci := 4) (q0 := 0) rfl (at_F), fun U hU hW => ⟨rfl, PX_at hU hW hP hK hD, ZX_at hU hW hZ hS⟩⟩ rfl rfl hl.1 rfl (lv_room (Nat.le_of_ble_eq_true rfl)) d_F_bounce_3 ⟨Nat.le_of_ble_eq_true rfl, Nat.le_of_ble_eq_true rfl⟩) hS (fun q _ h => AX_up hA1 q h) (AX_up hA1) (fun q _ h => AX_up hA1 q h) (fun E ce q9 _ tq H1 locs ht hvm _ hB hz1 hk1 hS hce hcv hcl => vx_out (fun x hx9 => (hTb x hx9).elim) hlocks hce hcv hcl (fun t9 e9 a9 => XT_out ht hB.2 (AX_up hA1) hK hS (hB.1.elim (fun h => Or.inl ⟨h.1, by simp [bncR, h.2]⟩) (fun h => (Or.inr (Or.inl ⟨h.1, by simp [bncR, h.2.1, h.2.2]⟩)))) e9 a9) (fun z hz => hS.2.2 z hz) (by decide) (by decide)) (fun t3 r1 tq H1 locs ht hvm hw2 hB hz1 hk1 hS => ?_)
  obtain ⟨hra, hB⟩ := hB
  obtain ⟨hP, hD⟩ := BX_back ht hB (AX_up hA1)
  generalize H1 = H at hP hS ⊢
  obtain ⟨u, a0⟩ := t3
  have hu : u < 3 := hw2.1
  have ha0 : a0 < 12 := hw2.2.1
  have hxu : x = nI u := hw2.2.2.1
  have hau : a = nI a0 := hw2.2.2.2.1
  have hpl : ¬ plz x a = 0 := hw2.2.2.2.2.1
  have hst : ¬ gI t 0 (12 * u + a0) = -1 := hw2.2.2.2.2.2
  have hcx : cl x = u := cl_of hxu (by omega)
  have hca : cl a = a0 := cl_of hau (by omega)
  have hj : jj x a = 12 * u + a0 := by rw [jj, hcx, hca]
  have hra2 : r1 = ad (60 + (12 * u + a0)) := hra
  rw [hra2]
  refine lv_astore (lv' := [(4, .ref (ad (60 + (12 * u + a0)))), (0, .ref (ad (0))), (1, .int (x)), (2, .int (a)), (3, .int (h))]) hx hb d_F_bounce_6 hl (by decide) rfl (fun ls hl => ?_)
  refine lv_aload hx hb d_F_bounce_8 (lv_at hl 0 rfl) ?_
  refine g_S_state hx hb hts hown hK hP (by omega) mw_38 d_F_bounce_10 ?_
  refine lv_iconst (v := 1) hx hb d_F_bounce_13 (by decide) ?_
  refine lv_icmp_eq (tgt := 27) hx hb d_F_bounce_14 (by decide) (fun c4 => ?_) (fun c4 => ?_)
  · have _u : True := trivial
    refine lv_aload hx hb d_F_bounce_27 (lv_at hl 0 rfl) ?_
    refine g_S_bounceDay hx hb hts hown hK hP (by omega) mw_51 d_F_bounce_29 ?_
    refine lv_aload_n hx hb d_F_bounce_32 rfl (lv_at hl 1 rfl) ?_
    refine g_F_today hx hb hts hown hK hP mw_180 d_F_bounce_33 ?_
    refine lv_icmp_eq (tgt := 111) hx hb d_F_bounce_36 (by decide) (fun c5 => ?_) (fun c5 => ?_)
    · have _u : True := trivial
      refine lv_aload hx hb d_F_bounce_111 (lv_at hl 0 rfl) ?_
      refine g_S_score hx hb hts hown hK hP (by omega) mw_56 d_F_bounce_113 ?_
      refine vx_ret (W.widen (k := 3) (n := 18) (by decide) (by decide) ?_)
      exact W.dret (v := gD t 0 (12 * u + a0)) hx hb hr (fun t9 ht hW => ⟨⟨gD t 0 (12 * u + a0), t, rfl, (by (try simp [gI_pI, gI_pD, gD_pI, gD_pD, gD_add] at c4); (try simp [gI_pI, gI_pD, gD_pI, gD_pD, gD_add] at c5); first | (simp [bncR, gI_pI, gI_pD, gD_pI, gD_pD, hpl, hj, hcx, hca, bncV, bncT, gD_add, S_stop, c4, c5, hst]; done) | (simp [bncR, gI_pI, gI_pD, gD_pI, gD_pD, hpl, hj, hcx, hca, bncV, bncT, gD_add, S_stop, c4, c5, hst]; intro q9; exact absurd q9 (Int32.not_lt.mpr c5))), BX_at ht hW hP hK hD⟩, hS.F ht⟩) hS.2.2 d_F_bounce_116
    · have _u : True := trivial
      refine lv_aload hx hb d_F_bounce_39 (lv_at hl 0 rfl) ?_
      refine lv_aload_n hx hb d_F_bounce_41 rfl (lv_at hl 1 rfl) ?_
      refine g_F_today hx hb hts hown hK hP mw_180 d_F_bounce_42 ?_
      refine p_S_bounceDay hx hb hts hown hK hP hD hS (by omega) mw_51 d_F_bounce_45 (fun H locs hP hD hS => ?_)
      refine lv_aload hx hb d_F_bounce_48 (lv_at hl 0 rfl) ?_
      refine lv_dup hx hb d_F_bounce_50 rfl ?_
      refine g_S_score hx hb hts hown hK hP (by omega) mw_56 d_F_bounce_51 ?_
      refine lv_iload_n hx hb d_F_bounce_54 rfl (lv_at hl 4 rfl) ?_
      refine lv_if_eq (tgt := 62) hx hb d_F_bounce_55 (by decide) (fun c6 => ?_) (fun c6 => ?_)
      · have _u : True := trivial
        refine lv_ldc2d (own := "ListForge") (v := 4602678819172646912) hx hb hown (bg hts mw_412) d_F_bounce_62 ?_
        refine lv_dadd hx hb d_F_bounce_65 (NN_nan (NN_add (OKX_NN ho _) NN_h)) ?_
        refine p_S_score hx hb hts hown hK hP hD hS (by omega) mw_56 d_F_bounce_66 (fun H locs hP hD hS => ?_)
        refine lv_aload hx hb d_F_bounce_69 (lv_at hl 0 rfl) ?_
        refine g_S_score hx hb hts hown hK hP (by omega) mw_56 d_F_bounce_71 ?_
        refine lv_aload_n hx hb d_F_bounce_74 rfl (lv_at hl 1 rfl) ?_
        refine g_F_lists hx hb hts hown hK hP mw_175 d_F_bounce_75 ?_
        refine lv_iload_n hx hb d_F_bounce_78 rfl (lv_at hl 2 rfl) ?_
        refine a_lists hx hb hK hP (r := u) hu hxu d_F_bounce_79 ?_
        refine g_L_best hx hb hts hown hK hP hu mw_86 d_F_bounce_80 ?_
        refine lv_dcmp hx hb d_F_bounce_83 ?_
        refine lv_if_lt (tgt := 111) hx hb d_F_bounce_84 (by decide) (fun c7 => ?_) (fun c7 => ?_)
        · have _u : True := trivial
          refine lv_aload hx hb d_F_bounce_111 (lv_at hl 0 rfl) ?_
          refine g_S_score hx hb hts hown hK hP (by omega) mw_56 d_F_bounce_113 ?_
          refine vx_ret (W.widen (k := 3) (n := 18) (by decide) (by decide) ?_)
          exact W.dret (v := gD (pD (pI t 5 (12 * u + a0) (gI t 32 0)) 0 (12 * u + a0) (FP.dadd (gD (pI t 5 (12 * u + a0) (gI t 32 0)) 0 (12 * u + a0)) 4602678819172646912)) 0 (12 * u + a0)) hx hb hr (fun t9 ht hW => ⟨⟨gD (pD (pI t 5 (12 * u + a0) (gI t 32 0)) 0 (12 * u + a0) (FP.dadd (gD (pI t 5 (12 * u + a0) (gI t 32 0)) 0 (12 * u + a0)) 4602678819172646912)) 0 (12 * u + a0), (pD (pI t 5 (12 * u + a0) (gI t 32 0)) 0 (12 * u + a0) (FP.dadd (gD (pI t 5 (12 * u + a0) (gI t 32 0)) 0 (12 * u + a0)) 4602678819172646912)), rfl, (by (try simp [gI_pI, gI_pD, gD_pI, gD_pD, gD_add] at c4); (try simp [gI_pI, gI_pD, gD_pI, gD_pD, gD_add] at c5); (try simp [gI_pI, gI_pD, gD_pI, gD_pD, gD_add] at c6); (try simp [gI_pI, gI_pD, gD_pI, gD_pD, gD_add] at c7); first | (simp [bncR, gI_pI, gI_pD, gD_pI, gD_pD, hpl, hj, hcx, hca, bncV, bncT, gD_add, S_stop, c4, c5, c6, c7, hst]; done) | (simp [bncR, gI_pI, gI_pD, gD_pI, gD_pD, hpl, hj, hcx, hca, bncV, bncT, gD_add, S_stop, c4, c5, c6, c7, hst]; intro q9; exact absurd q9 (Int32.not_lt.mpr c7))), BX_at ht hW hP hK hD⟩, hS.F ht⟩) hS.2.2 d_F_bounce_116
        · have _u : True := trivial
          refine lv_aload hx hb d_F_bounce_87 (lv_at hl 0 rfl) ?_
          refine lv_aload_n hx hb d_F_bounce_89 rfl (lv_at hl 1 rfl) ?_
          refine g_F_today hx hb hts hown hK hP mw_180 d_F_bounce_90 ?_
          have hA1 := hS.1
          refine va_callv (va_runV (As := [.int (gI (pD (pI t 5 (12 * u + a0) (gI t 32 0)) 0 (12 * u + a0) (FP.dadd (gD (pI t 5 (12 * u + a0) (gI t 32 0)) 0 (12 * u + a0)) 4602678819172646912)) 32 0)]) (rest := []) ⟨hx, hb, hml, hown, hts⟩ (c_S_stop l D ad ka H.size (pD (pI t 5 (12 * u + a0) (gI t 32 0)) 0 (12 * u + a0) (FP.dadd (gD (pI t 5 (12 * u + a0) (gI t 32 0)) 0 (12 * u + a0)) 4602678819172646912)) (12 * u + a0) (by omega) (gI (pD (pI t 5 (12 * u + a0) (gI t 32 0)) 0 (12 * u + a0) (FP.dadd (gD (pI t 5 (12 * u + a0) (gI t 32 0)) 0 (12 * u + a0)) 4602678819172646912)) 32 0)) (cwV 1 hts (gv mw_489 mw_490 mw_491 mw_3 mw_492) rfl rfl rfl (by decide +kernel) ⟨Nat.le_of_ble_eq_true rfl, Nat.le_of_ble_eq_true rfl⟩) ⟨PX_blind, va_recv hK hP (ci := 3) (q0 := 60 + (12 * u + a0)) rfl (at_S (by omega)), fun U hU hW => ⟨rfl, PX_at hU hW hP hK hD⟩⟩ rfl rfl hl.1 rfl (lv_room (Nat.le_of_ble_eq_true rfl)) d_F_bounce_93 ⟨Nat.le_of_ble_eq_true rfl, Nat.le_of_ble_eq_true rfl⟩) hS (fun q _ h => AX_up hA1 q h) (AX_up hA1) (fun t10 tq H1 locs ht hvm hw9 hB hz1 hk1 hS => ?_)
          obtain ⟨hP, hD⟩ := BX_back ht hB (AX_up hA1)
          generalize H1 = H at hP hS ⊢
          rw [hw9] at hP hD
          refine lv_aload_n hx hb d_F_bounce_96 rfl (lv_at hl 1 rfl) ?_
          refine g_F_outbox hx hb hts hown hK hP mw_177 d_F_bounce_97 ?_
          refine lv_iload_n hx hb d_F_bounce_100 rfl (lv_at hl 3 rfl) ?_
          refine lv_iload_n hx hb d_F_bounce_101 rfl (lv_at hl 2 rfl) ?_
          refine lv_iconst (v := 5) hx hb d_F_bounce_102 (by decide) ?_
          refine lv_aload hx hb d_F_bounce_103 (lv_at hl 0 rfl) ?_
          refine g_S_warning hx hb hts hown hK hP (by omega) mw_48 d_F_bounce_105 ?_
          have hA1 := hS.1
          refine va_callv (va_runV (As := [.int (a), .int (x), .int (5), .int (gI (S_stop (pD (pI t 5 (12 * u + a0) (gI t 32 0)) 0 (12 * u + a0) (FP.dadd (gD (pI t 5 (12 * u + a0) (gI t 32 0)) 0 (12 * u + a0)) 4602678819172646912)) (12 * u + a0) (gI (pD (pI t 5 (12 * u + a0) (gI t 32 0)) 0 (12 * u + a0) (FP.dadd (gD (pI t 5 (12 * u + a0) (gI t 32 0)) 0 (12 * u + a0)) 4602678819172646912)) 32 0)) 4 (12 * u + a0))]) (rest := []) ⟨hx, hb, hml, hown, hts⟩ (c_O_add l D ad ka H.size (S_stop (pD (pI t 5 (12 * u + a0) (gI t 32 0)) 0 (12 * u + a0) (FP.dadd (gD (pI t 5 (12 * u + a0) (gI t 32 0)) 0 (12 * u + a0)) 4602678819172646912)) (12 * u + a0) (gI (pD (pI t 5 (12 * u + a0) (gI t 32 0)) 0 (12 * u + a0) (FP.dadd (gD (pI t 5 (12 * u + a0) (gI t 32 0)) 0 (12 * u + a0)) 4602678819172646912)) 32 0)) (OKX_stop (OKX_pD (OKX_f ho (by decide)) (fun _ => NN_add (OKX_NN ho _) NN_h))) a x 5 (gI (S_stop (pD (pI t 5 (12 * u + a0) (gI t 32 0)) 0 (12 * u + a0) (FP.dadd (gD (pI t 5 (12 * u + a0) (gI t 32 0)) 0 (12 * u + a0)) 4602678819172646912)) (12 * u + a0) (gI (pD (pI t 5 (12 * u + a0) (gI t 32 0)) 0 (12 * u + a0) (FP.dadd (gD (pI t 5 (12 * u + a0) (gI t 32 0)) 0 (12 * u + a0)) 4602678819172646912)) 32 0)) 4 (12 * u + a0))) (cwV 4 hts (gv mw_319 mw_320 mw_321 mw_5 mw_322) rfl rfl rfl (by decide +kernel) ⟨Nat.le_of_ble_eq_true rfl, Nat.le_of_ble_eq_true rfl⟩) ⟨PX_blind, va_recv hK hP (ci := 1) (q0 := 3) rfl (at_O), fun U hU hW => ⟨rfl, PX_at hU hW hP hK hD⟩⟩ rfl rfl hl.1 rfl (lv_room (Nat.le_of_ble_eq_true rfl)) d_F_bounce_108 ⟨Nat.le_of_ble_eq_true rfl, Nat.le_of_ble_eq_true rfl⟩) hS (fun q _ h => AX_up hA1 q h) (AX_up hA1) (fun t13 tq H1 locs ht hvm hw12 hB hz1 hk1 hS => ?_)
          obtain ⟨hP, hD⟩ := BX_back ht hB (AX_up hA1)
          generalize H1 = H at hP hS ⊢
          rw [hw12] at hP hD
          refine lv_aload hx hb d_F_bounce_111 (lv_at hl 0 rfl) ?_
          refine g_S_score hx hb hts hown hK hP (by omega) mw_56 d_F_bounce_113 ?_
          refine vx_ret (W.widen (k := 3) (n := 18) (by decide) (by decide) ?_)
          exact W.dret (v := gD (O_add (S_stop (pD (pI t 5 (12 * u + a0) (gI t 32 0)) 0 (12 * u + a0) (FP.dadd (gD (pI t 5 (12 * u + a0) (gI t 32 0)) 0 (12 * u + a0)) 4602678819172646912)) (12 * u + a0) (gI (pD (pI t 5 (12 * u + a0) (gI t 32 0)) 0 (12 * u + a0) (FP.dadd (gD (pI t 5 (12 * u + a0) (gI t 32 0)) 0 (12 * u + a0)) 4602678819172646912)) 32 0)) a x 5 (gI (S_stop (pD (pI t 5 (12 * u + a0) (gI t 32 0)) 0 (12 * u + a0) (FP.dadd (gD (pI t 5 (12 * u + a0) (gI t 32 0)) 0 (12 * u + a0)) 4602678819172646912)) (12 * u + a0) (gI (pD (pI t 5 (12 * u + a0) (gI t 32 0)) 0 (12 * u + a0) (FP.dadd (gD (pI t 5 (12 * u + a0) (gI t 32 0)) 0 (12 * u + a0)) 4602678819172646912)) 32 0)) 4 (12 * u + a0))) 0 (12 * u + a0)) hx hb hr (fun t9 ht hW => ⟨⟨gD (O_add (S_stop (pD (pI t 5 (12 * u + a0) (gI t 32 0)) 0 (12 * u + a0) (FP.dadd (gD (pI t 5 (12 * u + a0) (gI t 32 0)) 0 (12 * u + a0)) 4602678819172646912)) (12 * u + a0) (gI (pD (pI t 5 (12 * u + a0) (gI t 32 0)) 0 (12 * u + a0) (FP.dadd (gD (pI t 5 (12 * u + a0) (gI t 32 0)) 0 (12 * u + a0)) 4602678819172646912)) 32 0)) a x 5 (gI (S_stop (pD (pI t 5 (12 * u + a0) (gI t 32 0)) 0 (12 * u + a0) (FP.dadd (gD (pI t 5 (12 * u + a0) (gI t 32 0)) 0 (12 * u + a0)) 4602678819172646912)) (12 * u + a0) (gI (pD (pI t 5 (12 * u + a0) (gI t 32 0)) 0 (12 * u + a0) (FP.dadd (gD (pI t 5 (12 * u + a0) (gI t 32 0)) 0 (12 * u + a0)) 4602678819172646912)) 32 0)) 4 (12 * u + a0))) 0 (12 * u + a0), (O_add (S_stop (pD (pI t 5 (12 * u + a0) (gI t 32 0)) 0 (12 * u + a0) (FP.dadd (gD (pI t 5 (12 * u + a0) (gI t 32 0)) 0 (12 * u + a0)) 4602678819172646912)) (12 * u + a0) (gI (pD (pI t 5 (12 * u + a0) (gI t 32 0)) 0 (12 * u + a0) (FP.dadd (gD (pI t 5 (12 * u + a0) (gI t 32 0)) 0 (12 * u + a0)) 4602678819172646912)) 32 0)) a x 5 (gI (S_stop (pD (pI t 5 (12 * u + a0) (gI t 32 0)) 0 (12 * u + a0) (FP.dadd (gD (pI t 5 (12 * u + a0) (gI t 32 0)) 0 (12 * u + a0)) 4602678819172646912)) (12 * u + a0) (gI (pD (pI t 5 (12 * u + a0) (gI t 32 0)) 0 (12 * u + a0) (FP.dadd (gD (pI t 5 (12 * u + a0) (gI t 32 0)) 0 (12 * u + a0)) 4602678819172646912)) 32 0)) 4 (12 * u + a0))), rfl, (by (try simp [gI_pI, gI_pD, gD_pI, gD_pD, gD_add] at c4); (try simp [gI_pI, gI_pD, gD_pI, gD_pD, gD_add] at c5); (try simp [gI_pI, gI_pD, gD_pI, gD_pD, gD_add] at c6); (try simp [gI_pI, gI_pD, gD_pI, gD_pD, gD_add] at c7); first | (simp [bncR, gI_pI, gI_pD, gD_pI, gD_pD, hpl, hj, hcx, hca, bncV, bncT, gD_add, S_stop, c4, c5, c6, c7, hst]; done) | (simp [bncR, gI_pI, gI_pD, gD_pI, gD_pD, hpl, hj, hcx, hca, bncV, bncT, gD_add, S_stop, c4, c5, c6, c7, hst]; intro q9; exact absurd q9 (Int32.not_lt.mpr c7))), BX_at ht hW hP hK hD⟩, hS.F ht⟩) hS.2.2 d_F_bounce_116
      · have _u : True := trivial
        refine lv_dconst1 hx hb d_F_bounce_58 ?_
        refine lv_goto (tgt := 65) hx hb d_F_bounce_59 (by decide) ?_
        refine lv_dadd hx hb d_F_bounce_65 (NN_nan (NN_add (OKX_NN ho _) NN_1)) ?_
        refine p_S_score hx hb hts hown hK hP hD hS (by omega) mw_56 d_F_bounce_66 (fun H locs hP hD hS => ?_)
        refine lv_aload hx hb d_F_bounce_69 (lv_at hl 0 rfl) ?_
        refine g_S_score hx hb hts hown hK hP (by omega) mw_56 d_F_bounce_71 ?_
        refine lv_aload_n hx hb d_F_bounce_74 rfl (lv_at hl 1 rfl) ?_
        refine g_F_lists hx hb hts hown hK hP mw_175 d_F_bounce_75 ?_
        refine lv_iload_n hx hb d_F_bounce_78 rfl (lv_at hl 2 rfl) ?_
        refine a_lists hx hb hK hP (r := u) hu hxu d_F_bounce_79 ?_
        refine g_L_best hx hb hts hown hK hP hu mw_86 d_F_bounce_80 ?_
        refine lv_dcmp hx hb d_F_bounce_83 ?_
        refine lv_if_lt (tgt := 111) hx hb d_F_bounce_84 (by decide) (fun c14 => ?_) (fun c14 => ?_)
        · have _u : True := trivial
          refine lv_aload hx hb d_F_bounce_111 (lv_at hl 0 rfl) ?_
          refine g_S_score hx hb hts hown hK hP (by omega) mw_56 d_F_bounce_113 ?_
          refine vx_ret (W.widen (k := 3) (n := 18) (by decide) (by decide) ?_)
          exact W.dret (v := gD (pD (pI t 5 (12 * u + a0) (gI t 32 0)) 0 (12 * u + a0) (FP.dadd (gD (pI t 5 (12 * u + a0) (gI t 32 0)) 0 (12 * u + a0)) FP.dconst1)) 0 (12 * u + a0)) hx hb hr (fun t9 ht hW => ⟨⟨gD (pD (pI t 5 (12 * u + a0) (gI t 32 0)) 0 (12 * u + a0) (FP.dadd (gD (pI t 5 (12 * u + a0) (gI t 32 0)) 0 (12 * u + a0)) FP.dconst1)) 0 (12 * u + a0), (pD (pI t 5 (12 * u + a0) (gI t 32 0)) 0 (12 * u + a0) (FP.dadd (gD (pI t 5 (12 * u + a0) (gI t 32 0)) 0 (12 * u + a0)) FP.dconst1)), rfl, (by (try simp [gI_pI, gI_pD, gD_pI, gD_pD, gD_add] at c4); (try simp [gI_pI, gI_pD, gD_pI, gD_pD, gD_add] at c5); (try simp [gI_pI, gI_pD, gD_pI, gD_pD, gD_add] at c6); (try simp [gI_pI, gI_pD, gD_pI, gD_pD, gD_add] at c14); first | (simp [bncR, gI_pI, gI_pD, gD_pI, gD_pD, hpl, hj, hcx, hca, bncV, bncT, gD_add, S_stop, c4, c5, c6, c14, hst]; done) | (simp [bncR, gI_pI, gI_pD, gD_pI, gD_pD, hpl, hj, hcx, hca, bncV, bncT, gD_add, S_stop, c4, c5, c6, c14, hst]; intro q9; exact absurd q9 (Int32.not_lt.mpr c14))), BX_at ht hW hP hK hD⟩, hS.F ht⟩) hS.2.2 d_F_bounce_116
        · have _u : True := trivial
          refine lv_aload hx hb d_F_bounce_87 (lv_at hl 0 rfl) ?_
          refine lv_aload_n hx hb d_F_bounce_89 rfl (lv_at hl 1 rfl) ?_
          refine g_F_today hx hb hts hown hK hP mw_180 d_F_bounce_90 ?_
          have hA1 := hS.1
          refine va_callv (va_runV (As := [.int (gI (pD (pI t 5 (12 * u + a0) (gI t 32 0)) 0 (12 * u + a0) (FP.dadd (gD (pI t 5 (12 * u + a0) (gI t 32 0)) 0 (12 * u + a0)) FP.dconst1)) 32 0)]) (rest := []) ⟨hx, hb, hml, hown, hts⟩ (c_S_stop l D ad ka H.size (pD (pI t 5 (12 * u + a0) (gI t 32 0)) 0 (12 * u + a0) (FP.dadd (gD (pI t 5 (12 * u + a0) (gI t 32 0)) 0 (12 * u + a0)) FP.dconst1)) (12 * u + a0) (by omega) (gI (pD (pI t 5 (12 * u + a0) (gI t 32 0)) 0 (12 * u + a0) (FP.dadd (gD (pI t 5 (12 * u + a0) (gI t 32 0)) 0 (12 * u + a0)) FP.dconst1)) 32 0)) (cwV 1 hts (gv mw_489 mw_490 mw_491 mw_3 mw_492) rfl rfl rfl (by decide +kernel) ⟨Nat.le_of_ble_eq_true rfl, Nat.le_of_ble_eq_true rfl⟩) ⟨PX_blind, va_recv hK hP (ci := 3) (q0 := 60 + (12 * u + a0)) rfl (at_S (by omega)), fun U hU hW => ⟨rfl, PX_at hU hW hP hK hD⟩⟩ rfl rfl hl.1 rfl (lv_room (Nat.le_of_ble_eq_true rfl)) d_F_bounce_93 ⟨Nat.le_of_ble_eq_true rfl, Nat.le_of_ble_eq_true rfl⟩) hS (fun q _ h => AX_up hA1 q h) (AX_up hA1) (fun t17 tq H1 locs ht hvm hw16 hB hz1 hk1 hS => ?_)
          obtain ⟨hP, hD⟩ := BX_back ht hB (AX_up hA1)
          generalize H1 = H at hP hS ⊢
          rw [hw16] at hP hD
          refine lv_aload_n hx hb d_F_bounce_96 rfl (lv_at hl 1 rfl) ?_
          refine g_F_outbox hx hb hts hown hK hP mw_177 d_F_bounce_97 ?_
          refine lv_iload_n hx hb d_F_bounce_100 rfl (lv_at hl 3 rfl) ?_
          refine lv_iload_n hx hb d_F_bounce_101 rfl (lv_at hl 2 rfl) ?_
          refine lv_iconst (v := 5) hx hb d_F_bounce_102 (by decide) ?_
          refine lv_aload hx hb d_F_bounce_103 (lv_at hl 0 rfl) ?_
          refine g_S_warning hx hb hts hown hK hP (by omega) mw_48 d_F_bounce_105 ?_
          have hA1 := hS.1
          refine va_callv (va_runV (As := [.int (a), .int (x), .int (5), .int (gI (S_stop (pD (pI t 5 (12 * u + a0) (gI t 32 0)) 0 (12 * u + a0) (FP.dadd (gD (pI t 5 (12 * u + a0) (gI t 32 0)) 0 (12 * u + a0)) FP.dconst1)) (12 * u + a0) (gI (pD (pI t 5 (12 * u + a0) (gI t 32 0)) 0 (12 * u + a0) (FP.dadd (gD (pI t 5 (12 * u + a0) (gI t 32 0)) 0 (12 * u + a0)) FP.dconst1)) 32 0)) 4 (12 * u + a0))]) (rest := []) ⟨hx, hb, hml, hown, hts⟩ (c_O_add l D ad ka H.size (S_stop (pD (pI t 5 (12 * u + a0) (gI t 32 0)) 0 (12 * u + a0) (FP.dadd (gD (pI t 5 (12 * u + a0) (gI t 32 0)) 0 (12 * u + a0)) FP.dconst1)) (12 * u + a0) (gI (pD (pI t 5 (12 * u + a0) (gI t 32 0)) 0 (12 * u + a0) (FP.dadd (gD (pI t 5 (12 * u + a0) (gI t 32 0)) 0 (12 * u + a0)) FP.dconst1)) 32 0)) (OKX_stop (OKX_pD (OKX_f ho (by decide)) (fun _ => NN_add (OKX_NN ho _) NN_1))) a x 5 (gI (S_stop (pD (pI t 5 (12 * u + a0) (gI t 32 0)) 0 (12 * u + a0) (FP.dadd (gD (pI t 5 (12 * u + a0) (gI t 32 0)) 0 (12 * u + a0)) FP.dconst1)) (12 * u + a0) (gI (pD (pI t 5 (12 * u + a0) (gI t 32 0)) 0 (12 * u + a0) (FP.dadd (gD (pI t 5 (12 * u + a0) (gI t 32 0)) 0 (12 * u + a0)) FP.dconst1)) 32 0)) 4 (12 * u + a0))) (cwV 4 hts (gv mw_319 mw_320 mw_321 mw_5 mw_322) rfl rfl rfl (by decide +kernel) ⟨Nat.le_of_ble_eq_true rfl, Nat.le_of_ble_eq_true rfl⟩) ⟨PX_blind, va_recv hK hP (ci := 1) (q0 := 3) rfl (at_O), fun U hU hW => ⟨rfl, PX_at hU hW hP hK hD⟩⟩ rfl rfl hl.1 rfl (lv_room (Nat.le_of_ble_eq_true rfl)) d_F_bounce_108 ⟨Nat.le_of_ble_eq_true rfl, Nat.le_of_ble_eq_true rfl⟩) hS (fun q _ h => AX_up hA1 q h) (AX_up hA1) (fun t20 tq H1 locs ht hvm hw19 hB hz1 hk1 hS => ?_)
          obtain ⟨hP, hD⟩ := BX_back ht hB (AX_up hA1)
          generalize H1 = H at hP hS ⊢
          rw [hw19] at hP hD
          refine lv_aload hx hb d_F_bounce_111 (lv_at hl 0 rfl) ?_
          refine g_S_score hx hb hts hown hK hP (by omega) mw_56 d_F_bounce_113 ?_
          refine vx_ret (W.widen (k := 3) (n := 18) (by decide) (by decide) ?_)
          exact W.dret (v := gD (O_add (S_stop (pD (pI t 5 (12 * u + a0) (gI t 32 0)) 0 (12 * u + a0) (FP.dadd (gD (pI t 5 (12 * u + a0) (gI t 32 0)) 0 (12 * u + a0)) FP.dconst1)) (12 * u + a0) (gI (pD (pI t 5 (12 * u + a0) (gI t 32 0)) 0 (12 * u + a0) (FP.dadd (gD (pI t 5 (12 * u + a0) (gI t 32 0)) 0 (12 * u + a0)) FP.dconst1)) 32 0)) a x 5 (gI (S_stop (pD (pI t 5 (12 * u + a0) (gI t 32 0)) 0 (12 * u + a0) (FP.dadd (gD (pI t 5 (12 * u + a0) (gI t 32 0)) 0 (12 * u + a0)) FP.dconst1)) (12 * u + a0) (gI (pD (pI t 5 (12 * u + a0) (gI t 32 0)) 0 (12 * u + a0) (FP.dadd (gD (pI t 5 (12 * u + a0) (gI t 32 0)) 0 (12 * u + a0)) FP.dconst1)) 32 0)) 4 (12 * u + a0))) 0 (12 * u + a0)) hx hb hr (fun t9 ht hW => ⟨⟨gD (O_add (S_stop (pD (pI t 5 (12 * u + a0) (gI t 32 0)) 0 (12 * u + a0) (FP.dadd (gD (pI t 5 (12 * u + a0) (gI t 32 0)) 0 (12 * u + a0)) FP.dconst1)) (12 * u + a0) (gI (pD (pI t 5 (12 * u + a0) (gI t 32 0)) 0 (12 * u + a0) (FP.dadd (gD (pI t 5 (12 * u + a0) (gI t 32 0)) 0 (12 * u + a0)) FP.dconst1)) 32 0)) a x 5 (gI (S_stop (pD (pI t 5 (12 * u + a0) (gI t 32 0)) 0 (12 * u + a0) (FP.dadd (gD (pI t 5 (12 * u + a0) (gI t 32 0)) 0 (12 * u + a0)) FP.dconst1)) (12 * u + a0) (gI (pD (pI t 5 (12 * u + a0) (gI t 32 0)) 0 (12 * u + a0) (FP.dadd (gD (pI t 5 (12 * u + a0) (gI t 32 0)) 0 (12 * u + a0)) FP.dconst1)) 32 0)) 4 (12 * u + a0))) 0 (12 * u + a0), (O_add (S_stop (pD (pI t 5 (12 * u + a0) (gI t 32 0)) 0 (12 * u + a0) (FP.dadd (gD (pI t 5 (12 * u + a0) (gI t 32 0)) 0 (12 * u + a0)) FP.dconst1)) (12 * u + a0) (gI (pD (pI t 5 (12 * u + a0) (gI t 32 0)) 0 (12 * u + a0) (FP.dadd (gD (pI t 5 (12 * u + a0) (gI t 32 0)) 0 (12 * u + a0)) FP.dconst1)) 32 0)) a x 5 (gI (S_stop (pD (pI t 5 (12 * u + a0) (gI t 32 0)) 0 (12 * u + a0) (FP.dadd (gD (pI t 5 (12 * u + a0) (gI t 32 0)) 0 (12 * u + a0)) FP.dconst1)) (12 * u + a0) (gI (pD (pI t 5 (12 * u + a0) (gI t 32 0)) 0 (12 * u + a0) (FP.dadd (gD (pI t 5 (12 * u + a0) (gI t 32 0)) 0 (12 * u + a0)) FP.dconst1)) 32 0)) 4 (12 * u + a0))), rfl, (by (try simp [gI_pI, gI_pD, gD_pI, gD_pD, gD_add] at c4); (try simp [gI_pI, gI_pD, gD_pI, gD_pD, gD_add] at c5); (try simp [gI_pI, gI_pD, gD_pI, gD_pD, gD_add] at c6); (try simp [gI_pI, gI_pD, gD_pI, gD_pD, gD_add] at c14); first | (simp [bncR, gI_pI, gI_pD, gD_pI, gD_pD, hpl, hj, hcx, hca, bncV, bncT, gD_add, S_stop, c4, c5, c6, c14, hst]; done) | (simp [bncR, gI_pI, gI_pD, gD_pI, gD_pD, hpl, hj, hcx, hca, bncV, bncT, gD_add, S_stop, c4, c5, c6, c14, hst]; intro q9; exact absurd q9 (Int32.not_lt.mpr c14))), BX_at ht hW hP hK hD⟩, hS.F ht⟩) hS.2.2 d_F_bounce_116
  · have _u : True := trivial
    exact vx_throwS (names := RTE) (own := "ListForge") (cls := e_ISE) (text := "the subscription is not live") hx hb hl0 hown (by decide) (by decide) (bg hts mw_283) (bg hts mw_11) (hZ.2.2.2 (178, "the subscription is not live") (by decide)) (hatO hts hZ.1 ag_ISE an_ISE) ao_ISE hZ.2.1 hZ.2.2.1 hS (by rw [hml]; exact hl.1) d_F_bounce_17 d_F_bounce_20 d_F_bounce_21 d_F_bounce_23 d_F_bounce_26 (fun x hx9 => (hTb x hx9).elim) (by decide) (Nat.le_of_ble_eq_true rfl) (by decide) (by decide) hlocks (fun t9 a9 z9 k9 => XT_at hP hK hD hS (Or.inr (Or.inr ⟨rfl, by simp [bncR, gI_pI, gI_pD, gD_pI, gD_pD, hpl, hj, hcx, hca, bncV, bncT, gD_add, S_stop, c4, hst]⟩)) a9 z9 k9) (fun z hz => hS.2.2 z hz) (by decide) (by decide)
