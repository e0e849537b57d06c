set_option maxHeartbeats 4000000 in
set_option maxRecDepth 100000 in
theorem c_L_changeOpen (l : Launch) (D : va_G) (ad : Nat → Nat) (ka : Nat → ClassId) (sz : Nat) (t : Mem) (u : Nat) (hu : u < 3) (v : Int32) (hz : b01 v) : Met l y_L_changeOpen (Cond.code y_L_changeOpen b_L_changeOpen 4 (some .double) :: big) ({ frames := 0, cells := 0, slots := 0, locals := 0 }) (va_Pc [.ref (ad (8 + u)), .int (v)] (PX D ad ka sz t)) (va_Qd (fun (r : UInt64) (t' : Mem) => r = bd (gI t 10 u) ∧ t' = pI t 10 u v) (BX D ad ka sz) (AX ad sz)) 0 0 (AX ad sz) := by
  refine Met.ofW (cc := b_L_changeOpen) (maxL := 4) (ret := (some .double)) (by decide) rfl ?_
  intro p e s m args below meth c s₁ B hml hv
  obtain ⟨rfl, hsz, hP, hK, hD0⟩ := hv
  have hx := B.exec
  have hb := B.bytes
  have hr := B.returns
  have hlocks := B.notSynchronized
  have hts := atoms_spec (ws := Cond.code y_L_changeOpen b_L_changeOpen 4 (some .double) :: big) B.pre
  have hown : s.vm.findClass "ListForge$MailingList" = some m.cls := findClass_of_methodNamed B.named
  subst hsz
  have hD : va_D (AX ad s.heap.size) (cw ad ka t) := AX_D hD0
  have hS : va_S (AX ad s.heap.size) s.heap s.heap [] := va_S.rf
  have hl := lv_entry ([.ref (ad (8 + u)), .int (v)]) (n := 4) (Nat.le_of_ble_eq_true rfl)
  rw [lg_entry_eq]
  generalize (lg_sl ([.ref (ad (8 + u)), .int (v)]) ++ List.replicate (4 - (lg_sl ([.ref (ad (8 + u)), .int (v)])).length) Slot.unset).toArray = ls at hl ⊢
  have hl : lv_has ls 4 [(0, .ref (ad (8 + u))), (1, .int (v))] := hl

  refine lv_aload_n hx hb d_L_changeOpen_0 rfl (lv_at hl 0 rfl) ?_
  refine g_L_open hx hb hts hown hK hP hu mw_81 d_L_changeOpen_1 ?_
  refine lv_if_eq (tgt := 11) hx hb d_L_changeOpen_4 (by decide) (fun c1 => ?_) (fun c1 => ?_)
  · have _u : True := trivial
    refine lv_dconst0 hx hb d_L_changeOpen_11 ?_
    refine lv_dstore_n (lv' := [(2, .double (FP.dconst0)), (0, .ref (ad (8 + u))), (1, .int (v))]) hx hb d_L_changeOpen_12 rfl hl (by decide) rfl (fun ls hl => ?_)
    refine lv_aload_n hx hb d_L_changeOpen_13 rfl (lv_at hl 1 rfl) ?_
    refine lv_iload_n hx hb d_L_changeOpen_14 rfl (lv_at hl 2 rfl) ?_
    refine p_L_open hx hb hts hown hK hP hD hS hu hz mw_81 d_L_changeOpen_15 (fun H locs hP hD hS => ?_)
    refine lv_dload_n hx hb d_L_changeOpen_18 rfl (lv_at hl 0 rfl) ?_
    exact W.dret (v := FP.dconst0) hx hb hr (fun t9 ht hW => ⟨⟨FP.dconst0, (pI t 10 u v), rfl, ⟨by simp [bd, c1], rfl⟩, BX_at ht hW hP hK hD⟩, hS.F ht⟩) hS.2.2 d_L_changeOpen_19
  · have _u : True := trivial
    refine lv_dconst1 hx hb d_L_changeOpen_7 ?_
    refine lv_goto (tgt := 12) hx hb d_L_changeOpen_8 (by decide) ?_
    refine lv_dstore_n (lv' := [(2, .double (FP.dconst1)), (0, .ref (ad (8 + u))), (1, .int (v))]) hx hb d_L_changeOpen_12 rfl hl (by decide) rfl (fun ls hl => ?_)
    refine lv_aload_n hx hb d_L_changeOpen_13 rfl (lv_at hl 1 rfl) ?_
    refine lv_iload_n hx hb d_L_changeOpen_14 rfl (lv_at hl 2 rfl) ?_
    refine p_L_open hx hb hts hown hK hP hD hS hu hz mw_81 d_L_changeOpen_15 (fun H locs hP hD hS => ?_)
    refine lv_dload_n hx hb d_L_changeOpen_18 rfl (lv_at hl 0 rfl) ?_
    exact W.dret (v := FP.dconst1) hx hb hr (fun t9 ht hW => ⟨⟨FP.dconst1, (pI t 10 u v), rfl, ⟨by simp [bd, c1], rfl⟩, BX_at ht hW hP hK hD⟩, hS.F ht⟩) hS.2.2 d_L_changeOpen_19
set_option maxHeartbeats 4000000 in
set_option maxRecDepth 100000 in
theorem c_L_changeWatched (l : Launch) (D : va_G) (ad : Nat → Nat) (ka : Nat → ClassId) (sz : Nat) (t : Mem) (u : Nat) (hu : u < 3) (v : Int32) (hz : b01 v) : Met l y_L_changeWatched (Cond.code y_L_changeWatched b_L_changeWatched 4 (some .double) :: big) ({ frames := 0, cells := 0, slots := 0, locals := 0 }) (va_Pc [.ref (ad (8 + u)), .int (v)] (PX D ad ka sz t)) (va_Qd (fun (r : UInt64) (t' : Mem) => r = bd (gI t 11 u) ∧ t' = pI t 11 u v) (BX D ad ka sz) (AX ad sz)) 0 0 (AX ad sz) := by
  refine Met.ofW (cc := b_L_changeWatched) (maxL := 4) (ret := (some .double)) (by decide) rfl ?_
  intro p e s m args below meth c s₁ B hml hv
  obtain ⟨rfl, hsz, hP, hK, hD0⟩ := hv
  have hx := B.exec
  have hb := B.bytes
  have hr := B.returns
  have hlocks := B.notSynchronized
  have hts := atoms_spec (ws := Cond.code y_L_changeWatched b_L_changeWatched 4 (some .double) :: big) B.pre
  have hown : s.vm.findClass "ListForge$MailingList" = some m.cls := findClass_of_methodNamed B.named
  subst hsz
  have hD : va_D (AX ad s.heap.size) (cw ad ka t) := AX_D hD0
  have hS : va_S (AX ad s.heap.size) s.heap s.heap [] := va_S.rf
  have hl := lv_entry ([.ref (ad (8 + u)), .int (v)]) (n := 4) (Nat.le_of_ble_eq_true rfl)
  rw [lg_entry_eq]
  generalize (lg_sl ([.ref (ad (8 + u)), .int (v)]) ++ List.replicate (4 - (lg_sl ([.ref (ad (8 + u)), .int (v)])).length) Slot.unset).toArray = ls at hl ⊢
  have hl : lv_has ls 4 [(0, .ref (ad (8 + u))), (1, .int (v))] := hl

  refine lv_aload_n hx hb d_L_changeWatched_0 rfl (lv_at hl 0 rfl) ?_
  refine g_L_watched hx hb hts hown hK hP hu mw_82 d_L_changeWatched_1 ?_
  refine lv_if_eq (tgt := 11) hx hb d_L_changeWatched_4 (by decide) (fun c1 => ?_) (fun c1 => ?_)
  · have _u : True := trivial
    refine lv_dconst0 hx hb d_L_changeWatched_11 ?_
    refine lv_dstore_n (lv' := [(2, .double (FP.dconst0)), (0, .ref (ad (8 + u))), (1, .int (v))]) hx hb d_L_changeWatched_12 rfl hl (by decide) rfl (fun ls hl => ?_)
    refine lv_aload_n hx hb d_L_changeWatched_13 rfl (lv_at hl 1 rfl) ?_
    refine lv_iload_n hx hb d_L_changeWatched_14 rfl (lv_at hl 2 rfl) ?_
    refine p_L_watched hx hb hts hown hK hP hD hS hu hz mw_82 d_L_changeWatched_15 (fun H locs hP hD hS => ?_)
    refine lv_dload_n hx hb d_L_changeWatched_18 rfl (lv_at hl 0 rfl) ?_
    exact W.dret (v := FP.dconst0) hx hb hr (fun t9 ht hW => ⟨⟨FP.dconst0, (pI t 11 u v), rfl, ⟨by simp [bd, c1], rfl⟩, BX_at ht hW hP hK hD⟩, hS.F ht⟩) hS.2.2 d_L_changeWatched_19
  · have _u : True := trivial
    refine lv_dconst1 hx hb d_L_changeWatched_7 ?_
    refine lv_goto (tgt := 12) hx hb d_L_changeWatched_8 (by decide) ?_
    refine lv_dstore_n (lv' := [(2, .double (FP.dconst1)), (0, .ref (ad (8 + u))), (1, .int (v))]) hx hb d_L_changeWatched_12 rfl hl (by decide) rfl (fun ls hl => ?_)
    refine lv_aload_n hx hb d_L_changeWatched_13 rfl (lv_at hl 1 rfl) ?_
    refine lv_iload_n hx hb d_L_changeWatched_14 rfl (lv_at hl 2 rfl) ?_
    refine p_L_watched hx hb hts hown hK hP hD hS hu hz mw_82 d_L_changeWatched_15 (fun H locs hP hD hS => ?_)
    refine lv_dload_n hx hb d_L_changeWatched_18 rfl (lv_at hl 0 rfl) ?_
    exact W.dret (v := FP.dconst1) hx hb hr (fun t9 ht hW => ⟨⟨FP.dconst1, (pI t 11 u v), rfl, ⟨by simp [bd, c1], rfl⟩, BX_at ht hW hP hK hD⟩, hS.F ht⟩) hS.2.2 d_L_changeWatched_19
set_option maxHeartbeats 4000000 in
set_option maxRecDepth 100000 in
theorem c_L_changeGreatest (l : Launch) (D : va_G) (ad : Nat → Nat) (ka : Nat → ClassId) (sz : Nat) (t : Mem) (u : Nat) (hu : u < 3) (v : Int32) : Met l y_L_changeGreatest (Cond.code y_L_changeGreatest b_L_changeGreatest 4 (some .double) :: big) ({ frames := 0, cells := 0, slots := 0, locals := 0 }) (va_Pc [.ref (ad (8 + u)), .int (v)] (PX D ad ka sz t)) (va_Qd (fun (r : UInt64) (t' : Mem) => r = FP.i2d (gI t 12 u) ∧ t' = pI t 12 u v) (BX D ad ka sz) (AX ad sz)) 0 0 (AX ad sz) := by
  refine Met.ofW (cc := b_L_changeGreatest) (maxL := 4) (ret := (some .double)) (by decide) rfl ?_
  intro p e s m args below meth c s₁ B hml hv
  obtain ⟨rfl, hsz, hP, hK, hD0⟩ := hv
  have hx := B.exec
  have hb := B.bytes
  have hr := B.returns
  have hlocks := B.notSynchronized
  have hts := atoms_spec (ws := Cond.code y_L_changeGreatest b_L_changeGreatest 4 (some .double) :: big) B.pre
  have hown : s.vm.findClass "ListForge$MailingList" = some m.cls := findClass_of_methodNamed B.named
  subst hsz
  have hD : va_D (AX ad s.heap.size) (cw ad ka t) := AX_D hD0
  have hS : va_S (AX ad s.heap.size) s.heap s.heap [] := va_S.rf
  have hl := lv_entry ([.ref (ad (8 + u)), .int (v)]) (n := 4) (Nat.le_of_ble_eq_true rfl)
  rw [lg_entry_eq]
  generalize (lg_sl ([.ref (ad (8 + u)), .int (v)]) ++ List.replicate (4 - (lg_sl ([.ref (ad (8 + u)), .int (v)])).length) Slot.unset).toArray = ls at hl ⊢
  have hl : lv_has ls 4 [(0, .ref (ad (8 + u))), (1, .int (v))] := hl

  refine lv_aload_n hx hb d_L_changeGreatest_0 rfl (lv_at hl 0 rfl) ?_
  refine g_L_greatest hx hb hts hown hK hP hu mw_83 d_L_changeGreatest_1 ?_
  refine lv_i2d hx hb d_L_changeGreatest_4 ?_
  refine lv_dstore_n (lv' := [(2, .double (FP.i2d (gI t 12 u))), (0, .ref (ad (8 + u))), (1, .int (v))]) hx hb d_L_changeGreatest_5 rfl hl (by decide) rfl (fun ls hl => ?_)
  refine lv_aload_n hx hb d_L_changeGreatest_6 rfl (lv_at hl 1 rfl) ?_
  refine lv_iload_n hx hb d_L_changeGreatest_7 rfl (lv_at hl 2 rfl) ?_
  refine p_L_greatest hx hb hts hown hK hP hD hS hu mw_83 d_L_changeGreatest_8 (fun H locs hP hD hS => ?_)
  refine lv_dload_n hx hb d_L_changeGreatest_11 rfl (lv_at hl 0 rfl) ?_
  exact W.dret (v := FP.i2d (gI t 12 u)) hx hb hr (fun t9 ht hW => ⟨⟨FP.i2d (gI t 12 u), (pI t 12 u v), rfl, ⟨rfl, rfl⟩, BX_at ht hW hP hK hD⟩, hS.F ht⟩) hS.2.2 d_L_changeGreatest_12
set_option maxHeartbeats 4000000 in
set_option maxRecDepth 100000 in
theorem c_L_changeFull (l : Launch) (D : va_G) (ad : Nat → Nat) (ka : Nat → ClassId) (sz : Nat) (t : Mem) (u : Nat) (hu : u < 3) (v : Int32) : Met l y_L_changeFull (Cond.code y_L_changeFull b_L_changeFull 4 (some .double) :: big) ({ frames := 0, cells := 0, slots := 0, locals := 0 }) (va_Pc [.ref (ad (8 + u)), .int (v)] (PX D ad ka sz t)) (va_Qd (fun (r : UInt64) (t' : Mem) => r = FP.i2d (gI t 13 u) ∧ t' = pI t 13 u v) (BX D ad ka sz) (AX ad sz)) 0 0 (AX ad sz) := by
  refine Met.ofW (cc := b_L_changeFull) (maxL := 4) (ret := (some .double)) (by decide) rfl ?_
  intro p e s m args below meth c s₁ B hml hv
  obtain ⟨rfl, hsz, hP, hK, hD0⟩ := hv
  have hx := B.exec
  have hb := B.bytes
  have hr := B.returns
  have hlocks := B.notSynchronized
  have hts := atoms_spec (ws := Cond.code y_L_changeFull b_L_changeFull 4 (some .double) :: big) B.pre
  have hown : s.vm.findClass "ListForge$MailingList" = some m.cls := findClass_of_methodNamed B.named
  subst hsz
  have hD : va_D (AX ad s.heap.size) (cw ad ka t) := AX_D hD0
  have hS : va_S (AX ad s.heap.size) s.heap s.heap [] := va_S.rf
  have hl := lv_entry ([.ref (ad (8 + u)), .int (v)]) (n := 4) (Nat.le_of_ble_eq_true rfl)
  rw [lg_entry_eq]
  generalize (lg_sl ([.ref (ad (8 + u)), .int (v)]) ++ List.replicate (4 - (lg_sl ([.ref (ad (8 + u)), .int (v)])).length) Slot.unset).toArray = ls at hl ⊢
  have hl : lv_has ls 4 [(0, .ref (ad (8 + u))), (1, .int (v))] := hl

  refine lv_aload_n hx hb d_L_changeFull_0 rfl (lv_at hl 0 rfl) ?_
  refine g_L_full hx hb hts hown hK hP hu mw_84 d_L_changeFull_1 ?_
  refine lv_i2d hx hb d_L_changeFull_4 ?_
  refine lv_dstore_n (lv' := [(2, .double (FP.i2d (gI t 13 u))), (0, .ref (ad (8 + u))), (1, .int (v))]) hx hb d_L_changeFull_5 rfl hl (by decide) rfl (fun ls hl => ?_)
  refine lv_aload_n hx hb d_L_changeFull_6 rfl (lv_at hl 1 rfl) ?_
  refine lv_iload_n hx hb d_L_changeFull_7 rfl (lv_at hl 2 rfl) ?_
  refine p_L_full hx hb hts hown hK hP hD hS hu mw_84 d_L_changeFull_8 (fun H locs hP hD hS => ?_)
  refine lv_dload_n hx hb d_L_changeFull_11 rfl (lv_at hl 0 rfl) ?_
  exact W.dret (v := FP.i2d (gI t 13 u)) hx hb hr (fun t9 ht hW => ⟨⟨FP.i2d (gI t 13 u), (pI t 13 u v), rfl, ⟨rfl, rfl⟩, BX_at ht hW hP hK hD⟩, hS.F ht⟩) hS.2.2 d_L_changeFull_12
set_option maxHeartbeats 4000000 in
set_option maxRecDepth 100000 in
theorem c_L_changeBest (l : Launch) (D : va_G) (ad : Nat → Nat) (ka : Nat → ClassId) (sz : Nat) (t : Mem) (u : Nat) (hu : u < 3) (v : UInt64) : Met l y_L_changeBest (Cond.code y_L_changeBest b_L_changeBest 5 (some .double) :: big) ({ frames := 0, cells := 0, slots := 0, locals := 0 }) (va_Pc [.ref (ad (8 + u)), .double (v)] (PX D ad ka sz t)) (va_Qd (fun (r : UInt64) (t' : Mem) => r = gD t 1 u ∧ t' = pD t 1 u v) (BX D ad ka sz) (AX ad sz)) 0 0 (AX ad sz) := by
  refine Met.ofW (cc := b_L_changeBest) (maxL := 5) (ret := (some .double)) (by decide) rfl ?_
  intro p e s m args below meth c s₁ B hml hv
  obtain ⟨rfl, hsz, hP, hK, hD0⟩ := hv
  have hx := B.exec
  have hb := B.bytes
  have hr := B.returns
  have hlocks := B.notSynchronized
  have hts := atoms_spec (ws := Cond.code y_L_changeBest b_L_changeBest 5 (some .double) :: big) B.pre
  have hown : s.vm.findClass "ListForge$MailingList" = some m.cls := findClass_of_methodNamed B.named
  subst hsz
  have hD : va_D (AX ad s.heap.size) (cw ad ka t) := AX_D hD0
  have hS : va_S (AX ad s.heap.size) s.heap s.heap [] := va_S.rf
  have hl := lv_entry ([.ref (ad (8 + u)), .double (v)]) (n := 5) (Nat.le_of_ble_eq_true rfl)
  rw [lg_entry_eq]
  generalize (lg_sl ([.ref (ad (8 + u)), .double (v)]) ++ List.replicate (5 - (lg_sl ([.ref (ad (8 + u)), .double (v)])).length) Slot.unset).toArray = ls at hl ⊢
  have hl : lv_has ls 5 [(0, .ref (ad (8 + u))), (1, .double (v))] := hl

  refine lv_aload_n hx hb d_L_changeBest_0 rfl (lv_at hl 0 rfl) ?_
  refine g_L_best hx hb hts hown hK hP hu mw_85 d_L_changeBest_1 ?_
  refine lv_dstore_n (lv' := [(3, .double (gD t 1 u)), (0, .ref (ad (8 + u))), (1, .double (v))]) hx hb d_L_changeBest_4 rfl hl (by decide) rfl (fun ls hl => ?_)
  refine lv_aload_n hx hb d_L_changeBest_5 rfl (lv_at hl 1 rfl) ?_
  refine lv_dload_n hx hb d_L_changeBest_6 rfl (lv_at hl 2 rfl) ?_
  refine p_L_best hx hb hts hown hK hP hD hS hu mw_85 d_L_changeBest_7 (fun H locs hP hD hS => ?_)
  refine lv_dload_n hx hb d_L_changeBest_10 rfl (lv_at hl 0 rfl) ?_
  exact W.dret (v := gD t 1 u) hx hb hr (fun t9 ht hW => ⟨⟨gD t 1 u, (pD t 1 u v), rfl, ⟨rfl, rfl⟩, BX_at ht hW hP hK hD⟩, hS.F ht⟩) hS.2.2 d_L_changeBest_11
set_option maxHeartbeats 4000000 in
set_option maxRecDepth 100000 in
theorem c_L_changeBarred (l : Launch) (D : va_G) (ad : Nat → Nat) (ka : Nat → ClassId) (sz : Nat) (t : Mem) (u : Nat) (hu : u < 3) (a : Nat) (hlt : a < 10) (a1 : Int32) (ha1 : a1 = nI a) (v : Int32) (hz : b01 v) : Met l y_L_changeBarred (Cond.code y_L_changeBarred b_L_changeBarred 5 (some .double) :: big) ({ frames := 0, cells := 0, slots := 0, locals := 0 }) (va_Pc [.ref (ad (8 + u)), .int (a1), .int (v)] (PX D ad ka sz t)) (va_Qd (fun (r : UInt64) (t' : Mem) => r = bd (gI t (1017 + u) a) ∧ t' = pI t (1017 + u) a v) (BX D ad ka sz) (AX ad sz)) 0 0 (AX ad sz) := by
  refine Met.ofW (cc := b_L_changeBarred) (maxL := 5) (ret := (some .double)) (by decide) rfl ?_
  intro p e s m args below meth c s₁ B hml hv
  obtain ⟨rfl, hsz, hP, hK, hD0⟩ := hv
  have hx := B.exec
  have hb := B.bytes
  have hr := B.returns
  have hlocks := B.notSynchronized
  have hts := atoms_spec (ws := Cond.code y_L_changeBarred b_L_changeBarred 5 (some .double) :: big) B.pre
  have hown : s.vm.findClass "ListForge$MailingList" = some m.cls := findClass_of_methodNamed B.named
  subst hsz
  have hD : va_D (AX ad s.heap.size) (cw ad ka t) := AX_D hD0
  have hS : va_S (AX ad s.heap.size) s.heap s.heap [] := va_S.rf
  have hl := lv_entry ([.ref (ad (8 + u)), .int (a1), .int (v)]) (n := 5) (Nat.le_of_ble_eq_true rfl)
  rw [lg_entry_eq]
  generalize (lg_sl ([.ref (ad (8 + u)), .int (a1), .int (v)]) ++ List.replicate (5 - (lg_sl ([.ref (ad (8 + u)), .int (a1), .int (v)])).length) Slot.unset).toArray = ls at hl ⊢
  have hl : lv_has ls 5 [(0, .ref (ad (8 + u))), (1, .int (a1)), (2, .int (v))] := hl

  refine lv_aload_n hx hb d_L_changeBarred_0 rfl (lv_at hl 0 rfl) ?_
  refine g_L_barred hx hb hts hown hK hP hu mw_80 d_L_changeBarred_1 ?_
  refine lv_iload_n hx hb d_L_changeBarred_4 rfl (lv_at hl 1 rfl) ?_
  refine g_bar (u := u) hx hb hK hP hu (r := a) hlt ha1 d_L_changeBarred_5 ?_
  refine lv_if_eq (tgt := 13) hx hb d_L_changeBarred_6 (by decide) (fun c1 => ?_) (fun c1 => ?_)
  · have _u : True := trivial
    refine lv_dconst0 hx hb d_L_changeBarred_13 ?_
    refine lv_dstore_n (lv' := [(3, .double (FP.dconst0)), (0, .ref (ad (8 + u))), (1, .int (a1)), (2, .int (v))]) hx hb d_L_changeBarred_14 rfl hl (by decide) rfl (fun ls hl => ?_)
    refine lv_aload_n hx hb d_L_changeBarred_15 rfl (lv_at hl 1 rfl) ?_
    refine g_L_barred hx hb hts hown hK hP hu mw_80 d_L_changeBarred_16 ?_
    refine lv_iload_n hx hb d_L_changeBarred_19 rfl (lv_at hl 2 rfl) ?_
    refine lv_iload_n hx hb d_L_changeBarred_20 rfl (lv_at hl 3 rfl) ?_
    refine p_bar (u := u) hx hb hK hP hD hS hu (r := a) hlt ha1 hz d_L_changeBarred_21 (fun H locs hP hD hS => ?_)
    refine lv_dload_n hx hb d_L_changeBarred_22 rfl (lv_at hl 0 rfl) ?_
    exact W.dret (v := FP.dconst0) hx hb hr (fun t9 ht hW => ⟨⟨FP.dconst0, (pI t (1017 + u) a v), rfl, ⟨by simp [bd, c1], rfl⟩, BX_at ht hW hP hK hD⟩, hS.F ht⟩) hS.2.2 d_L_changeBarred_23
  · have _u : True := trivial
    refine lv_dconst1 hx hb d_L_changeBarred_9 ?_
    refine lv_goto (tgt := 14) hx hb d_L_changeBarred_10 (by decide) ?_
    refine lv_dstore_n (lv' := [(3, .double (FP.dconst1)), (0, .ref (ad (8 + u))), (1, .int (a1)), (2, .int (v))]) hx hb d_L_changeBarred_14 rfl hl (by decide) rfl (fun ls hl => ?_)
    refine lv_aload_n hx hb d_L_changeBarred_15 rfl (lv_at hl 1 rfl) ?_
    refine g_L_barred hx hb hts hown hK hP hu mw_80 d_L_changeBarred_16 ?_
    refine lv_iload_n hx hb d_L_changeBarred_19 rfl (lv_at hl 2 rfl) ?_
    refine lv_iload_n hx hb d_L_changeBarred_20 rfl (lv_at hl 3 rfl) ?_
    refine p_bar (u := u) hx hb hK hP hD hS hu (r := a) hlt ha1 hz d_L_changeBarred_21 (fun H locs hP hD hS => ?_)
    refine lv_dload_n hx hb d_L_changeBarred_22 rfl (lv_at hl 0 rfl) ?_
    exact W.dret (v := FP.dconst1) hx hb hr (fun t9 ht hW => ⟨⟨FP.dconst1, (pI t (1017 + u) a v), rfl, ⟨by simp [bd, c1], rfl⟩, BX_at ht hW hP hK hD⟩, hS.F ht⟩) hS.2.2 d_L_changeBarred_23
set_option maxHeartbeats 4000000 in
set_option maxRecDepth 100000 in
theorem c_L_subscriptionCount (l : Launch) (D : va_G) (ad : Nat → Nat) (ka : Nat → ClassId) (sz : Nat) (t : Mem) (u : Nat) (hu : u < 3) : Met l y_L_subscriptionCount (Cond.code y_L_subscriptionCount b_L_subscriptionCount 3 (some .int) :: big) ({ frames := 0, cells := 0, slots := 0, locals := 0 }) (va_Pc [.ref (ad (8 + u))] (PX D ad ka sz t)) (va_Qi (fun (r : Int32) (t' : Mem) => r = L_subs t u ∧ t' = t) (BX D ad ka sz) (AX ad sz)) 0 0 (AX ad sz) := by
  refine Met.ofW (cc := b_L_subscriptionCount) (maxL := 3) (ret := (some .int)) (by decide) rfl ?_
  intro p e s m args below meth c s₁ B hml hv
  obtain ⟨rfl, hsz, hP, hK, hD0⟩ := hv
  have hx := B.exec
  have hb := B.bytes
  have hr := B.returns
  have hlocks := B.notSynchronized
  have hts := atoms_spec (ws := Cond.code y_L_subscriptionCount b_L_subscriptionCount 3 (some .int) :: big) B.pre
  have hown : s.vm.findClass "ListForge$MailingList" = some m.cls := findClass_of_methodNamed B.named
  subst hsz
  have hD : va_D (AX ad s.heap.size) (cw ad ka t) := AX_D hD0
  have hS : va_S (AX ad s.heap.size) s.heap s.heap [] := va_S.rf
  have hl := lv_entry ([.ref (ad (8 + u))]) (n := 3) (Nat.le_of_ble_eq_true rfl)
  rw [lg_entry_eq]
  generalize (lg_sl ([.ref (ad (8 + u))]) ++ List.replicate (3 - (lg_sl ([.ref (ad (8 + u))])).length) Slot.unset).toArray = ls at hl ⊢
  have hl : lv_has ls 3 [(0, .ref (ad (8 + u)))] := hl

  refine lv_iconst (v := 0) hx hb d_L_subscriptionCount_0 (by decide) ?_
  refine lv_istore_n (lv' := [(1, .int (0)), (0, .ref (ad (8 + u)))]) hx hb d_L_subscriptionCount_1 rfl hl (by decide) rfl (fun ls hl => ?_)
  refine lv_iconst (v := 0) hx hb d_L_subscriptionCount_2 (by decide) ?_
  refine lv_istore_n (lv' := [(2, .int (0)), (1, .int (0)), (0, .ref (ad (8 + u)))]) hx hb d_L_subscriptionCount_3 rfl hl (by decide) rfl (fun ls hl => ?_)
  have hloop : ∀ (n a : Nat) (f : Int32) (t1 : Mem) (H : Heap) (locs : List Loc) (ls : Array Slot), a ≤ 12 → 12 + 1 ≤ a + n → t1 = t → lp (fun a n => if gI t 0 (12 * u + a) = -1 then n else n + 1) (12 - a) a f = lp (fun a n => if gI t 0 (12 * u + a) = -1 then n else n + 1) 12 0 0 → va_P D cls (cw ad ka t1) H → va_D (AX ad s.heap.size) (cw ad ka t1) → va_S (AX ad s.heap.size) s.heap H locs → lv_has ls 3 [(0, .ref (ad (8 + u))), (1, .int (f)), (2, .int (nI a))] → W p l e ({ frames := 0, cells := 0, slots := 0, locals := 0 }) s m ([.ref (ad (8 + u))] : List Value).toArray below meth c H locs 0 0 (MQ below (va_Qi (fun (r : Int32) (t' : Mem) => r = L_subs t u ∧ t' = t) (BX D ad ka s.heap.size) (AX ad s.heap.size)) ([.ref (ad (8 + u))] : List Value).toArray s 0 0 (AX ad s.heap.size)) (F0 m 4 ls []) := by
    intro n
    induction n with
    | zero => intro a f t1 H locs ls h1 h2; exact absurd h2 (by omega)
    | succ n ih =>
      intro a f t1 H locs ls ha hn ho hF hP hD hS hl
      refine lv_iload_n hx hb d_L_subscriptionCount_4 rfl (lv_at hl 2 rfl) ?_
      refine lv_bipush (v := 12) hx hb d_L_subscriptionCount_5 (by decide) ?_
      refine lv_icmp_ge (tgt := 32) hx hb d_L_subscriptionCount_7 (by decide) (fun c1 => ?_) (fun c1 => ?_)
      · have _u : True := trivial
        obtain rfl := nI_eq_of (x := 12) (N := 12) (rfl) (by decide) ha c1
        have hE := lp_end hF
        refine lv_iload_n hx hb d_L_subscriptionCount_32 rfl (lv_at hl 1 rfl) ?_
        exact W.iret (v := f) hx hb hr (fun t9 ht hW => ⟨⟨f, t1, rfl, ⟨hE, ho⟩, BX_at ht hW hP hK hD⟩, hS.F ht⟩) hS.2.2 d_L_subscriptionCount_33
      · have _u : True := trivial
        have hlt : a < 12 := nI_lt_of (x := 12) (N := 12) (rfl) ha c1
        refine lv_aload_n hx hb d_L_subscriptionCount_10 rfl (lv_at hl 0 rfl) ?_
        refine g_L_subscriptions hx hb hts hown hK hP hu mw_76 d_L_subscriptionCount_11 ?_
        refine lv_iload_n hx hb d_L_subscriptionCount_14 rfl (lv_at hl 2 rfl) ?_
        refine a_subs hx hb hK hP hu (r := a) hlt rfl d_L_subscriptionCount_15 ?_
        refine g_S_state hx hb hts hown hK hP (by omega) mw_39 d_L_subscriptionCount_16 ?_
        refine lv_iconst (v := -1) hx hb d_L_subscriptionCount_19 (by decide) ?_
        refine lv_icmp_eq (tgt := 26) hx hb d_L_subscriptionCount_20 (by decide) (fun c2 => ?_) (fun c2 => ?_)
        · have _u : True := trivial
          refine lv_iinc (v := nI (a + 1)) (lv' := [(2, .int (nI (a + 1))), (0, .ref (ad (8 + u))), (1, .int (f))]) hx hb d_L_subscriptionCount_26 hl (k := 2) rfl (nI_1 _) (by decide) rfl (fun ls hl => ?_)
          refine lv_goto (tgt := 4) hx hb d_L_subscriptionCount_29 (by decide) ?_
          exact ih (a + 1) f t1 H _ ls (by omega) (by omega) ho (lp_next hlt hF (by rw [ho] at c2; simp [c2])) hP hD hS (lv_sub hl [1, 2, 0] rfl)
        · have _u : True := trivial
          refine lv_iinc (v := f + 1) (lv' := [(1, .int (f + 1)), (0, .ref (ad (8 + u))), (2, .int (nI a))]) hx hb d_L_subscriptionCount_23 hl (k := 1) rfl (rfl) (by decide) rfl (fun ls hl => ?_)
          refine lv_iinc (v := nI (a + 1)) (lv' := [(2, .int (nI (a + 1))), (1, .int (f + 1)), (0, .ref (ad (8 + u)))]) hx hb d_L_subscriptionCount_26 hl (k := 2) rfl (nI_1 _) (by decide) rfl (fun ls hl => ?_)
          refine lv_goto (tgt := 4) hx hb d_L_subscriptionCount_29 (by decide) ?_
          exact ih (a + 1) (f + 1) t1 H _ ls (by omega) (by omega) ho (lp_next hlt hF (by rw [ho] at c2; simp [c2])) hP hD hS (lv_sub hl [2, 1, 0] rfl)
  exact hloop (12 + 1) 0 0 t s.heap _ ls (by omega) (by omega) rfl rfl hP hD hS (lv_sub hl [2, 1, 0] rfl)
set_option maxHeartbeats 4000000 in
set_option maxRecDepth 100000 in
theorem c_L_liveCount (l : Launch) (D : va_G) (ad : Nat → Nat) (ka : Nat → ClassId) (sz : Nat) (t : Mem) (u : Nat) (hu : u < 3) : Met l y_L_liveCount (Cond.code y_L_liveCount b_L_liveCount 3 (some .int) :: big) ({ frames := 0, cells := 0, slots := 0, locals := 0 }) (va_Pc [.ref (ad (8 + u))] (PX D ad ka sz t)) (va_Qi (fun (r : Int32) (t' : Mem) => r = L_lives t u ∧ t' = t) (BX D ad ka sz) (AX ad sz)) 0 0 (AX ad sz) := by
  refine Met.ofW (cc := b_L_liveCount) (maxL := 3) (ret := (some .int)) (by decide) rfl ?_
  intro p e s m args below meth c s₁ B hml hv
  obtain ⟨rfl, hsz, hP, hK, hD0⟩ := hv
  have hx := B.exec
  have hb := B.bytes
  have hr := B.returns
  have hlocks := B.notSynchronized
  have hts := atoms_spec (ws := Cond.code y_L_liveCount b_L_liveCount 3 (some .int) :: big) B.pre
  have hown : s.vm.findClass "ListForge$MailingList" = some m.cls := findClass_of_methodNamed B.named
  subst hsz
  have hD : va_D (AX ad s.heap.size) (cw ad ka t) := AX_D hD0
  have hS : va_S (AX ad s.heap.size) s.heap s.heap [] := va_S.rf
  have hl := lv_entry ([.ref (ad (8 + u))]) (n := 3) (Nat.le_of_ble_eq_true rfl)
  rw [lg_entry_eq]
  generalize (lg_sl ([.ref (ad (8 + u))]) ++ List.replicate (3 - (lg_sl ([.ref (ad (8 + u))])).length) Slot.unset).toArray = ls at hl ⊢
  have hl : lv_has ls 3 [(0, .ref (ad (8 + u)))] := hl

  refine lv_iconst (v := 0) hx hb d_L_liveCount_0 (by decide) ?_
  refine lv_istore_n (lv' := [(1, .int (0)), (0, .ref (ad (8 + u)))]) hx hb d_L_liveCount_1 rfl hl (by decide) rfl (fun ls hl => ?_)
  refine lv_iconst (v := 0) hx hb d_L_liveCount_2 (by decide) ?_
  refine lv_istore_n (lv' := [(2, .int (0)), (1, .int (0)), (0, .ref (ad (8 + u)))]) hx hb d_L_liveCount_3 rfl hl (by decide) rfl (fun ls hl => ?_)
  have hloop : ∀ (n a : Nat) (f : Int32) (t1 : Mem) (H : Heap) (locs : List Loc) (ls : Array Slot), a ≤ 12 → 12 + 1 ≤ a + n → t1 = t → lp (fun a n => if gI t 0 (12 * u + a) = 1 then n + 1 else n) (12 - a) a f = lp (fun a n => if gI t 0 (12 * u + a) = 1 then n + 1 else n) 12 0 0 → va_P D cls (cw ad ka t1) H → va_D (AX ad s.heap.size) (cw ad ka t1) → va_S (AX ad s.heap.size) s.heap H locs → lv_has ls 3 [(0, .ref (ad (8 + u))), (1, .int (f)), (2, .int (nI a))] → W p l e ({ frames := 0, cells := 0, slots := 0, locals := 0 }) s m ([.ref (ad (8 + u))] : List Value).toArray below meth c H locs 0 0 (MQ below (va_Qi (fun (r : Int32) (t' : Mem) => r = L_lives t u ∧ t' = t) (BX D ad ka s.heap.size) (AX ad s.heap.size)) ([.ref (ad (8 + u))] : List Value).toArray s 0 0 (AX ad s.heap.size)) (F0 m 4 ls []) := by
    intro n
    induction n with
    | zero => intro a f t1 H locs ls h1 h2; exact absurd h2 (by omega)
    | succ n ih =>
      intro a f t1 H locs ls ha hn ho hF hP hD hS hl
      refine lv_iload_n hx hb d_L_liveCount_4 rfl (lv_at hl 2 rfl) ?_
      refine lv_bipush (v := 12) hx hb d_L_liveCount_5 (by decide) ?_
      refine lv_icmp_ge (tgt := 32) hx hb d_L_liveCount_7 (by decide) (fun c1 => ?_) (fun c1 => ?_)
      · have _u : True := trivial
        obtain rfl := nI_eq_of (x := 12) (N := 12) (rfl) (by decide) ha c1
        have hE := lp_end hF
        refine lv_iload_n hx hb d_L_liveCount_32 rfl (lv_at hl 1 rfl) ?_
        exact W.iret (v := f) hx hb hr (fun t9 ht hW => ⟨⟨f, t1, rfl, ⟨hE, ho⟩, BX_at ht hW hP hK hD⟩, hS.F ht⟩) hS.2.2 d_L_liveCount_33
      · have _u : True := trivial
        have hlt : a < 12 := nI_lt_of (x := 12) (N := 12) (rfl) ha c1
        refine lv_aload_n hx hb d_L_liveCount_10 rfl (lv_at hl 0 rfl) ?_
        refine g_L_subscriptions hx hb hts hown hK hP hu mw_76 d_L_liveCount_11 ?_
        refine lv_iload_n hx hb d_L_liveCount_14 rfl (lv_at hl 2 rfl) ?_
        refine a_subs hx hb hK hP hu (r := a) hlt rfl d_L_liveCount_15 ?_
        refine g_S_state hx hb hts hown hK hP (by omega) mw_39 d_L_liveCount_16 ?_
        refine lv_iconst (v := 1) hx hb d_L_liveCount_19 (by decide) ?_
        refine lv_icmp_ne (tgt := 26) hx hb d_L_liveCount_20 (by decide) (fun c2 => ?_) (fun c2 => ?_)
        · have _u : True := trivial
          refine lv_iinc (v := nI (a + 1)) (lv' := [(2, .int (nI (a + 1))), (0, .ref (ad (8 + u))), (1, .int (f))]) hx hb d_L_liveCount_26 hl (k := 2) rfl (nI_1 _) (by decide) rfl (fun ls hl => ?_)
          refine lv_goto (tgt := 4) hx hb d_L_liveCount_29 (by decide) ?_
          exact ih (a + 1) f t1 H _ ls (by omega) (by omega) ho (lp_next hlt hF (by rw [ho] at c2; simp [c2])) hP hD hS (lv_sub hl [1, 2, 0] rfl)
        · have _u : True := trivial
          refine lv_iinc (v := f + 1) (lv' := [(1, .int (f + 1)), (0, .ref (ad (8 + u))), (2, .int (nI a))]) hx hb d_L_liveCount_23 hl (k := 1) rfl (rfl) (by decide) rfl (fun ls hl => ?_)
          refine lv_iinc (v := nI (a + 1)) (lv' := [(2, .int (nI (a + 1))), (1, .int (f + 1)), (0, .ref (ad (8 + u)))]) hx hb d_L_liveCount_26 hl (k := 2) rfl (nI_1 _) (by decide) rfl (fun ls hl => ?_)
          refine lv_goto (tgt := 4) hx hb d_L_liveCount_29 (by decide) ?_
          exact ih (a + 1) (f + 1) t1 H _ ls (by omega) (by omega) ho (lp_next hlt hF (by rw [ho] at c2; simp [c2])) hP hD hS (lv_sub hl [2, 1, 0] rfl)
  exact hloop (12 + 1) 0 0 t s.heap _ ls (by omega) (by omega) rfl rfl hP hD hS (lv_sub hl [2, 1, 0] rfl)
set_option maxHeartbeats 4000000 in
set_option maxRecDepth 100000 in
theorem c_L_refusesSender (l : Launch) (D : va_G) (ad : Nat → Nat) (ka : Nat → ClassId) (sz : Nat) (t : Mem) (u : Nat) (hu : u < 3) (a : Nat) (hlt : a < 12) (a1 : Int32) (ha1 : a1 = nI a) : Met l y_L_refusesSender (Cond.code y_L_refusesSender b_L_refusesSender 2 (some .boolean) :: big) ({ frames := 0, cells := 0, slots := 0, locals := 0 }) (va_Pc [.ref (ad (8 + u)), .int (a1)] (PX D ad ka sz t)) (va_Qi (fun (r : Int32) (t' : Mem) => r = L_refuses t u a ∧ t' = t) (BX D ad ka sz) (AX ad sz)) 0 0 (AX ad sz) := by
  refine Met.ofW (cc := b_L_refusesSender) (maxL := 2) (ret := (some .boolean)) (by decide) rfl ?_
  intro p e s m args below meth c s₁ B hml hv
  obtain ⟨rfl, hsz, hP, hK, hD0⟩ := hv
  have hx := B.exec
  have hb := B.bytes
  have hr := B.returns
  have hlocks := B.notSynchronized
  have hts := atoms_spec (ws := Cond.code y_L_refusesSender b_L_refusesSender 2 (some .boolean) :: big) B.pre
  have hown : s.vm.findClass "ListForge$MailingList" = some m.cls := findClass_of_methodNamed B.named
  subst hsz
  have hD : va_D (AX ad s.heap.size) (cw ad ka t) := AX_D hD0
  have hS : va_S (AX ad s.heap.size) s.heap s.heap [] := va_S.rf
  have hl := lv_entry ([.ref (ad (8 + u)), .int (a1)]) (n := 2) (Nat.le_of_ble_eq_true rfl)
  rw [lg_entry_eq]
  generalize (lg_sl ([.ref (ad (8 + u)), .int (a1)]) ++ List.replicate (2 - (lg_sl ([.ref (ad (8 + u)), .int (a1)])).length) Slot.unset).toArray = ls at hl ⊢
  have hl : lv_has ls 2 [(0, .ref (ad (8 + u))), (1, .int (a1))] := hl

  refine lv_aload_n hx hb d_L_refusesSender_0 rfl (lv_at hl 0 rfl) ?_
  refine g_L_banned hx hb hts hown hK hP hu mw_78 d_L_refusesSender_1 ?_
  refine lv_iload_n hx hb d_L_refusesSender_4 rfl (lv_at hl 1 rfl) ?_
  refine g_ban (u := u) hx hb hK hP hu (r := a) hlt ha1 d_L_refusesSender_5 ?_
  refine lv_if_ne (tgt := 29) hx hb d_L_refusesSender_6 (by decide) (fun c1 => ?_) (fun c1 => ?_)
  · have _u : True := trivial
    refine lv_iconst (v := 1) hx hb d_L_refusesSender_29 (by decide) ?_
    refine lv_goto (tgt := 34) hx hb d_L_refusesSender_30 (by decide) ?_
    exact W.zret (v := 1) hx hb hr rfl (fun t9 ht hW => ⟨⟨1, t, rfl, ⟨by simp [L_refuses, c1], rfl⟩, BX_at ht hW hP hK hD⟩, hS.F ht⟩) hS.2.2 d_L_refusesSender_34
  · have _u : True := trivial
    refine lv_aload_n hx hb d_L_refusesSender_9 rfl (lv_at hl 0 rfl) ?_
    refine g_L_subscriptions hx hb hts hown hK hP hu mw_76 d_L_refusesSender_10 ?_
    refine lv_iload_n hx hb d_L_refusesSender_13 rfl (lv_at hl 1 rfl) ?_
    refine a_subs hx hb hK hP hu (r := a) hlt ha1 d_L_refusesSender_14 ?_
    refine g_S_state hx hb hts hown hK hP (by omega) mw_39 d_L_refusesSender_15 ?_
    refine lv_iconst (v := 1) hx hb d_L_refusesSender_18 (by decide) ?_
    refine lv_icmp_eq (tgt := 33) hx hb d_L_refusesSender_19 (by decide) (fun c2 => ?_) (fun c2 => ?_)
    · have _u : True := trivial
      refine lv_iconst (v := 0) hx hb d_L_refusesSender_33 (by decide) ?_
      exact W.zret (v := 0) hx hb hr rfl (fun t9 ht hW => ⟨⟨0, t, rfl, ⟨by simp [L_refuses, c1, c2], rfl⟩, BX_at ht hW hP hK hD⟩, hS.F ht⟩) hS.2.2 d_L_refusesSender_34
    · have _u : True := trivial
      refine lv_aload_n hx hb d_L_refusesSender_22 rfl (lv_at hl 0 rfl) ?_
      refine g_L_open hx hb hts hown hK hP hu mw_81 d_L_refusesSender_23 ?_
      refine lv_if_ne (tgt := 33) hx hb d_L_refusesSender_26 (by decide) (fun c3 => ?_) (fun c3 => ?_)
      · have _u : True := trivial
        refine lv_iconst (v := 0) hx hb d_L_refusesSender_33 (by decide) ?_
        exact W.zret (v := 0) hx hb hr rfl (fun t9 ht hW => ⟨⟨0, t, rfl, ⟨by simp [L_refuses, c1, c2, c3], rfl⟩, BX_at ht hW hP hK hD⟩, hS.F ht⟩) hS.2.2 d_L_refusesSender_34
      · have _u : True := trivial
        refine lv_iconst (v := 1) hx hb d_L_refusesSender_29 (by decide) ?_
        refine lv_goto (tgt := 34) hx hb d_L_refusesSender_30 (by decide) ?_
        exact W.zret (v := 1) hx hb hr rfl (fun t9 ht hW => ⟨⟨1, t, rfl, ⟨by simp [L_refuses, c1, c2, c3], rfl⟩, BX_at ht hW hP hK hD⟩, hS.F ht⟩) hS.2.2 d_L_refusesSender_34
set_option maxHeartbeats 4000000 in
set_option maxRecDepth 100000 in
theorem c_L_holdsBack (l : Launch) (D : va_G) (ad : Nat → Nat) (ka : Nat → ClassId) (sz : Nat) (t : Mem) (u : Nat) (hu : u < 3) (a : Nat) (hlt : a < 12) (a1 : Int32) (ha1 : a1 = nI a) (z : Int32) (q : Nat) (hq : q < 10) (q1 : Int32) (hq1 : q1 = nI q) : Met l y_L_holdsBack (Cond.code y_L_holdsBack b_L_holdsBack 4 (some .boolean) :: big) ({ frames := 0, cells := 0, slots := 0, locals := 0 }) (va_Pc [.ref (ad (8 + u)), .int (a1), .int (z), .int (q1)] (PX D ad ka sz t)) (va_Qi (fun (r : Int32) (t' : Mem) => r = L_holds t u a z q ∧ t' = t) (BX D ad ka sz) (AX ad sz)) 0 0 (AX ad sz) := by
  refine Met.ofW (cc := b_L_holdsBack) (maxL := 4) (ret := (some .boolean)) (by decide) rfl ?_
  intro p e s m args below meth c s₁ B hml hv
  obtain ⟨rfl, hsz, hP, hK, hD0⟩ := hv
  have hx := B.exec
  have hb := B.bytes
  have hr := B.returns
  have hlocks := B.notSynchronized
  have hts := atoms_spec (ws := Cond.code y_L_holdsBack b_L_holdsBack 4 (some .boolean) :: big) B.pre
  have hown : s.vm.findClass "ListForge$MailingList" = some m.cls := findClass_of_methodNamed B.named
  subst hsz
  have hD : va_D (AX ad s.heap.size) (cw ad ka t) := AX_D hD0
  have hS : va_S (AX ad s.heap.size) s.heap s.heap [] := va_S.rf
  have hl := lv_entry ([.ref (ad (8 + u)), .int (a1), .int (z), .int (q1)]) (n := 4) (Nat.le_of_ble_eq_true rfl)
  rw [lg_entry_eq]
  generalize (lg_sl ([.ref (ad (8 + u)), .int (a1), .int (z), .int (q1)]) ++ List.replicate (4 - (lg_sl ([.ref (ad (8 + u)), .int (a1), .int (z), .int (q1)])).length) Slot.unset).toArray = ls at hl ⊢
  have hl : lv_has ls 4 [(0, .ref (ad (8 + u))), (1, .int (a1)), (2, .int (z)), (3, .int (q1))] := hl

  refine lv_aload_n hx hb d_L_holdsBack_0 rfl (lv_at hl 0 rfl) ?_
  refine g_L_subscriptions hx hb hts hown hK hP hu mw_76 d_L_holdsBack_1 ?_
  refine lv_iload_n hx hb d_L_holdsBack_4 rfl (lv_at hl 1 rfl) ?_
  refine a_subs hx hb hK hP hu (r := a) hlt ha1 d_L_holdsBack_5 ?_
  refine g_S_moderates hx hb hts hown hK hP (by omega) mw_54 d_L_holdsBack_6 ?_
  refine lv_if_eq (tgt := 14) hx hb d_L_holdsBack_9 (by decide) (fun c1 => ?_) (fun c1 => ?_)
  · have _u : True := trivial
    refine lv_iload_n hx hb d_L_holdsBack_14 rfl (lv_at hl 2 rfl) ?_
    refine lv_aload_n hx hb d_L_holdsBack_15 rfl (lv_at hl 0 rfl) ?_
    refine g_L_greatest hx hb hts hown hK hP hu mw_83 d_L_holdsBack_16 ?_
    refine lv_icmp_gt (tgt := 38) hx hb d_L_holdsBack_19 (by decide) (fun c2 => ?_) (fun c2 => ?_)
    · have _u : True := trivial
      refine lv_iconst (v := 1) hx hb d_L_holdsBack_38 (by decide) ?_
      refine lv_goto (tgt := 43) hx hb d_L_holdsBack_39 (by decide) ?_
      exact W.zret (v := 1) hx hb hr rfl (fun t9 ht hW => ⟨⟨1, t, rfl, ⟨by simp [L_holds, c1, c2], rfl⟩, BX_at ht hW hP hK hD⟩, hS.F ht⟩) hS.2.2 d_L_holdsBack_43
    · have _u : True := trivial
      refine lv_aload_n hx hb d_L_holdsBack_22 rfl (lv_at hl 0 rfl) ?_
      refine g_L_barred hx hb hts hown hK hP hu mw_80 d_L_holdsBack_23 ?_
      refine lv_iload_n hx hb d_L_holdsBack_26 rfl (lv_at hl 3 rfl) ?_
      refine g_bar (u := u) hx hb hK hP hu (r := q) hq hq1 d_L_holdsBack_27 ?_
      refine lv_if_ne (tgt := 38) hx hb d_L_holdsBack_28 (by decide) (fun c3 => ?_) (fun c3 => ?_)
      · have _u : True := trivial
        refine lv_iconst (v := 1) hx hb d_L_holdsBack_38 (by decide) ?_
        refine lv_goto (tgt := 43) hx hb d_L_holdsBack_39 (by decide) ?_
        exact W.zret (v := 1) hx hb hr rfl (fun t9 ht hW => ⟨⟨1, t, rfl, ⟨by simp [L_holds, c1, c2, c3], rfl⟩, BX_at ht hW hP hK hD⟩, hS.F ht⟩) hS.2.2 d_L_holdsBack_43
      · have _u : True := trivial
        refine lv_aload_n hx hb d_L_holdsBack_31 rfl (lv_at hl 0 rfl) ?_
        refine g_L_watched hx hb hts hown hK hP hu mw_82 d_L_holdsBack_32 ?_
        refine lv_if_eq (tgt := 42) hx hb d_L_holdsBack_35 (by decide) (fun c4 => ?_) (fun c4 => ?_)
        · have _u : True := trivial
          refine lv_iconst (v := 0) hx hb d_L_holdsBack_42 (by decide) ?_
          exact W.zret (v := 0) hx hb hr rfl (fun t9 ht hW => ⟨⟨0, t, rfl, ⟨by simp [L_holds, c1, c2, c3, c4], rfl⟩, BX_at ht hW hP hK hD⟩, hS.F ht⟩) hS.2.2 d_L_holdsBack_43
        · have _u : True := trivial
          refine lv_iconst (v := 1) hx hb d_L_holdsBack_38 (by decide) ?_
          refine lv_goto (tgt := 43) hx hb d_L_holdsBack_39 (by decide) ?_
          exact W.zret (v := 1) hx hb hr rfl (fun t9 ht hW => ⟨⟨1, t, rfl, ⟨by simp [L_holds, c1, c2, c3, c4], rfl⟩, BX_at ht hW hP hK hD⟩, hS.F ht⟩) hS.2.2 d_L_holdsBack_43
  · have _u : True := trivial
    refine lv_iconst (v := 0) hx hb d_L_holdsBack_12 (by decide) ?_
    exact W.zret (v := 0) hx hb hr rfl (fun t9 ht hW => ⟨⟨0, t, rfl, ⟨by simp [L_holds, c1], rfl⟩, BX_at ht hW hP hK hD⟩, hS.F ht⟩) hS.2.2 d_L_holdsBack_13
set_option maxHeartbeats 4000000 in
set_option maxRecDepth 100000 in
theorem c_L_tellModerators (l : Launch) (D : va_G) (ad : Nat → Nat) (ka : Nat → ClassId) (sz : Nat) (t : Mem) (u : Nat) (hu : u < 3) (ho : OKX t) (p0 : Int32) : Met l y_L_tellModerators (Cond.code y_L_tellModerators b_L_tellModerators 4 none :: big) ({ frames := 1, cells := 0, slots := 0, locals := 24 }) (va_Pc [.ref (ad (8 + u)), .int (p0), .ref (ad (3))] (PX D ad ka sz t)) (va_Qv (fun t' : Mem => t' = L_tell t u p0) (BX D ad ka sz) (AX ad sz)) 0 0 (AX ad sz) := by
  refine Met.ofW (cc := b_L_tellModerators) (maxL := 4) (ret := none) (by decide) rfl ?_
  intro p e s m args below meth c s₁ B hml hv
  obtain ⟨rfl, hsz, hP, hK, hD0⟩ := hv
  have hx := B.exec
  have hb := B.bytes
  have hr := B.returns
  have hlocks := B.notSynchronized
  have hts := atoms_spec (ws := Cond.code y_L_tellModerators b_L_tellModerators 4 none :: big) B.pre
  have hown : s.vm.findClass "ListForge$MailingList" = some m.cls := findClass_of_methodNamed B.named
  subst hsz
  have hD : va_D (AX ad s.heap.size) (cw ad ka t) := AX_D hD0
  have hS : va_S (AX ad s.heap.size) s.heap s.heap [] := va_S.rf
  have hl := lv_entry ([.ref (ad (8 + u)), .int (p0), .ref (ad (3))]) (n := 4) (Nat.le_of_ble_eq_true rfl)
  rw [lg_entry_eq]
  generalize (lg_sl ([.ref (ad (8 + u)), .int (p0), .ref (ad (3))]) ++ List.replicate (4 - (lg_sl ([.ref (ad (8 + u)), .int (p0), .ref (ad (3))])).length) Slot.unset).toArray = ls at hl ⊢
  have hl : lv_has ls 4 [(0, .ref (ad (8 + u))), (1, .int (p0)), (2, .ref (ad (3)))] := hl

  refine lv_iconst (v := 0) hx hb d_L_tellModerators_0 (by decide) ?_
  refine lv_istore_n (lv' := [(3, .int (0)), (0, .ref (ad (8 + u))), (1, .int (p0)), (2, .ref (ad (3)))]) hx hb d_L_tellModerators_1 rfl hl (by decide) rfl (fun ls hl => ?_)
  have hloop : ∀ (n a : Nat) (t1 : Mem) (H : Heap) (locs : List Loc) (ls : Array Slot), a ≤ 12 → 12 + 1 ≤ a + n → OKX t1 → lp (tellF u p0) (12 - a) a t1 = lp (tellF u p0) 12 0 t → va_P D cls (cw ad ka t1) H → va_D (AX ad s.heap.size) (cw ad ka t1) → va_S (AX ad s.heap.size) s.heap H locs → lv_has ls 4 [(0, .ref (ad (8 + u))), (1, .int (p0)), (2, .ref (ad (3))), (3, .int (nI a))] → W p l e ({ frames := 1, cells := 0, slots := 0, locals := 24 }) s m ([.ref (ad (8 + u)), .int (p0), .ref (ad (3))] : List Value).toArray below meth c H locs 0 0 (MQ below (va_Qv (fun t' : Mem => t' = L_tell t u p0) (BX D ad ka s.heap.size) (AX ad s.heap.size)) ([.ref (ad (8 + u)), .int (p0), .ref (ad (3))] : List Value).toArray s 0 0 (AX ad s.heap.size)) (F0 m 2 ls []) := by
    intro n
    induction n with
    | zero => intro a t1 H locs ls h1 h2; exact absurd h2 (by omega)
    | succ n ih =>
      intro a t1 H locs ls ha hn ho hF hP hD hS hl
      refine lv_iload_n hx hb d_L_tellModerators_2 rfl (lv_at hl 3 rfl) ?_
      refine lv_bipush (v := 12) hx hb d_L_tellModerators_3 (by decide) ?_
      refine lv_icmp_ge (tgt := 37) hx hb d_L_tellModerators_5 (by decide) (fun c1 => ?_) (fun c1 => ?_)
      · have _u : True := trivial
        obtain rfl := nI_eq_of (x := 12) (N := 12) (rfl) (by decide) ha c1
        have hE := lp_end hF
        exact W.vret hx hb hr (fun t9 ht hW => ⟨⟨t1, rfl, hE, BX_at ht hW hP hK hD⟩, hS.F ht⟩) hS.2.2 d_L_tellModerators_37
      · have _u : True := trivial
        have hlt : a < 12 := nI_lt_of (x := 12) (N := 12) (rfl) ha c1
        refine lv_aload_n hx hb d_L_tellModerators_8 rfl (lv_at hl 0 rfl) ?_
        refine g_L_subscriptions hx hb hts hown hK hP hu mw_76 d_L_tellModerators_9 ?_
        refine lv_iload_n hx hb d_L_tellModerators_12 rfl (lv_at hl 3 rfl) ?_
        refine a_subs hx hb hK hP hu (r := a) hlt rfl d_L_tellModerators_13 ?_
        refine g_S_moderates hx hb hts hown hK hP (by omega) mw_54 d_L_tellModerators_14 ?_
        refine lv_if_eq (tgt := 31) hx hb d_L_tellModerators_17 (by decide) (fun c2 => ?_) (fun c2 => ?_)
        · have _u : True := trivial
          refine lv_iinc (v := nI (a + 1)) (lv' := [(3, .int (nI (a + 1))), (0, .ref (ad (8 + u))), (1, .int (p0)), (2, .ref (ad (3)))]) hx hb d_L_tellModerators_31 hl (k := 3) rfl (nI_1 _) (by decide) rfl (fun ls hl => ?_)
          refine lv_goto (tgt := 2) hx hb d_L_tellModerators_34 (by decide) ?_
          exact ih (a + 1) t1 H _ ls (by omega) (by omega) ho (lp_next hlt hF (by simp [tellF, c1, c2])) hP hD hS (lv_sub hl [1, 2, 3, 0] rfl)
        · have _u : True := trivial
          refine lv_aload_n hx hb d_L_tellModerators_20 rfl (lv_at hl 2 rfl) ?_
          refine lv_iload_n hx hb d_L_tellModerators_21 rfl (lv_at hl 3 rfl) ?_
          refine lv_aload_n hx hb d_L_tellModerators_22 rfl (lv_at hl 0 rfl) ?_
          refine g_L_number hx hb hts hown hK hP hu mw_75 d_L_tellModerators_23 ?_
          refine lv_iconst (v := 3) hx hb d_L_tellModerators_26 (by decide) ?_
          refine lv_iload_n hx hb d_L_tellModerators_27 rfl (lv_at hl 1 rfl) ?_
          have hA1 := hS.1
          refine va_callv (va_runV (As := [.int (nI a), .int (nI u), .int (3), .int (p0)]) (rest := []) ⟨hx, hb, hml, hown, hts⟩ (c_O_add l D ad ka H.size t1 ho (nI a) (nI u) 3 p0) (cwV 4 hts (gv mw_447 mw_320 mw_321 mw_5 mw_322) rfl rfl rfl (by decide +kernel) ⟨Nat.le_of_ble_eq_true rfl, Nat.le_of_ble_eq_true rfl⟩) ⟨PX_blind, va_recv hK hP (ci := 1) (q0 := 3) rfl (at_O), fun U hU hW => ⟨rfl, PX_at hU hW hP hK hD⟩⟩ rfl rfl hl.1 rfl (lv_room (Nat.le_of_ble_eq_true rfl)) d_L_tellModerators_28 ⟨Nat.le_of_ble_eq_true rfl, Nat.le_of_ble_eq_true rfl⟩) hS (fun q _ h => AX_up hA1 q h) (AX_up hA1) (fun t5 tq H1 locs ht hvm hw4 hB hz1 hk1 hS => ?_)
          obtain ⟨hP, hD⟩ := BX_back ht hB (AX_up hA1)
          generalize H1 = H at hP hS ⊢
          rw [hw4] at hP hD
          refine lv_iinc (v := nI (a + 1)) (lv' := [(3, .int (nI (a + 1))), (0, .ref (ad (8 + u))), (1, .int (p0)), (2, .ref (ad (3)))]) hx hb d_L_tellModerators_31 hl (k := 3) rfl (nI_1 _) (by decide) rfl (fun ls hl => ?_)
          refine lv_goto (tgt := 2) hx hb d_L_tellModerators_34 (by decide) ?_
          exact ih (a + 1) (O_add t1 (nI a) (nI u) 3 p0) H _ ls (by omega) (by omega) (OKX_add ho) (lp_next hlt hF (by simp [tellF, c1, c2])) hP hD hS (lv_sub hl [1, 2, 3, 0] rfl)
  exact hloop (12 + 1) 0 t s.heap _ ls (by omega) (by omega) ho rfl hP hD hS (lv_sub hl [1, 2, 3, 0] rfl)
set_option maxHeartbeats 4000000 in
set_option maxRecDepth 100000 in
theorem c_L_sendBundle (l : Launch) (D : va_G) (ad : Nat → Nat) (ka : Nat → ClassId) (sz : Nat) (t : Mem) (u : Nat) (hu : u < 3) (ho : OKX t) : Met l y_L_sendBundle (Cond.code y_L_sendBundle b_L_sendBundle 3 none :: big) ({ frames := 1, cells := 0, slots := 0, locals := 24 }) (va_Pc [.ref (ad (8 + u)), .ref (ad (3))] (PX D ad ka sz t)) (va_Qv (fun t' : Mem => t' = L_send t u) (BX D ad ka sz) (AX ad sz)) 0 0 (AX ad sz) := by
  refine Met.ofW (cc := b_L_sendBundle) (maxL := 3) (ret := none) (by decide) rfl ?_
  intro p e s m args below meth c s₁ B hml hv
  obtain ⟨rfl, hsz, hP, hK, hD0⟩ := hv
  have hx := B.exec
  have hb := B.bytes
  have hr := B.returns
  have hlocks := B.notSynchronized
  have hts := atoms_spec (ws := Cond.code y_L_sendBundle b_L_sendBundle 3 none :: big) B.pre
  have hown : s.vm.findClass "ListForge$MailingList" = some m.cls := findClass_of_methodNamed B.named
  subst hsz
  have hD : va_D (AX ad s.heap.size) (cw ad ka t) := AX_D hD0
  have hS : va_S (AX ad s.heap.size) s.heap s.heap [] := va_S.rf
  have hl := lv_entry ([.ref (ad (8 + u)), .ref (ad (3))]) (n := 3) (Nat.le_of_ble_eq_true rfl)
  rw [lg_entry_eq]
  generalize (lg_sl ([.ref (ad (8 + u)), .ref (ad (3))]) ++ List.replicate (3 - (lg_sl ([.ref (ad (8 + u)), .ref (ad (3))])).length) Slot.unset).toArray = ls at hl ⊢
  have hl : lv_has ls 3 [(0, .ref (ad (8 + u))), (1, .ref (ad (3)))] := hl

  refine lv_iconst (v := 0) hx hb d_L_sendBundle_0 (by decide) ?_
  refine lv_istore_n (lv' := [(2, .int (0)), (0, .ref (ad (8 + u))), (1, .ref (ad (3)))]) hx hb d_L_sendBundle_1 rfl hl (by decide) rfl (fun ls hl => ?_)
  have hloop : ∀ (n a : Nat) (t1 : Mem) (H : Heap) (locs : List Loc) (ls : Array Slot), a ≤ 12 → 12 + 1 ≤ a + n → OKX t1 → lp (sendF u) (12 - a) a t1 = lp (sendF u) 12 0 t → va_P D cls (cw ad ka t1) H → va_D (AX ad s.heap.size) (cw ad ka t1) → va_S (AX ad s.heap.size) s.heap H locs → lv_has ls 3 [(0, .ref (ad (8 + u))), (1, .ref (ad (3))), (2, .int (nI a))] → W p l e ({ frames := 1, cells := 0, slots := 0, locals := 24 }) s m ([.ref (ad (8 + u)), .ref (ad (3))] : List Value).toArray below meth c H locs 0 0 (MQ below (va_Qv (fun t' : Mem => t' = L_send t u) (BX D ad ka s.heap.size) (AX ad s.heap.size)) ([.ref (ad (8 + u)), .ref (ad (3))] : List Value).toArray s 0 0 (AX ad s.heap.size)) (F0 m 2 ls []) := by
    intro n
    induction n with
    | zero => intro a t1 H locs ls h1 h2; exact absurd h2 (by omega)
    | succ n ih =>
      intro a t1 H locs ls ha hn ho hF hP hD hS hl
      refine lv_iload_n hx hb d_L_sendBundle_2 rfl (lv_at hl 2 rfl) ?_
      refine lv_bipush (v := 12) hx hb d_L_sendBundle_3 (by decide) ?_
      refine lv_icmp_ge (tgt := 41) hx hb d_L_sendBundle_5 (by decide) (fun c1 => ?_) (fun c1 => ?_)
      · have _u : True := trivial
        obtain rfl := nI_eq_of (x := 12) (N := 12) (rfl) (by decide) ha c1
        have hE := lp_end hF
        refine lv_aload_n hx hb d_L_sendBundle_41 rfl (lv_at hl 0 rfl) ?_
        refine lv_iconst (v := 0) hx hb d_L_sendBundle_42 (by decide) ?_
        refine p_L_bundlePosts hx hb hts hown hK hP hD hS hu mw_87 d_L_sendBundle_43 (fun H locs hP hD hS => ?_)
        refine lv_aload_n hx hb d_L_sendBundle_46 rfl (lv_at hl 0 rfl) ?_
        refine lv_iconst (v := 0) hx hb d_L_sendBundle_47 (by decide) ?_
        refine p_L_bundleSizes hx hb hts hown hK hP hD hS hu mw_89 d_L_sendBundle_48 (fun H locs hP hD hS => ?_)
        exact W.vret hx hb hr (fun t9 ht hW => ⟨⟨(pI (pI t1 14 u 0) 15 u 0), rfl, (by rw [L_send, ← hE]), BX_at ht hW hP hK hD⟩, hS.F ht⟩) hS.2.2 d_L_sendBundle_51
      · have _u : True := trivial
        have hlt : a < 12 := nI_lt_of (x := 12) (N := 12) (rfl) ha c1
        refine lv_aload_n hx hb d_L_sendBundle_8 rfl (lv_at hl 0 rfl) ?_
        refine g_L_subscriptions hx hb hts hown hK hP hu mw_76 d_L_sendBundle_9 ?_
        refine lv_iload_n hx hb d_L_sendBundle_12 rfl (lv_at hl 2 rfl) ?_
        refine a_subs hx hb hK hP hu (r := a) hlt rfl d_L_sendBundle_13 ?_
        refine lv_iconst (v := 1) hx hb d_L_sendBundle_14 (by decide) ?_
        have hA1 := hS.1
        refine va_calli (va_runV (As := [.int (1)]) (rest := []) ⟨hx, hb, hml, hown, hts⟩ (c_S_takes l D ad ka H.size t1 (12 * u + a) (by omega) 1) (cwV 1 hts (gv mw_456 mw_457 mw_458 mw_3 mw_459) rfl rfl rfl (by decide +kernel) ⟨Nat.le_of_ble_eq_true rfl, Nat.le_of_ble_eq_true rfl⟩) ⟨PX_blind, va_recv hK hP (ci := 3) (q0 := 60 + (12 * u + a)) rfl (at_S (by omega)), fun U hU hW => ⟨rfl, PX_at hU hW hP hK hD⟩⟩ rfl rfl hl.1 rfl (lv_room (Nat.le_of_ble_eq_true rfl)) d_L_sendBundle_15 ⟨Nat.le_of_ble_eq_true rfl, Nat.le_of_ble_eq_true rfl⟩) hS (fun q _ h => AX_up hA1 q h) (AX_up hA1) (fun r2 t4 tq H1 locs ht hvm hw3 hB hz1 hk1 hS => ?_)
        obtain ⟨hP, hD⟩ := BX_back ht hB (AX_up hA1)
        generalize H1 = H at hP hS ⊢
        obtain ⟨hwr, hwt⟩ := hw3
        rw [hwt] at hP hD
        rw [hwr]
        refine lv_if_eq (tgt := 35) hx hb d_L_sendBundle_18 (by decide) (fun c5 => ?_) (fun c5 => ?_)
        · have _u : True := trivial
          refine lv_iinc (v := nI (a + 1)) (lv' := [(2, .int (nI (a + 1))), (0, .ref (ad (8 + u))), (1, .ref (ad (3)))]) hx hb d_L_sendBundle_35 hl (k := 2) rfl (nI_1 _) (by decide) rfl (fun ls hl => ?_)
          refine lv_goto (tgt := 2) hx hb d_L_sendBundle_38 (by decide) ?_
          exact ih (a + 1) t1 H _ ls (by omega) (by omega) ho (lp_next hlt hF (by simp [sendF, c1, c5])) hP hD hS (lv_sub hl [1, 2, 0] rfl)
        · have _u : True := trivial
          refine lv_aload_n hx hb d_L_sendBundle_21 rfl (lv_at hl 1 rfl) ?_
          refine lv_iload_n hx hb d_L_sendBundle_22 rfl (lv_at hl 2 rfl) ?_
          refine lv_aload_n hx hb d_L_sendBundle_23 rfl (lv_at hl 0 rfl) ?_
          refine g_L_number hx hb hts hown hK hP hu mw_75 d_L_sendBundle_24 ?_
          refine lv_iconst (v := 1) hx hb d_L_sendBundle_27 (by decide) ?_
          refine lv_aload_n hx hb d_L_sendBundle_28 rfl (lv_at hl 0 rfl) ?_
          refine g_L_bundlePosts hx hb hts hown hK hP hu mw_87 d_L_sendBundle_29 ?_
          have hA1 := hS.1
          refine va_callv (va_runV (As := [.int (nI a), .int (nI u), .int (1), .int (gI t1 14 u)]) (rest := []) ⟨hx, hb, hml, hown, hts⟩ (c_O_add l D ad ka H.size t1 ho (nI a) (nI u) 1 (gI t1 14 u)) (cwV 4 hts (gv mw_447 mw_320 mw_321 mw_5 mw_322) rfl rfl rfl (by decide +kernel) ⟨Nat.le_of_ble_eq_true rfl, Nat.le_of_ble_eq_true rfl⟩) ⟨PX_blind, va_recv hK hP (ci := 1) (q0 := 3) rfl (at_O), fun U hU hW => ⟨rfl, PX_at hU hW hP hK hD⟩⟩ rfl rfl hl.1 rfl (lv_room (Nat.le_of_ble_eq_true rfl)) d_L_sendBundle_32 ⟨Nat.le_of_ble_eq_true rfl, Nat.le_of_ble_eq_true rfl⟩) hS (fun q _ h => AX_up hA1 q h) (AX_up hA1) (fun t8 tq H1 locs ht hvm hw7 hB hz1 hk1 hS => ?_)
          obtain ⟨hP, hD⟩ := BX_back ht hB (AX_up hA1)
          generalize H1 = H at hP hS ⊢
          rw [hw7] at hP hD
          refine lv_iinc (v := nI (a + 1)) (lv' := [(2, .int (nI (a + 1))), (0, .ref (ad (8 + u))), (1, .ref (ad (3)))]) hx hb d_L_sendBundle_35 hl (k := 2) rfl (nI_1 _) (by decide) rfl (fun ls hl => ?_)
          refine lv_goto (tgt := 2) hx hb d_L_sendBundle_38 (by decide) ?_
          exact ih (a + 1) (O_add t1 (nI a) (nI u) 1 (gI t1 14 u)) H _ ls (by omega) (by omega) (OKX_add ho) (lp_next hlt hF (by simp [sendF, c1, c5])) hP hD hS (lv_sub hl [1, 2, 0] rfl)
  exact hloop (12 + 1) 0 t s.heap _ ls (by omega) (by omega) ho rfl hP hD hS (lv_sub hl [1, 2, 0] rfl)
set_option maxHeartbeats 4000000 in
set_option maxRecDepth 100000 in
theorem c_L_addToBundle (l : Launch) (D : va_G) (ad : Nat → Nat) (ka : Nat → ClassId) (sz : Nat) (t : Mem) (u : Nat) (hu : u < 3) (z d : Int32) : Met l y_L_addToBundle (Cond.code y_L_addToBundle b_L_addToBundle 3 none :: big) ({ frames := 0, cells := 0, slots := 0, locals := 0 }) (va_Pc [.ref (ad (8 + u)), .int (z), .int (d)] (PX D ad ka sz t)) (va_Qv (fun t' : Mem => t' = L_addB t u z d) (BX D ad ka sz) (AX ad sz)) 0 0 (AX ad sz) := by
  refine Met.ofW (cc := b_L_addToBundle) (maxL := 3) (ret := none) (by decide) rfl ?_
  intro p e s m args below meth c s₁ B hml hv
  obtain ⟨rfl, hsz, hP, hK, hD0⟩ := hv
  have hx := B.exec
  have hb := B.bytes
  have hr := B.returns
  have hlocks := B.notSynchronized
  have hts := atoms_spec (ws := Cond.code y_L_addToBundle b_L_addToBundle 3 none :: big) B.pre
  have hown : s.vm.findClass "ListForge$MailingList" = some m.cls := findClass_of_methodNamed B.named
  subst hsz
  have hD : va_D (AX ad s.heap.size) (cw ad ka t) := AX_D hD0
  have hS : va_S (AX ad s.heap.size) s.heap s.heap [] := va_S.rf
  have hl := lv_entry ([.ref (ad (8 + u)), .int (z), .int (d)]) (n := 3) (Nat.le_of_ble_eq_true rfl)
  rw [lg_entry_eq]
  generalize (lg_sl ([.ref (ad (8 + u)), .int (z), .int (d)]) ++ List.replicate (3 - (lg_sl ([.ref (ad (8 + u)), .int (z), .int (d)])).length) Slot.unset).toArray = ls at hl ⊢
  have hl : lv_has ls 3 [(0, .ref (ad (8 + u))), (1, .int (z)), (2, .int (d))] := hl

  refine lv_aload_n hx hb d_L_addToBundle_0 rfl (lv_at hl 0 rfl) ?_
  refine g_L_bundlePosts hx hb hts hown hK hP hu mw_87 d_L_addToBundle_1 ?_
  refine lv_if_ne (tgt := 12) hx hb d_L_addToBundle_4 (by decide) (fun c1 => ?_) (fun c1 => ?_)
  · have _u : True := trivial
    refine lv_aload_n hx hb d_L_addToBundle_12 rfl (lv_at hl 0 rfl) ?_
    refine lv_dup hx hb d_L_addToBundle_13 rfl ?_
    refine g_L_bundlePosts hx hb hts hown hK hP hu mw_87 d_L_addToBundle_14 ?_
    refine lv_iconst (v := 1) hx hb d_L_addToBundle_17 (by decide) ?_
    refine lv_iadd hx hb d_L_addToBundle_18 ?_
    refine p_L_bundlePosts hx hb hts hown hK hP hD hS hu mw_87 d_L_addToBundle_19 (fun H locs hP hD hS => ?_)
    refine lv_aload_n hx hb d_L_addToBundle_22 rfl (lv_at hl 0 rfl) ?_
    refine lv_dup hx hb d_L_addToBundle_23 rfl ?_
    refine g_L_bundleSizes hx hb hts hown hK hP hu mw_89 d_L_addToBundle_24 ?_
    refine lv_iload_n hx hb d_L_addToBundle_27 rfl (lv_at hl 1 rfl) ?_
    refine lv_iadd hx hb d_L_addToBundle_28 ?_
    refine p_L_bundleSizes hx hb hts hown hK hP hD hS hu mw_89 d_L_addToBundle_29 (fun H locs hP hD hS => ?_)
    exact W.vret hx hb hr (fun t9 ht hW => ⟨⟨(pI (pI t 14 u ((gI t 14 u) + 1)) 15 u ((gI (pI t 14 u ((gI t 14 u) + 1)) 15 u) + z)), rfl, (by simp [L_addB, gI_pI, c1]), BX_at ht hW hP hK hD⟩, hS.F ht⟩) hS.2.2 d_L_addToBundle_32
  · have _u : True := trivial
    refine lv_aload_n hx hb d_L_addToBundle_7 rfl (lv_at hl 0 rfl) ?_
    refine lv_iload_n hx hb d_L_addToBundle_8 rfl (lv_at hl 2 rfl) ?_
    refine p_L_bundleSince hx hb hts hown hK hP hD hS hu mw_91 d_L_addToBundle_9 (fun H locs hP hD hS => ?_)
    refine lv_aload_n hx hb d_L_addToBundle_12 rfl (lv_at hl 0 rfl) ?_
    refine lv_dup hx hb d_L_addToBundle_13 rfl ?_
    refine g_L_bundlePosts hx hb hts hown hK hP hu mw_87 d_L_addToBundle_14 ?_
    refine lv_iconst (v := 1) hx hb d_L_addToBundle_17 (by decide) ?_
    refine lv_iadd hx hb d_L_addToBundle_18 ?_
    refine p_L_bundlePosts hx hb hts hown hK hP hD hS hu mw_87 d_L_addToBundle_19 (fun H locs hP hD hS => ?_)
    refine lv_aload_n hx hb d_L_addToBundle_22 rfl (lv_at hl 0 rfl) ?_
    refine lv_dup hx hb d_L_addToBundle_23 rfl ?_
    refine g_L_bundleSizes hx hb hts hown hK hP hu mw_89 d_L_addToBundle_24 ?_
    refine lv_iload_n hx hb d_L_addToBundle_27 rfl (lv_at hl 1 rfl) ?_
    refine lv_iadd hx hb d_L_addToBundle_28 ?_
    refine p_L_bundleSizes hx hb hts hown hK hP hD hS hu mw_89 d_L_addToBundle_29 (fun H locs hP hD hS => ?_)
    exact W.vret hx hb hr (fun t9 ht hW => ⟨⟨(pI (pI (pI t 16 u d) 14 u ((gI (pI t 16 u d) 14 u) + 1)) 15 u ((gI (pI (pI t 16 u d) 14 u ((gI (pI t 16 u d) 14 u) + 1)) 15 u) + z)), rfl, (by simp [L_addB, gI_pI, c1]), BX_at ht hW hP hK hD⟩, hS.F ht⟩) hS.2.2 d_L_addToBundle_32
