/-- a contract's start and end over the class's world -/
def PX (D : va_G) (ad : Nat → Nat) (ka : Nat → ClassId) (sz : Nat) (t : Mem) (U : State) : Prop := U.heap.size = sz ∧ va_P D cls (cw ad ka t) U.heap ∧ va_K D cls (cT ka) U ∧ va_D (fun _ => True) (cw ad ka t)
def BX (D : va_G) (ad : Nat → Nat) (ka : Nat → ClassId) (sz : Nat) (t : Mem) (U : State) : Prop := va_P D cls (cw ad ka t) U.heap ∧ va_K D cls (cT ka) U ∧ va_D (AX ad sz) (cw ad ka t)
theorem PX_blind {D : va_G} {ad : Nat → Nat} {ka : Nat → ClassId} {sz : Nat} {t : Mem} {av : List Value} : FrameBlind (va_Pc av (PX D ad ka sz t)) := fun a U g mk q => by
  obtain ⟨q0, q1, qP, qK, qD⟩ := q
  exact ⟨q0, q1, qP, va_K.moved (u := U) (U := U.calling g mk a) (Vm.Alike.refl U.vm) qK, qD⟩
theorem PX_at {D : va_G} {ad : Nat → Nat} {ka : Nat → ClassId} {t : Mem} {A : Nat → Prop} {s U : State} {H : Heap} (hU : U.heap = H) (hW : s.WarmedH U.vm) (hP : va_P D cls (cw ad ka t) H) (hK : va_K D cls (cT ka) s) (hD : va_D A (cw ad ka t)) : PX D ad ka H.size t U := ⟨by rw [hU], by rw [hU]; exact hP, va_K.moved hW.alike hK, hD.weaken (fun _ _ _ _ => trivial)⟩
theorem BX_at {D : va_G} {ad : Nat → Nat} {ka : Nat → ClassId} {t : Mem} {sz : Nat} {s U : State} {H : Heap} (hU : U.heap = H) (hW : s.WarmedH U.vm) (hP : va_P D cls (cw ad ka t) H) (hK : va_K D cls (cT ka) s) (hD : va_D (AX ad sz) (cw ad ka t)) : BX D ad ka sz t U := ⟨by rw [hU]; exact hP, va_K.moved hW.alike hK, hD⟩
theorem BX_back {D : va_G} {ad : Nat → Nat} {ka : Nat → ClassId} {t : Mem} {sz sz0 : Nat} {U : State} {H : Heap} (ht : U.heap = H) (h : BX D ad ka sz t U) (hA : ∀ q, AX ad sz q → AX ad sz0 q) : va_P D cls (cw ad ka t) H ∧ va_D (AX ad sz0) (cw ad ka t) := ⟨ht ▸ h.1, h.2.2.weaken (fun _ q _ z => hA q.1 z)⟩
theorem gv {c0 : Cond} {own C : String} {idx n : Nat} {y : MethodName} {b : ByteArray} {r : Option FieldType} (h1 : Cond.methodLink own idx y ∈ big) (h2 : Cond.instanceMethod y ∈ big) (h3 : Cond.selects C y y ∈ big) (h4 : Cond.initialized C ∈ big) (h5 : Cond.code y b n r ∈ big) : GoodIn (c0 :: big) (wsV own idx C y (Cond.code y b n r :: big)) := gi_c h1 (gi_c h2 (gi_c h3 (gi_c h4 (gi_c h5 gi_0))))
theorem gs {c0 : Cond} {own : String} {idx n : Nat} {y : MethodName} {b : ByteArray} {r : Option FieldType} (h1 : Cond.methodLink own idx y ∈ big) (h2 : Cond.static y ∈ big) (h3 : Cond.initialized own ∈ big) (h5 : Cond.code y b n r ∈ big) : GoodIn (c0 :: big) (wsS own idx y (Cond.code y b n r :: big)) := gi_c h1 (gi_c h2 (gi_c h3 (gi_c h5 gi_0)))

set_option maxHeartbeats 4000000 in
set_option maxRecDepth 100000 in
theorem c_S_begin (l : Launch) (D : va_G) (ad : Nat → Nat) (ka : Nat → ClassId) (sz : Nat) (t : Mem) (u : Nat) (hu : u < 36) (w c0 d : Int32) : Met l y_S_begin (Cond.code y_S_begin b_S_begin 4 none :: big) ({ frames := 0, cells := 0, slots := 0, locals := 0 }) (va_Pc [.ref (ad (60 + u)), .int (w), .int (c0), .int (d)] (PX D ad ka sz t)) (va_Qv (fun t' : Mem => t' = S_begin t u w c0 d) (BX D ad ka sz) (AX ad sz)) 0 0 (AX ad sz) := by
  refine Met.ofW (cc := b_S_begin) (maxL := 4) (ret := none) (by decide) rfl ?_
  intro p e s m args below meth c s₁ B hml hv
  obtain ⟨rfl, hsz, hP, hK, hD0⟩ := hv
  have hx := B.exec
  have hb := B.bytes
  have hr := B.returns
  have hlocks := B.notSynchronized
  have hts := atoms_spec (ws := Cond.code y_S_begin b_S_begin 4 none :: big) B.pre
  have hown : s.vm.findClass "ListForge$Subscription" = some m.cls := findClass_of_methodNamed B.named
  subst hsz
  have hD : va_D (AX ad s.heap.size) (cw ad ka t) := AX_D hD0
  have hS : va_S (AX ad s.heap.size) s.heap s.heap [] := va_S.rf
  have hl := lv_entry ([.ref (ad (60 + u)), .int (w), .int (c0), .int (d)]) (n := 4) (Nat.le_of_ble_eq_true rfl)
  rw [lg_entry_eq]
  generalize (lg_sl ([.ref (ad (60 + u)), .int (w), .int (c0), .int (d)]) ++ List.replicate (4 - (lg_sl ([.ref (ad (60 + u)), .int (w), .int (c0), .int (d)])).length) Slot.unset).toArray = ls at hl ⊢
  have hl : lv_has ls 4 [(0, .ref (ad (60 + u))), (1, .int (w)), (2, .int (c0)), (3, .int (d))] := hl

  refine lv_aload_n hx hb d_S_begin_0 rfl (lv_at hl 0 rfl) ?_
  refine lv_iconst (v := 0) hx hb d_S_begin_1 (by decide) ?_
  refine p_S_state hx hb hts hown hK hP hD hS hu mw_37 d_S_begin_2 (fun H locs hP hD hS => ?_)
  refine lv_aload_n hx hb d_S_begin_5 rfl (lv_at hl 0 rfl) ?_
  refine lv_iload_n hx hb d_S_begin_6 rfl (lv_at hl 1 rfl) ?_
  refine p_S_way hx hb hts hown hK hP hD hS hu mw_40 d_S_begin_7 (fun H locs hP hD hS => ?_)
  refine lv_aload_n hx hb d_S_begin_10 rfl (lv_at hl 0 rfl) ?_
  refine lv_iload_n hx hb d_S_begin_11 rfl (lv_at hl 2 rfl) ?_
  refine p_S_code hx hb hts hown hK hP hD hS hu mw_42 d_S_begin_12 (fun H locs hP hD hS => ?_)
  refine lv_aload_n hx hb d_S_begin_15 rfl (lv_at hl 0 rfl) ?_
  refine lv_iload_n hx hb d_S_begin_16 rfl (lv_at hl 3 rfl) ?_
  refine p_S_since hx hb hts hown hK hP hD hS hu mw_44 d_S_begin_17 (fun H locs hP hD hS => ?_)
  refine lv_aload_n hx hb d_S_begin_20 rfl (lv_at hl 0 rfl) ?_
  refine lv_iconst (v := 0) hx hb d_S_begin_21 (by decide) ?_
  refine p_S_warning hx hb hts hown hK hP hD hS hu mw_47 d_S_begin_22 (fun H locs hP hD hS => ?_)
  refine lv_aload_n hx hb d_S_begin_25 rfl (lv_at hl 0 rfl) ?_
  refine lv_iconst (v := -1) hx hb d_S_begin_26 (by decide) ?_
  refine p_S_bounceDay hx hb hts hown hK hP hD hS hu mw_50 d_S_begin_27 (fun H locs hP hD hS => ?_)
  refine lv_aload_n hx hb d_S_begin_30 rfl (lv_at hl 0 rfl) ?_
  refine lv_dconst0 hx hb d_S_begin_31 ?_
  refine p_S_score hx hb hts hown hK hP hD hS hu mw_55 d_S_begin_32 (fun H locs hP hD hS => ?_)
  exact W.vret hx hb hr (fun t9 ht hW => ⟨⟨(pD (pI (pI (pI (pI (pI (pI t 0 u 0) 1 u w) 2 u c0) 3 u d) 4 u 0) 5 u (-1)) 0 u FP.dconst0), rfl, rfl, BX_at ht hW hP hK hD⟩, hS.F ht⟩) hS.2.2 d_S_begin_35
set_option maxHeartbeats 4000000 in
set_option maxRecDepth 100000 in
theorem c_S_becomeLive (l : Launch) (D : va_G) (ad : Nat → Nat) (ka : Nat → ClassId) (sz : Nat) (t : Mem) (u : Nat) (hu : u < 36) (d : Int32) : Met l y_S_becomeLive (Cond.code y_S_becomeLive b_S_becomeLive 2 none :: big) ({ frames := 0, cells := 0, slots := 0, locals := 0 }) (va_Pc [.ref (ad (60 + u)), .int (d)] (PX D ad ka sz t)) (va_Qv (fun t' : Mem => t' = S_becomeLive t u d) (BX D ad ka sz) (AX ad sz)) 0 0 (AX ad sz) := by
  refine Met.ofW (cc := b_S_becomeLive) (maxL := 2) (ret := none) (by decide) rfl ?_
  intro p e s m args below meth c s₁ B hml hv
  obtain ⟨rfl, hsz, hP, hK, hD0⟩ := hv
  have hx := B.exec
  have hb := B.bytes
  have hr := B.returns
  have hlocks := B.notSynchronized
  have hts := atoms_spec (ws := Cond.code y_S_becomeLive b_S_becomeLive 2 none :: big) B.pre
  have hown : s.vm.findClass "ListForge$Subscription" = some m.cls := findClass_of_methodNamed B.named
  subst hsz
  have hD : va_D (AX ad s.heap.size) (cw ad ka t) := AX_D hD0
  have hS : va_S (AX ad s.heap.size) s.heap s.heap [] := va_S.rf
  have hl := lv_entry ([.ref (ad (60 + u)), .int (d)]) (n := 2) (Nat.le_of_ble_eq_true rfl)
  rw [lg_entry_eq]
  generalize (lg_sl ([.ref (ad (60 + u)), .int (d)]) ++ List.replicate (2 - (lg_sl ([.ref (ad (60 + u)), .int (d)])).length) Slot.unset).toArray = ls at hl ⊢
  have hl : lv_has ls 2 [(0, .ref (ad (60 + u))), (1, .int (d))] := hl

  refine lv_aload_n hx hb d_S_becomeLive_0 rfl (lv_at hl 0 rfl) ?_
  refine lv_iconst (v := 1) hx hb d_S_becomeLive_1 (by decide) ?_
  refine p_S_state hx hb hts hown hK hP hD hS hu mw_37 d_S_becomeLive_2 (fun H locs hP hD hS => ?_)
  refine lv_aload_n hx hb d_S_becomeLive_5 rfl (lv_at hl 0 rfl) ?_
  refine lv_iload_n hx hb d_S_becomeLive_6 rfl (lv_at hl 1 rfl) ?_
  refine p_S_since hx hb hts hown hK hP hD hS hu mw_44 d_S_becomeLive_7 (fun H locs hP hD hS => ?_)
  refine lv_aload_n hx hb d_S_becomeLive_10 rfl (lv_at hl 0 rfl) ?_
  refine lv_iconst (v := 0) hx hb d_S_becomeLive_11 (by decide) ?_
  refine p_S_warning hx hb hts hown hK hP hD hS hu mw_47 d_S_becomeLive_12 (fun H locs hP hD hS => ?_)
  refine lv_aload_n hx hb d_S_becomeLive_15 rfl (lv_at hl 0 rfl) ?_
  refine lv_dconst0 hx hb d_S_becomeLive_16 ?_
  refine p_S_score hx hb hts hown hK hP hD hS hu mw_55 d_S_becomeLive_17 (fun H locs hP hD hS => ?_)
  exact W.vret hx hb hr (fun t9 ht hW => ⟨⟨(pD (pI (pI (pI t 0 u 1) 3 u d) 4 u 0) 0 u FP.dconst0), rfl, rfl, BX_at ht hW hP hK hD⟩, hS.F ht⟩) hS.2.2 d_S_becomeLive_20
set_option maxHeartbeats 4000000 in
set_option maxRecDepth 100000 in
theorem c_S_stop (l : Launch) (D : va_G) (ad : Nat → Nat) (ka : Nat → ClassId) (sz : Nat) (t : Mem) (u : Nat) (hu : u < 36) (d : Int32) : Met l y_S_stop (Cond.code y_S_stop b_S_stop 2 none :: big) ({ frames := 0, cells := 0, slots := 0, locals := 0 }) (va_Pc [.ref (ad (60 + u)), .int (d)] (PX D ad ka sz t)) (va_Qv (fun t' : Mem => t' = S_stop t u d) (BX D ad ka sz) (AX ad sz)) 0 0 (AX ad sz) := by
  refine Met.ofW (cc := b_S_stop) (maxL := 2) (ret := none) (by decide) rfl ?_
  intro p e s m args below meth c s₁ B hml hv
  obtain ⟨rfl, hsz, hP, hK, hD0⟩ := hv
  have hx := B.exec
  have hb := B.bytes
  have hr := B.returns
  have hlocks := B.notSynchronized
  have hts := atoms_spec (ws := Cond.code y_S_stop b_S_stop 2 none :: big) B.pre
  have hown : s.vm.findClass "ListForge$Subscription" = some m.cls := findClass_of_methodNamed B.named
  subst hsz
  have hD : va_D (AX ad s.heap.size) (cw ad ka t) := AX_D hD0
  have hS : va_S (AX ad s.heap.size) s.heap s.heap [] := va_S.rf
  have hl := lv_entry ([.ref (ad (60 + u)), .int (d)]) (n := 2) (Nat.le_of_ble_eq_true rfl)
  rw [lg_entry_eq]
  generalize (lg_sl ([.ref (ad (60 + u)), .int (d)]) ++ List.replicate (2 - (lg_sl ([.ref (ad (60 + u)), .int (d)])).length) Slot.unset).toArray = ls at hl ⊢
  have hl : lv_has ls 2 [(0, .ref (ad (60 + u))), (1, .int (d))] := hl

  refine lv_aload_n hx hb d_S_stop_0 rfl (lv_at hl 0 rfl) ?_
  refine lv_iconst (v := 2) hx hb d_S_stop_1 (by decide) ?_
  refine p_S_state hx hb hts hown hK hP hD hS hu mw_37 d_S_stop_2 (fun H locs hP hD hS => ?_)
  refine lv_aload_n hx hb d_S_stop_5 rfl (lv_at hl 0 rfl) ?_
  refine lv_iload_n hx hb d_S_stop_6 rfl (lv_at hl 1 rfl) ?_
  refine p_S_since hx hb hts hown hK hP hD hS hu mw_44 d_S_stop_7 (fun H locs hP hD hS => ?_)
  refine lv_aload_n hx hb d_S_stop_10 rfl (lv_at hl 0 rfl) ?_
  refine lv_iconst (v := 1) hx hb d_S_stop_11 (by decide) ?_
  refine p_S_warning hx hb hts hown hK hP hD hS hu mw_47 d_S_stop_12 (fun H locs hP hD hS => ?_)
  exact W.vret hx hb hr (fun t9 ht hW => ⟨⟨(pI (pI (pI t 0 u 2) 3 u d) 4 u 1), rfl, rfl, BX_at ht hW hP hK hD⟩, hS.F ht⟩) hS.2.2 d_S_stop_15
set_option maxHeartbeats 4000000 in
set_option maxRecDepth 100000 in
theorem c_S_end (l : Launch) (D : va_G) (ad : Nat → Nat) (ka : Nat → ClassId) (sz : Nat) (t : Mem) (u : Nat) (hu : u < 36) : Met l y_S_end (Cond.code y_S_end b_S_end 1 none :: big) ({ frames := 0, cells := 0, slots := 0, locals := 0 }) (va_Pc [.ref (ad (60 + u))] (PX D ad ka sz t)) (va_Qv (fun t' : Mem => t' = S_end t u) (BX D ad ka sz) (AX ad sz)) 0 0 (AX ad sz) := by
  refine Met.ofW (cc := b_S_end) (maxL := 1) (ret := none) (by decide) rfl ?_
  intro p e s m args below meth c s₁ B hml hv
  obtain ⟨rfl, hsz, hP, hK, hD0⟩ := hv
  have hx := B.exec
  have hb := B.bytes
  have hr := B.returns
  have hlocks := B.notSynchronized
  have hts := atoms_spec (ws := Cond.code y_S_end b_S_end 1 none :: big) B.pre
  have hown : s.vm.findClass "ListForge$Subscription" = some m.cls := findClass_of_methodNamed B.named
  subst hsz
  have hD : va_D (AX ad s.heap.size) (cw ad ka t) := AX_D hD0
  have hS : va_S (AX ad s.heap.size) s.heap s.heap [] := va_S.rf
  have hl := lv_entry ([.ref (ad (60 + u))]) (n := 1) (Nat.le_of_ble_eq_true rfl)
  rw [lg_entry_eq]
  generalize (lg_sl ([.ref (ad (60 + u))]) ++ List.replicate (1 - (lg_sl ([.ref (ad (60 + u))])).length) Slot.unset).toArray = ls at hl ⊢
  have hl : lv_has ls 1 [(0, .ref (ad (60 + u)))] := hl

  refine lv_aload_n hx hb d_S_end_0 rfl (lv_at hl 0 rfl) ?_
  refine lv_iconst (v := -1) hx hb d_S_end_1 (by decide) ?_
  refine p_S_state hx hb hts hown hK hP hD hS hu mw_37 d_S_end_2 (fun H locs hP hD hS => ?_)
  refine lv_aload_n hx hb d_S_end_5 rfl (lv_at hl 0 rfl) ?_
  refine lv_iconst (v := 0) hx hb d_S_end_6 (by decide) ?_
  refine p_S_moderates hx hb hts hown hK hP hD hS hu (by decide) mw_52 d_S_end_7 (fun H locs hP hD hS => ?_)
  exact W.vret hx hb hr (fun t9 ht hW => ⟨⟨(pI (pI t 0 u (-1)) 6 u 0), rfl, rfl, BX_at ht hW hP hK hD⟩, hS.F ht⟩) hS.2.2 d_S_end_10
set_option maxHeartbeats 4000000 in
set_option maxRecDepth 100000 in
theorem c_S_takes (l : Launch) (D : va_G) (ad : Nat → Nat) (ka : Nat → ClassId) (sz : Nat) (t : Mem) (u : Nat) (hu : u < 36) (w : Int32) : Met l y_S_takes (Cond.code y_S_takes b_S_takes 2 (some .boolean) :: big) ({ frames := 0, cells := 0, slots := 0, locals := 0 }) (va_Pc [.ref (ad (60 + u)), .int (w)] (PX D ad ka sz t)) (va_Qi (fun (r : Int32) (t' : Mem) => r = S_takes t u w ∧ t' = t) (BX D ad ka sz) (AX ad sz)) 0 0 (AX ad sz) := by
  refine Met.ofW (cc := b_S_takes) (maxL := 2) (ret := (some .boolean)) (by decide) rfl ?_
  intro p e s m args below meth c s₁ B hml hv
  obtain ⟨rfl, hsz, hP, hK, hD0⟩ := hv
  have hx := B.exec
  have hb := B.bytes
  have hr := B.returns
  have hlocks := B.notSynchronized
  have hts := atoms_spec (ws := Cond.code y_S_takes b_S_takes 2 (some .boolean) :: big) B.pre
  have hown : s.vm.findClass "ListForge$Subscription" = some m.cls := findClass_of_methodNamed B.named
  subst hsz
  have hD : va_D (AX ad s.heap.size) (cw ad ka t) := AX_D hD0
  have hS : va_S (AX ad s.heap.size) s.heap s.heap [] := va_S.rf
  have hl := lv_entry ([.ref (ad (60 + u)), .int (w)]) (n := 2) (Nat.le_of_ble_eq_true rfl)
  rw [lg_entry_eq]
  generalize (lg_sl ([.ref (ad (60 + u)), .int (w)]) ++ List.replicate (2 - (lg_sl ([.ref (ad (60 + u)), .int (w)])).length) Slot.unset).toArray = ls at hl ⊢
  have hl : lv_has ls 2 [(0, .ref (ad (60 + u))), (1, .int (w))] := hl

  refine lv_aload_n hx hb d_S_takes_0 rfl (lv_at hl 0 rfl) ?_
  refine g_S_state hx hb hts hown hK hP hu mw_37 d_S_takes_1 ?_
  refine lv_iconst (v := 1) hx hb d_S_takes_4 (by decide) ?_
  refine lv_icmp_ne (tgt := 20) hx hb d_S_takes_5 (by decide) (fun c1 => ?_) (fun c1 => ?_)
  · have _u : True := trivial
    refine lv_iconst (v := 0) hx hb d_S_takes_20 (by decide) ?_
    exact W.zret (v := 0) hx hb hr rfl (fun t9 ht hW => ⟨⟨0, t, rfl, ⟨by simp [S_takes, c1], rfl⟩, BX_at ht hW hP hK hD⟩, hS.F ht⟩) hS.2.2 d_S_takes_21
  · have _u : True := trivial
    refine lv_aload_n hx hb d_S_takes_8 rfl (lv_at hl 0 rfl) ?_
    refine g_S_way hx hb hts hown hK hP hu mw_40 d_S_takes_9 ?_
    refine lv_iload_n hx hb d_S_takes_12 rfl (lv_at hl 1 rfl) ?_
    refine lv_icmp_ne (tgt := 20) hx hb d_S_takes_13 (by decide) (fun c2 => ?_) (fun c2 => ?_)
    · have _u : True := trivial
      refine lv_iconst (v := 0) hx hb d_S_takes_20 (by decide) ?_
      exact W.zret (v := 0) hx hb hr rfl (fun t9 ht hW => ⟨⟨0, t, rfl, ⟨by simp [S_takes, c1, c2], rfl⟩, BX_at ht hW hP hK hD⟩, hS.F ht⟩) hS.2.2 d_S_takes_21
    · have _u : True := trivial
      refine lv_iconst (v := 1) hx hb d_S_takes_16 (by decide) ?_
      refine lv_goto (tgt := 21) hx hb d_S_takes_17 (by decide) ?_
      exact W.zret (v := 1) hx hb hr rfl (fun t9 ht hW => ⟨⟨1, t, rfl, ⟨by simp [S_takes, c1, c2], rfl⟩, BX_at ht hW hP hK hD⟩, hS.F ht⟩) hS.2.2 d_S_takes_21
set_option maxHeartbeats 4000000 in
set_option maxRecDepth 100000 in
theorem c_S_fade (l : Launch) (D : va_G) (ad : Nat → Nat) (ka : Nat → ClassId) (sz : Nat) (t : Mem) (u : Nat) (hu : u < 36) (ho : OKX t) (d : Int32) : Met l y_S_fade (Cond.code y_S_fade b_S_fade 4 none :: big) ({ frames := 0, cells := 0, slots := 0, locals := 0 }) (va_Pc [.ref (ad (60 + u)), .int (d)] (PX D ad ka sz t)) (va_Qv (fun t' : Mem => t' = S_fade t u d) (BX D ad ka sz) (AX ad sz)) 0 0 (AX ad sz) := by
  refine Met.ofW (cc := b_S_fade) (maxL := 4) (ret := none) (by decide) rfl ?_
  intro p e s m args below meth c s₁ B hml hv
  obtain ⟨rfl, hsz, hP, hK, hD0⟩ := hv
  have hx := B.exec
  have hb := B.bytes
  have hr := B.returns
  have hlocks := B.notSynchronized
  have hts := atoms_spec (ws := Cond.code y_S_fade b_S_fade 4 none :: big) B.pre
  have hown : s.vm.findClass "ListForge$Subscription" = some m.cls := findClass_of_methodNamed B.named
  subst hsz
  have hD : va_D (AX ad s.heap.size) (cw ad ka t) := AX_D hD0
  have hS : va_S (AX ad s.heap.size) s.heap s.heap [] := va_S.rf
  have hl := lv_entry ([.ref (ad (60 + u)), .int (d)]) (n := 4) (Nat.le_of_ble_eq_true rfl)
  rw [lg_entry_eq]
  generalize (lg_sl ([.ref (ad (60 + u)), .int (d)]) ++ List.replicate (4 - (lg_sl ([.ref (ad (60 + u)), .int (d)])).length) Slot.unset).toArray = ls at hl ⊢
  have hl : lv_has ls 4 [(0, .ref (ad (60 + u))), (1, .int (d))] := hl

  refine lv_aload_n hx hb d_S_fade_0 rfl (lv_at hl 0 rfl) ?_
  refine g_S_bounceDay hx hb hts hown hK hP hu mw_50 d_S_fade_1 ?_
  refine lv_iload_n hx hb d_S_fade_4 rfl (lv_at hl 1 rfl) ?_
  refine lv_iconst (v := 1) hx hb d_S_fade_5 (by decide) ?_
  refine lv_isub hx hb d_S_fade_6 ?_
  refine lv_icmp_eq (tgt := 36) hx hb d_S_fade_7 (by decide) (fun c1 => ?_) (fun c1 => ?_)
  · have _u : True := trivial
    exact W.vret hx hb hr (fun t9 ht hW => ⟨⟨t, rfl, (by simp [S_fade, fadeD, c1]), BX_at ht hW hP hK hD⟩, hS.F ht⟩) hS.2.2 d_S_fade_36
  · have _u : True := trivial
    refine lv_aload_n hx hb d_S_fade_10 rfl (lv_at hl 0 rfl) ?_
    refine g_S_score hx hb hts hown hK hP hu mw_55 d_S_fade_11 ?_
    refine lv_ldc2d (own := "ListForge$Subscription") (v := 4606056518893174784) hx hb hown (bg hts mw_520) d_S_fade_14 ?_
    refine lv_dmul hx hb d_S_fade_17 (NN_nan (NN_875 (OKX_NN ho u))) ?_
    refine lv_dstore_n (lv' := [(2, .double (FP.dmul (gD t 0 u) 4606056518893174784)), (0, .ref (ad (60 + u))), (1, .int (d))]) hx hb d_S_fade_18 rfl hl (by decide) rfl (fun ls hl => ?_)
    refine lv_aload_n hx hb d_S_fade_19 rfl (lv_at hl 1 rfl) ?_
    refine lv_dload_n hx hb d_S_fade_20 rfl (lv_at hl 0 rfl) ?_
    refine lv_ldc2d (own := "ListForge$Subscription") (v := 4598175219545276416) hx hb hown (bg hts mw_521) d_S_fade_21 ?_
    refine lv_dcmp hx hb d_S_fade_24 ?_
    refine lv_if_ge (tgt := 32) hx hb d_S_fade_25 (by decide) (fun c2 => ?_) (fun c2 => ?_)
    · have _u : True := trivial
      refine lv_dload_n hx hb d_S_fade_32 rfl (lv_at hl 0 rfl) ?_
      refine p_S_score hx hb hts hown hK hP hD hS hu mw_55 d_S_fade_33 (fun H locs hP hD hS => ?_)
      exact W.vret hx hb hr (fun t9 ht hW => ⟨⟨(pD t 0 u (FP.dmul (gD t 0 u) 4606056518893174784)), rfl, (by simp [S_fade, fadeD, c1, c2]), BX_at ht hW hP hK hD⟩, hS.F ht⟩) hS.2.2 d_S_fade_36
    · have _u : True := trivial
      refine lv_dconst0 hx hb d_S_fade_28 ?_
      refine lv_goto (tgt := 33) hx hb d_S_fade_29 (by decide) ?_
      refine p_S_score hx hb hts hown hK hP hD hS hu mw_55 d_S_fade_33 (fun H locs hP hD hS => ?_)
      exact W.vret hx hb hr (fun t9 ht hW => ⟨⟨(pD t 0 u FP.dconst0), rfl, (by simp [S_fade, fadeD, c1, c2]), BX_at ht hW hP hK hD⟩, hS.F ht⟩) hS.2.2 d_S_fade_36
set_option maxHeartbeats 4000000 in
set_option maxRecDepth 100000 in
theorem c_P_comeIn (l : Launch) (D : va_G) (ad : Nat → Nat) (ka : Nat → ClassId) (sz : Nat) (t : Mem) (u : Nat) (hu : u < 40) (x a z : Int32) : Met l y_P_comeIn (Cond.code y_P_comeIn b_P_comeIn 4 none :: big) ({ frames := 0, cells := 0, slots := 0, locals := 0 }) (va_Pc [.ref (ad (20 + u)), .int (x), .int (a), .int (z)] (PX D ad ka sz t)) (va_Qv (fun t' : Mem => t' = P_comeIn t u x a z) (BX D ad ka sz) (AX ad sz)) 0 0 (AX ad sz) := by
  refine Met.ofW (cc := b_P_comeIn) (maxL := 4) (ret := none) (by decide) rfl ?_
  intro p e s m args below meth c s₁ B hml hv
  obtain ⟨rfl, hsz, hP, hK, hD0⟩ := hv
  have hx := B.exec
  have hb := B.bytes
  have hr := B.returns
  have hlocks := B.notSynchronized
  have hts := atoms_spec (ws := Cond.code y_P_comeIn b_P_comeIn 4 none :: big) B.pre
  have hown : s.vm.findClass "ListForge$Post" = some m.cls := findClass_of_methodNamed B.named
  subst hsz
  have hD : va_D (AX ad s.heap.size) (cw ad ka t) := AX_D hD0
  have hS : va_S (AX ad s.heap.size) s.heap s.heap [] := va_S.rf
  have hl := lv_entry ([.ref (ad (20 + u)), .int (x), .int (a), .int (z)]) (n := 4) (Nat.le_of_ble_eq_true rfl)
  rw [lg_entry_eq]
  generalize (lg_sl ([.ref (ad (20 + u)), .int (x), .int (a), .int (z)]) ++ List.replicate (4 - (lg_sl ([.ref (ad (20 + u)), .int (x), .int (a), .int (z)])).length) Slot.unset).toArray = ls at hl ⊢
  have hl : lv_has ls 4 [(0, .ref (ad (20 + u))), (1, .int (x)), (2, .int (a)), (3, .int (z))] := hl

  refine lv_aload_n hx hb d_P_comeIn_0 rfl (lv_at hl 0 rfl) ?_
  refine lv_iload_n hx hb d_P_comeIn_1 rfl (lv_at hl 1 rfl) ?_
  refine p_P_list hx hb hts hown hK hP hD hS hu mw_125 d_P_comeIn_2 (fun H locs hP hD hS => ?_)
  refine lv_aload_n hx hb d_P_comeIn_5 rfl (lv_at hl 0 rfl) ?_
  refine lv_iload_n hx hb d_P_comeIn_6 rfl (lv_at hl 2 rfl) ?_
  refine p_P_sender hx hb hts hown hK hP hD hS hu mw_127 d_P_comeIn_7 (fun H locs hP hD hS => ?_)
  refine lv_aload_n hx hb d_P_comeIn_10 rfl (lv_at hl 0 rfl) ?_
  refine lv_iload_n hx hb d_P_comeIn_11 rfl (lv_at hl 3 rfl) ?_
  refine p_P_size hx hb hts hown hK hP hD hS hu mw_130 d_P_comeIn_12 (fun H locs hP hD hS => ?_)
  refine lv_aload_n hx hb d_P_comeIn_15 rfl (lv_at hl 0 rfl) ?_
  refine lv_iconst (v := 0) hx hb d_P_comeIn_16 (by decide) ?_
  refine p_P_fate hx hb hts hown hK hP hD hS hu mw_132 d_P_comeIn_17 (fun H locs hP hD hS => ?_)
  exact W.vret hx hb hr (fun t9 ht hW => ⟨⟨(pI (pI (pI (pI t 20 u x) 21 u a) 22 u z) 23 u 0), rfl, rfl, BX_at ht hW hP hK hD⟩, hS.F ht⟩) hS.2.2 d_P_comeIn_20
set_option maxHeartbeats 4000000 in
set_option maxRecDepth 100000 in
theorem c_O_add (l : Launch) (D : va_G) (ad : Nat → Nat) (ka : Nat → ClassId) (sz : Nat) (t : Mem) (ho : OKX t) (a x s0 n0 : Int32) : Met l y_O_add (Cond.code y_O_add b_O_add 5 none :: big) ({ frames := 0, cells := 0, slots := 0, locals := 0 }) (va_Pc [.ref (ad (3)), .int (a), .int (x), .int (s0), .int (n0)] (PX D ad ka sz t)) (va_Qv (fun t' : Mem => t' = O_add t a x s0 n0) (BX D ad ka sz) (AX ad sz)) 0 0 (AX ad sz) := by
  refine Met.ofW (cc := b_O_add) (maxL := 5) (ret := none) (by decide) rfl ?_
  intro p e s m args below meth c s₁ B hml hv
  obtain ⟨rfl, hsz, hP, hK, hD0⟩ := hv
  have hx := B.exec
  have hb := B.bytes
  have hr := B.returns
  have hlocks := B.notSynchronized
  have hts := atoms_spec (ws := Cond.code y_O_add b_O_add 5 none :: big) B.pre
  have hown : s.vm.findClass "ListForge$Outbox" = some m.cls := findClass_of_methodNamed B.named
  subst hsz
  have hD : va_D (AX ad s.heap.size) (cw ad ka t) := AX_D hD0
  have hS : va_S (AX ad s.heap.size) s.heap s.heap [] := va_S.rf
  have hl := lv_entry ([.ref (ad (3)), .int (a), .int (x), .int (s0), .int (n0)]) (n := 5) (Nat.le_of_ble_eq_true rfl)
  rw [lg_entry_eq]
  generalize (lg_sl ([.ref (ad (3)), .int (a), .int (x), .int (s0), .int (n0)]) ++ List.replicate (5 - (lg_sl ([.ref (ad (3)), .int (a), .int (x), .int (s0), .int (n0)])).length) Slot.unset).toArray = ls at hl ⊢
  have hl : lv_has ls 5 [(0, .ref (ad (3))), (1, .int (a)), (2, .int (x)), (3, .int (s0)), (4, .int (n0))] := hl

  obtain ⟨k, hk0, hk⟩ := OKX_kept ho
  have hkc : (nI k).toNatClampNeg = k := nI_clamp (by omega)
  refine lv_aload_n hx hb d_O_add_0 rfl (lv_at hl 0 rfl) ?_
  refine lv_dup hx hb d_O_add_1 rfl ?_
  refine g_O_total hx hb hts hown hK hP mw_159 d_O_add_2 ?_
  refine lv_iconst (v := 1) hx hb d_O_add_5 (by decide) ?_
  refine lv_iadd hx hb d_O_add_6 ?_
  refine p_O_total hx hb hts hown hK hP hD hS mw_159 d_O_add_7 (fun H locs hP hD hS => ?_)
  refine lv_aload_n hx hb d_O_add_10 rfl (lv_at hl 0 rfl) ?_
  refine g_O_kept hx hb hts hown hK hP mw_157 d_O_add_11 ?_
  refine lv_bipush (v := 60) hx hb d_O_add_14 (by decide) ?_
  refine lv_icmp_ge (tgt := 70) hx hb d_O_add_16 (by decide) (fun c1 => ?_) (fun c1 => ?_)
  · have _u : True := trivial
    have hk6 : ¬ k < 60 := by have q := nI_eq_of (x := 60) (N := 60) rfl (by decide) hk0 (by simpa [gI_pI, hk] using c1); omega
    exact W.vret hx hb hr (fun t9 ht hW => ⟨⟨(pI t 29 0 ((gI t 29 0) + 1)), rfl, (by simp [O_add, gI_pI, hk, hkc, hk6]), BX_at ht hW hP hK hD⟩, hS.F ht⟩) hS.2.2 d_O_add_70
  · have _u : True := trivial
    have hk6 : k < 60 := nI_lt_of (x := 60) (N := 60) rfl hk0 (by simpa [gI_pI, hk] using c1)
    refine lv_aload_n hx hb d_O_add_19 rfl (lv_at hl 0 rfl) ?_
    refine g_O_addresses hx hb hts hown hK hP mw_149 d_O_add_20 ?_
    refine lv_aload_n hx hb d_O_add_23 rfl (lv_at hl 0 rfl) ?_
    refine g_O_kept hx hb hts hown hK hP mw_157 d_O_add_24 ?_
    refine lv_iload_n hx hb d_O_add_27 rfl (lv_at hl 1 rfl) ?_
    refine p_out (u := 0) hx hb hK hP hD hS (by decide) (r := k) hk6 (by simp [gI_pI, hk]) d_O_add_28 (fun H locs hP hD hS => ?_)
    refine lv_aload_n hx hb d_O_add_29 rfl (lv_at hl 0 rfl) ?_
    refine g_O_lists hx hb hts hown hK hP mw_151 d_O_add_30 ?_
    refine lv_aload_n hx hb d_O_add_33 rfl (lv_at hl 0 rfl) ?_
    refine g_O_kept hx hb hts hown hK hP mw_157 d_O_add_34 ?_
    refine lv_iload_n hx hb d_O_add_37 rfl (lv_at hl 2 rfl) ?_
    refine p_out (u := 1) hx hb hK hP hD hS (by decide) (r := k) hk6 (by simp [gI_pI, hk]) d_O_add_38 (fun H locs hP hD hS => ?_)
    refine lv_aload_n hx hb d_O_add_39 rfl (lv_at hl 0 rfl) ?_
    refine g_O_sorts hx hb hts hown hK hP mw_153 d_O_add_40 ?_
    refine lv_aload_n hx hb d_O_add_43 rfl (lv_at hl 0 rfl) ?_
    refine g_O_kept hx hb hts hown hK hP mw_157 d_O_add_44 ?_
    refine lv_iload_n hx hb d_O_add_47 rfl (lv_at hl 3 rfl) ?_
    refine p_out (u := 2) hx hb hK hP hD hS (by decide) (r := k) hk6 (by simp [gI_pI, hk]) d_O_add_48 (fun H locs hP hD hS => ?_)
    refine lv_aload_n hx hb d_O_add_49 rfl (lv_at hl 0 rfl) ?_
    refine g_O_numbers hx hb hts hown hK hP mw_155 d_O_add_50 ?_
    refine lv_aload_n hx hb d_O_add_53 rfl (lv_at hl 0 rfl) ?_
    refine g_O_kept hx hb hts hown hK hP mw_157 d_O_add_54 ?_
    refine lv_iload hx hb d_O_add_57 (lv_at hl 4 rfl) ?_
    refine p_out (u := 3) hx hb hK hP hD hS (by decide) (r := k) hk6 (by simp [gI_pI, hk]) d_O_add_59 (fun H locs hP hD hS => ?_)
    refine lv_aload_n hx hb d_O_add_60 rfl (lv_at hl 0 rfl) ?_
    refine lv_dup hx hb d_O_add_61 rfl ?_
    refine g_O_kept hx hb hts hown hK hP mw_157 d_O_add_62 ?_
    refine lv_iconst (v := 1) hx hb d_O_add_65 (by decide) ?_
    refine lv_iadd hx hb d_O_add_66 ?_
    refine p_O_kept hx hb hts hown hK hP hD hS mw_157 d_O_add_67 (fun H locs hP hD hS => ?_)
    exact W.vret hx hb hr (fun t9 ht hW => ⟨⟨(pI (pI (pI (pI (pI (pI t 29 0 ((gI t 29 0) + 1)) (1004 + 0) k a) (1004 + 1) k x) (1004 + 2) k s0) (1004 + 3) k n0) 28 0 ((gI (pI (pI (pI (pI (pI t 29 0 ((gI t 29 0) + 1)) (1004 + 0) k a) (1004 + 1) k x) (1004 + 2) k s0) (1004 + 3) k n0) 28 0) + 1)), rfl, (by simp [O_add, gI_pI, hk, hkc, hk6]), BX_at ht hW hP hK hD⟩, hS.F ht⟩) hS.2.2 d_O_add_70
