theorem ask_t (t : Mem) (x : Int32) (a : Int32) (w : Int32) (h9 : ¬ (askR t x a w).1 = 0) : (askR t x a w).2.2 = t := by
  revert h9
  unfold askR
  repeat' split
  all_goals first | (intro h; exact absurd rfl h) | (intro _; rfl)
set_option maxHeartbeats 4000000 in
set_option maxRecDepth 100000 in
theorem c_W_ask (l : Launch) (hl0 : l.stackTraces = false) (D : va_G) (ad : Nat → Nat) (ka : Nat → ClassId) (sa : Nat → Nat) (sz : Nat) (t : Mem) (ho : OKX t) (x : Int32) (a : Int32) (w : Int32) (qo : Nat) (kl : ClassId) (f : Nat → Int64) : Met l y_W_ask (Cond.codeWith y_W_ask b_W_ask 6 (some .int) [(0, 12, 15, 13), (0, 12, 19, 15), (0, 12, 23, 17)] :: big) ({ frames := 9, cells := 3, slots := 18, locals := 149 }) (va_Pc [.ref (ad 0), .int (x), .int (a), .int (w), .ref qo] (PH D ad ka sa sz t qo kl .long (oL f))) (va_Qi (fun (kr : Int32) (zz : Mem × (Nat → Int64)) => ∃ (n : Nat) (r : Int32), kr = nI n ∧ n < 4 ∧ askR t x a w = (n, r, zz.1) ∧ (n = 0 → zz.2 0 = r.toInt64)) (fun (zz : Mem × (Nat → Int64)) (U : State) => BH D ad ka sz qo kl zz.1 (oL zz.2) U) (AO ad qo sz)) 3 18 (AO ad qo sz) := by
  refine met_ofWH (cc := b_W_ask) (maxL := 6) (ret := some .int) (hh := [(0, 12, 15, 13), (0, 12, 19, 15), (0, 12, 23, 17)]) (by decide) rfl ?_
  intro p e s m args below meth c s₁ B hml hv
  obtain ⟨rfl, ⟨⟨hsz, hP, hK, hD0⟩, hZ⟩, ⟨hPo, hKo⟩, hne, hNc⟩ := hv
  have hx := B.exec
  have hb := B.bytes
  have hr := B.returns
  have hlocks := B.notSynchronized
  have hts := atoms_spec (ws := Cond.codeWith y_W_ask b_W_ask 6 (some .int) [(0, 12, 15, 13), (0, 12, 19, 15), (0, 12, 23, 17)] :: big) B.pre
  have hown : s.vm.findClass "ListForgeLaw" = some m.cls := findClass_of_methodNamed B.named
  have hTb := vx_table (x := y_W_ask) B (hts _ List.mem_cons_self)
  subst hsz
  have hD : va_D (AX ad s.heap.size) (cw ad ka t) := AX_D hD0
  have hS : va_S (AO ad qo s.heap.size) s.heap s.heap [] := va_S.rf
  have hl := lv_entry ([.ref (ad 0), .int (x), .int (a), .int (w), .ref qo]) (n := 6) (Nat.le_of_ble_eq_true rfl)
  rw [lg_entry_eq]
  generalize (lg_sl ([.ref (ad 0), .int (x), .int (a), .int (w), .ref qo]) ++ List.replicate (6 - (lg_sl ([.ref (ad 0), .int (x), .int (a), .int (w), .ref qo])).length) Slot.unset).toArray = ls at hl ⊢
  have hl : lv_has ls 6 [(0, .ref (ad 0)), (1, .int (x)), (2, .int (a)), (3, .int (w)), (4, .ref qo)] := hl
  refine lv_aload hx hb d_W_ask_0 (lv_at hl 4 rfl) ?_
  refine lv_iconst (v := 0) hx hb d_W_ask_2 (by decide) ?_
  refine lv_aload_n hx hb d_W_ask_3 rfl (lv_at hl 0 rfl) ?_
  refine lv_iload_n hx hb d_W_ask_4 rfl (lv_at hl 1 rfl) ?_
  refine lv_iload_n hx hb d_W_ask_5 rfl (lv_at hl 2 rfl) ?_
  refine lv_iload_n hx hb d_W_ask_6 rfl (lv_at hl 3 rfl) ?_
  refine vx_calli (vx_runV (As := [.int (x), .int (a), .int (w)]) (rest := [.int 0, .ref qo]) ⟨hx, hb, hml, hown, hts⟩ (c_F_ask l hl0 D ad ka sa s.heap.size t ho x a w) (cwV 3 hts (gv mw_200 mw_201 mw_202 mw_1 mw_203) rfl rfl rfl (by decide +kernel) ⟨Nat.le_of_ble_eq_true rfl, Nat.le_of_ble_eq_true rfl⟩) ⟨PZ_blind, va_recv hK hP (ci := 4) (q0 := 0) rfl at_F, fun U hU hW => ⟨rfl, PX_at hU hW hP hK hD, ZX_at hU hW hZ va_S.rf⟩⟩ rfl rfl hl.1 rfl (lv_room (Nat.le_of_ble_eq_true rfl)) d_W_ask_7 ⟨Nat.le_of_ble_eq_true rfl, Nat.le_of_ble_eq_true rfl⟩) hS (fun q _ h => Or.inl h) (fun q h => Or.inl h) (fun q _ h => Or.inl h) (fun E ce q9 _ tq H1 locs ht hvm _ hB hz1 hk1 hS hce hcv hcl => ?_) (fun r t2 tq H1 locs ht hvm hw hB hz1 hk1 hS => ?_)
  · have hPo1 := o_kept hPo rfl hne hk1
    obtain ⟨hE, hB⟩ := hB
    rcases hE with ⟨rfl, hk⟩ | ⟨rfl, hk⟩ | ⟨rfl, hk⟩
    · refine vx_catch (own := "ListForgeLaw") (name := "java/lang/IllegalArgumentException") hown [] ⟨0, 12, 15, 13⟩ [⟨0, 12, 19, 15⟩, ⟨0, 12, 23, 17⟩] (hTb.trans rfl) (fun z hz => absurd hz List.not_mem_nil) rfl (by decide) (bg hts mw_197) (va_Nw.use (NB_ot _ (List.mem_of_getElem? (i := 0) rfl)) (hZ.1 _ (List.mem_of_getElem? (i := 0) rfl))) hce hcv hcl ?_
      refine W.eq (g2 := F0 m 15 ls [.ref q9]) rfl ?_
      refine lv_astore (lv' := [(5, .ref q9), (0, .ref (ad 0)), (1, .int (x)), (2, .int (a)), (3, .int (w)), (4, .ref qo)]) hx hb d_W_ask_15 hl (by decide) rfl (fun ls hl => ?_)
      refine lv_iconst (v := 1) hx hb d_W_ask_17 (by decide) ?_
      exact W.iret (v := 1) hx hb hr (fun t9 e9 hW => ⟨⟨1, (t, f), rfl, ⟨1, (askR t x a w).2.1, rfl, by decide, Prod.ext hk (Prod.ext rfl (ask_t t x a w (by rw [hk]; decide))), fun h => absurd h (by decide)⟩, ⟨by rw [e9, ← ht]; exact hB.1, va_K.moved hW.alike hK, hB.2.2⟩, by rw [e9]; exact hPo1⟩, hS.F e9⟩) hS.2.2 d_W_ask_18
    · refine vx_catch (own := "ListForgeLaw") (name := "java/lang/IllegalStateException") hown [⟨0, 12, 15, 13⟩] ⟨0, 12, 19, 15⟩ [⟨0, 12, 23, 17⟩] (hTb.trans rfl) (List.forall_mem_cons.mpr ⟨Or.inr ⟨by decide, _, bg hts mw_197, hNc ("java/lang/IllegalStateException", "java/lang/IllegalArgumentException") (by decide +kernel)⟩, fun z hz => absurd hz List.not_mem_nil⟩) rfl (by decide) (bg hts mw_198) (va_Nw.use (NB_ot _ (List.mem_of_getElem? (i := 1) rfl)) (hZ.1 _ (List.mem_of_getElem? (i := 1) rfl))) hce hcv hcl ?_
      refine W.eq (g2 := F0 m 19 ls [.ref q9]) rfl ?_
      refine lv_astore (lv' := [(5, .ref q9), (0, .ref (ad 0)), (1, .int (x)), (2, .int (a)), (3, .int (w)), (4, .ref qo)]) hx hb d_W_ask_19 hl (by decide) rfl (fun ls hl => ?_)
      refine lv_iconst (v := 2) hx hb d_W_ask_21 (by decide) ?_
      exact W.iret (v := 2) hx hb hr (fun t9 e9 hW => ⟨⟨2, (t, f), rfl, ⟨2, (askR t x a w).2.1, rfl, by decide, Prod.ext hk (Prod.ext rfl (ask_t t x a w (by rw [hk]; decide))), fun h => absurd h (by decide)⟩, ⟨by rw [e9, ← ht]; exact hB.1, va_K.moved hW.alike hK, hB.2.2⟩, by rw [e9]; exact hPo1⟩, hS.F e9⟩) hS.2.2 d_W_ask_22
    · refine vx_catch (own := "ListForgeLaw") (name := "java/lang/UnsupportedOperationException") hown [⟨0, 12, 15, 13⟩, ⟨0, 12, 19, 15⟩] ⟨0, 12, 23, 17⟩ [] (hTb.trans rfl) (List.forall_mem_cons.mpr ⟨Or.inr ⟨by decide, _, bg hts mw_197, hNc ("java/lang/UnsupportedOperationException", "java/lang/IllegalArgumentException") (by decide +kernel)⟩, List.forall_mem_cons.mpr ⟨Or.inr ⟨by decide, _, bg hts mw_198, hNc ("java/lang/UnsupportedOperationException", "java/lang/IllegalStateException") (by decide +kernel)⟩, fun z hz => absurd hz List.not_mem_nil⟩⟩) rfl (by decide) (bg hts mw_199) (va_Nw.use (NB_ot _ (List.mem_of_getElem? (i := 2) rfl)) (hZ.1 _ (List.mem_of_getElem? (i := 2) rfl))) hce hcv hcl ?_
      refine W.eq (g2 := F0 m 23 ls [.ref q9]) rfl ?_
      refine lv_astore (lv' := [(5, .ref q9), (0, .ref (ad 0)), (1, .int (x)), (2, .int (a)), (3, .int (w)), (4, .ref qo)]) hx hb d_W_ask_23 hl (by decide) rfl (fun ls hl => ?_)
      refine lv_iconst (v := 3) hx hb d_W_ask_25 (by decide) ?_
      exact W.iret (v := 3) hx hb hr (fun t9 e9 hW => ⟨⟨3, (t, f), rfl, ⟨3, (askR t x a w).2.1, rfl, by decide, Prod.ext hk (Prod.ext rfl (ask_t t x a w (by rw [hk]; decide))), fun h => absurd h (by decide)⟩, ⟨by rw [e9, ← ht]; exact hB.1, va_K.moved hW.alike hK, hB.2.2⟩, by rw [e9]; exact hPo1⟩, hS.F e9⟩) hS.2.2 d_W_ask_26
  · have hPo1 := o_kept hPo rfl hne hk1
    have hP1 : va_P D cls (cw ad ka t2) H1 := ht ▸ hB.1
    obtain ⟨hPj, hDj⟩ := oj hP1 hB.2.2 hPo1 hne
    have hKj := hK.app hKo
    refine lv_i2l hx hb d_W_ask_10 rfl ?_
    refine va_last (D := D) hx hb hKj hPj hDj hS (cw ad ka t2).length 5 (la_at _ _) rfl (by unfold vp_in; decide) d_W_ask_11 (fun H locs hP hD hS => ?_)
    rw [la_set] at hP hD
    refine lv_goto (tgt := 27) hx hb d_W_ask_12 (by decide) ?_
    refine lv_iconst (v := 0) hx hb d_W_ask_27 (by decide) ?_
    exact W.iret (v := 0) hx hb hr (fun t9 e9 hW => ⟨⟨0, (t2, vp_updL f 0 (r.toInt64)), rfl, ⟨0, r, rfl, by decide, hw, fun _ => rfl⟩, ⟨by rw [e9]; exact va_Pl hP, va_K.moved hW.alike hK, va_Dl hD⟩, by rw [e9]; exact va_Pr hP⟩, hS.F e9⟩) hS.2.2 d_W_ask_28
set_option maxHeartbeats 4000000 in
set_option maxRecDepth 100000 in
theorem c_W_confirm (l : Launch) (hl0 : l.stackTraces = false) (D : va_G) (ad : Nat → Nat) (ka : Nat → ClassId) (sa : Nat → Nat) (sz : Nat) (t : Mem) (k0 : Int32) (qo : Nat) (kl : ClassId) (f : Nat → Int64) : Met l y_W_confirm (Cond.codeWith y_W_confirm b_W_confirm 4 (some .int) [(0, 9, 12, 23)] :: big) ({ frames := 7, cells := 1, slots := 6, locals := 106 }) (va_Pc [.ref (ad 0), .int (k0), .ref qo] (PH D ad ka sa sz t qo kl .long (oL f))) (va_Qi (fun (kr : Int32) (zz : Mem × (Nat → Int64)) => ∃ (n : Nat) (r : Int32), kr = nI n ∧ n < 4 ∧ cfR t k0 n r zz.1 ∧ (n = 0 → zz.2 0 = r.toInt64)) (fun (zz : Mem × (Nat → Int64)) (U : State) => BH D ad ka sz qo kl zz.1 (oL zz.2) U) (AO ad qo sz)) 1 6 (AO ad qo sz) := by
  refine met_ofWH (cc := b_W_confirm) (maxL := 4) (ret := some .int) (hh := [(0, 9, 12, 23)]) (by decide) rfl ?_
  intro p e s m args below meth c s₁ B hml hv
  obtain ⟨rfl, ⟨⟨hsz, hP, hK, hD0⟩, hZ⟩, ⟨hPo, hKo⟩, hne, hNc⟩ := hv
  have hx := B.exec
  have hb := B.bytes
  have hr := B.returns
  have hlocks := B.notSynchronized
  have hts := atoms_spec (ws := Cond.codeWith y_W_confirm b_W_confirm 4 (some .int) [(0, 9, 12, 23)] :: big) B.pre
  have hown : s.vm.findClass "ListForgeLaw" = some m.cls := findClass_of_methodNamed B.named
  have hTb := vx_table (x := y_W_confirm) B (hts _ List.mem_cons_self)
  subst hsz
  have hD : va_D (AX ad s.heap.size) (cw ad ka t) := AX_D hD0
  have hS : va_S (AO ad qo s.heap.size) s.heap s.heap [] := va_S.rf
  have hl := lv_entry ([.ref (ad 0), .int (k0), .ref qo]) (n := 4) (Nat.le_of_ble_eq_true rfl)
  rw [lg_entry_eq]
  generalize (lg_sl ([.ref (ad 0), .int (k0), .ref qo]) ++ List.replicate (4 - (lg_sl ([.ref (ad 0), .int (k0), .ref qo])).length) Slot.unset).toArray = ls at hl ⊢
  have hl : lv_has ls 4 [(0, .ref (ad 0)), (1, .int (k0)), (2, .ref qo)] := hl
  refine lv_aload_n hx hb d_W_confirm_0 rfl (lv_at hl 2 rfl) ?_
  refine lv_iconst (v := 0) hx hb d_W_confirm_1 (by decide) ?_
  refine lv_aload_n hx hb d_W_confirm_2 rfl (lv_at hl 0 rfl) ?_
  refine lv_iload_n hx hb d_W_confirm_3 rfl (lv_at hl 1 rfl) ?_
  refine vx_calli (vx_runV (As := [.int (k0)]) (rest := [.int 0, .ref qo]) ⟨hx, hb, hml, hown, hts⟩ (c_F_confirm l hl0 D ad ka sa s.heap.size t k0) (cwV 1 hts (gv mw_327 mw_328 mw_329 mw_1 mw_330) rfl rfl rfl (by decide +kernel) ⟨Nat.le_of_ble_eq_true rfl, Nat.le_of_ble_eq_true rfl⟩) ⟨PZ_blind, va_recv hK hP (ci := 4) (q0 := 0) rfl at_F, fun U hU hW => ⟨rfl, PX_at hU hW hP hK hD, ZX_at hU hW hZ va_S.rf⟩⟩ rfl rfl hl.1 rfl (lv_room (Nat.le_of_ble_eq_true rfl)) d_W_confirm_4 ⟨Nat.le_of_ble_eq_true rfl, Nat.le_of_ble_eq_true rfl⟩) hS (fun q _ h => Or.inl h) (fun q h => Or.inl h) (fun q _ h => Or.inl h) (fun E ce q9 _ tq H1 locs ht hvm _ hB hz1 hk1 hS hce hcv hcl => ?_) (fun r t2 tq H1 locs ht hvm hw hB hz1 hk1 hS => ?_)
  · have hPo1 := o_kept hPo rfl hne hk1
    obtain ⟨hE, hB⟩ := hB
    obtain ⟨rfl, hk⟩ := hE
    refine vx_catch (own := "ListForgeLaw") (name := "java/util/NoSuchElementException") hown [] ⟨0, 9, 12, 23⟩ [] (hTb.trans rfl) (fun z hz => absurd hz List.not_mem_nil) rfl (by decide) (bg hts mw_326) (va_Nw.use (NB_ot _ (List.mem_of_getElem? (i := 3) rfl)) (hZ.1 _ (List.mem_of_getElem? (i := 3) rfl))) hce hcv hcl ?_
    refine W.eq (g2 := F0 m 12 ls [.ref q9]) rfl ?_
    refine lv_astore_n (lv' := [(3, .ref q9), (0, .ref (ad 0)), (1, .int (k0)), (2, .ref qo)]) hx hb d_W_confirm_12 rfl hl (by decide) rfl (fun ls hl => ?_)
    refine lv_iconst (v := 1) hx hb d_W_confirm_13 (by decide) ?_
    exact W.iret (v := 1) hx hb hr (fun t9 e9 hW => ⟨⟨1, (t, f), rfl, ⟨1, 0, rfl, by decide, Or.inr ⟨rfl, hk, rfl, rfl⟩, fun h => absurd h (by decide)⟩, ⟨by rw [e9, ← ht]; exact hB.1, va_K.moved hW.alike hK, hB.2.2⟩, by rw [e9]; exact hPo1⟩, hS.F e9⟩) hS.2.2 d_W_confirm_14
  · have hPo1 := o_kept hPo rfl hne hk1
    have hP1 : va_P D cls (cw ad ka t2) H1 := ht ▸ hB.1
    obtain ⟨hPj, hDj⟩ := oj hP1 hB.2.2 hPo1 hne
    have hKj := hK.app hKo
    refine lv_i2l hx hb d_W_confirm_7 rfl ?_
    refine va_last (D := D) hx hb hKj hPj hDj hS (cw ad ka t2).length 5 (la_at _ _) rfl (by unfold vp_in; decide) d_W_confirm_8 (fun H locs hP hD hS => ?_)
    rw [la_set] at hP hD
    refine lv_goto (tgt := 15) hx hb d_W_confirm_9 (by decide) ?_
    refine lv_iconst (v := 0) hx hb d_W_confirm_15 (by decide) ?_
    exact W.iret (v := 0) hx hb hr (fun t9 e9 hW => ⟨⟨0, (t2, vp_updL f 0 (r.toInt64)), rfl, ⟨0, r, rfl, by decide, Or.inl ⟨rfl, hw⟩, fun _ => rfl⟩, ⟨by rw [e9]; exact va_Pl hP, va_K.moved hW.alike hK, va_Dl hD⟩, by rw [e9]; exact va_Pr hP⟩, hS.F e9⟩) hS.2.2 d_W_confirm_16
theorem leave_t (t : Mem) (x : Int32) (a : Int32) (h9 : ¬ (leaveR t x a).1 = 0) : (leaveR t x a).2.2 = t := by
  revert h9
  unfold leaveR
  repeat' split
  all_goals first | (intro h; exact absurd rfl h) | (intro _; rfl)
set_option maxHeartbeats 4000000 in
set_option maxRecDepth 100000 in
theorem c_W_leave (l : Launch) (hl0 : l.stackTraces = false) (D : va_G) (ad : Nat → Nat) (ka : Nat → ClassId) (sa : Nat → Nat) (sz : Nat) (t : Mem) (x : Int32) (a : Int32) (qo : Nat) (kl : ClassId) (f : Nat → Int64) : Met l y_W_leave (Cond.codeWith y_W_leave b_W_leave 5 (some .int) [(0, 10, 13, 13), (0, 10, 17, 23)] :: big) ({ frames := 10, cells := 2, slots := 12, locals := 170 }) (va_Pc [.ref (ad 0), .int (x), .int (a), .ref qo] (PH D ad ka sa sz t qo kl .long (oL f))) (va_Qi (fun (kr : Int32) (zz : Mem × (Nat → Int64)) => ∃ (n : Nat) (r : Int32), kr = nI n ∧ n < 4 ∧ leaveR t x a = (n, r, zz.1) ∧ (n = 0 → zz.2 0 = r.toInt64)) (fun (zz : Mem × (Nat → Int64)) (U : State) => BH D ad ka sz qo kl zz.1 (oL zz.2) U) (AO ad qo sz)) 2 12 (AO ad qo sz) := by
  refine met_ofWH (cc := b_W_leave) (maxL := 5) (ret := some .int) (hh := [(0, 10, 13, 13), (0, 10, 17, 23)]) (by decide) rfl ?_
  intro p e s m args below meth c s₁ B hml hv
  obtain ⟨rfl, ⟨⟨hsz, hP, hK, hD0⟩, hZ⟩, ⟨hPo, hKo⟩, hne, hNc⟩ := hv
  have hx := B.exec
  have hb := B.bytes
  have hr := B.returns
  have hlocks := B.notSynchronized
  have hts := atoms_spec (ws := Cond.codeWith y_W_leave b_W_leave 5 (some .int) [(0, 10, 13, 13), (0, 10, 17, 23)] :: big) B.pre
  have hown : s.vm.findClass "ListForgeLaw" = some m.cls := findClass_of_methodNamed B.named
  have hTb := vx_table (x := y_W_leave) B (hts _ List.mem_cons_self)
  subst hsz
  have hD : va_D (AX ad s.heap.size) (cw ad ka t) := AX_D hD0
  have hS : va_S (AO ad qo s.heap.size) s.heap s.heap [] := va_S.rf
  have hl := lv_entry ([.ref (ad 0), .int (x), .int (a), .ref qo]) (n := 5) (Nat.le_of_ble_eq_true rfl)
  rw [lg_entry_eq]
  generalize (lg_sl ([.ref (ad 0), .int (x), .int (a), .ref qo]) ++ List.replicate (5 - (lg_sl ([.ref (ad 0), .int (x), .int (a), .ref qo])).length) Slot.unset).toArray = ls at hl ⊢
  have hl : lv_has ls 5 [(0, .ref (ad 0)), (1, .int (x)), (2, .int (a)), (3, .ref qo)] := hl
  refine lv_aload_n hx hb d_W_leave_0 rfl (lv_at hl 3 rfl) ?_
  refine lv_iconst (v := 0) hx hb d_W_leave_1 (by decide) ?_
  refine lv_aload_n hx hb d_W_leave_2 rfl (lv_at hl 0 rfl) ?_
  refine lv_iload_n hx hb d_W_leave_3 rfl (lv_at hl 1 rfl) ?_
  refine lv_iload_n hx hb d_W_leave_4 rfl (lv_at hl 2 rfl) ?_
  refine vx_calli (vx_runV (As := [.int (x), .int (a)]) (rest := [.int 0, .ref qo]) ⟨hx, hb, hml, hown, hts⟩ (c_F_leave l hl0 D ad ka sa s.heap.size t x a) (cwV 2 hts (gv mw_354 mw_355 mw_356 mw_1 mw_357) rfl rfl rfl (by decide +kernel) ⟨Nat.le_of_ble_eq_true rfl, Nat.le_of_ble_eq_true rfl⟩) ⟨PZ_blind, va_recv hK hP (ci := 4) (q0 := 0) rfl at_F, fun U hU hW => ⟨rfl, PX_at hU hW hP hK hD, ZX_at hU hW hZ va_S.rf⟩⟩ rfl rfl hl.1 rfl (lv_room (Nat.le_of_ble_eq_true rfl)) d_W_leave_5 ⟨Nat.le_of_ble_eq_true rfl, Nat.le_of_ble_eq_true rfl⟩) hS (fun q _ h => Or.inl h) (fun q h => Or.inl h) (fun q _ h => Or.inl h) (fun E ce q9 _ tq H1 locs ht hvm _ hB hz1 hk1 hS hce hcv hcl => ?_) (fun r t2 tq H1 locs ht hvm hw hB hz1 hk1 hS => ?_)
  · have hPo1 := o_kept hPo rfl hne hk1
    obtain ⟨hE, hB⟩ := hB
    rcases hE with ⟨rfl, hk⟩ | ⟨rfl, hk⟩
    · refine vx_catch (own := "ListForgeLaw") (name := "java/lang/IllegalArgumentException") hown [] ⟨0, 10, 13, 13⟩ [⟨0, 10, 17, 23⟩] (hTb.trans rfl) (fun z hz => absurd hz List.not_mem_nil) rfl (by decide) (bg hts mw_197) (va_Nw.use (NB_ot _ (List.mem_of_getElem? (i := 0) rfl)) (hZ.1 _ (List.mem_of_getElem? (i := 0) rfl))) hce hcv hcl ?_
      refine W.eq (g2 := F0 m 13 ls [.ref q9]) rfl ?_
      refine lv_astore (lv' := [(4, .ref q9), (0, .ref (ad 0)), (1, .int (x)), (2, .int (a)), (3, .ref qo)]) hx hb d_W_leave_13 hl (by decide) rfl (fun ls hl => ?_)
      refine lv_iconst (v := 1) hx hb d_W_leave_15 (by decide) ?_
      exact W.iret (v := 1) hx hb hr (fun t9 e9 hW => ⟨⟨1, (t, f), rfl, ⟨1, (leaveR t x a).2.1, rfl, by decide, Prod.ext hk (Prod.ext rfl (leave_t t x a (by rw [hk]; decide))), fun h => absurd h (by decide)⟩, ⟨by rw [e9, ← ht]; exact hB.1, va_K.moved hW.alike hK, hB.2.2⟩, by rw [e9]; exact hPo1⟩, hS.F e9⟩) hS.2.2 d_W_leave_16
    · refine vx_catch (own := "ListForgeLaw") (name := "java/util/NoSuchElementException") hown [⟨0, 10, 13, 13⟩] ⟨0, 10, 17, 23⟩ [] (hTb.trans rfl) (List.forall_mem_cons.mpr ⟨Or.inr ⟨by decide, _, bg hts mw_197, hNc ("java/util/NoSuchElementException", "java/lang/IllegalArgumentException") (by decide +kernel)⟩, fun z hz => absurd hz List.not_mem_nil⟩) rfl (by decide) (bg hts mw_326) (va_Nw.use (NB_ot _ (List.mem_of_getElem? (i := 3) rfl)) (hZ.1 _ (List.mem_of_getElem? (i := 3) rfl))) hce hcv hcl ?_
      refine W.eq (g2 := F0 m 17 ls [.ref q9]) rfl ?_
      refine lv_astore (lv' := [(4, .ref q9), (0, .ref (ad 0)), (1, .int (x)), (2, .int (a)), (3, .ref qo)]) hx hb d_W_leave_17 hl (by decide) rfl (fun ls hl => ?_)
      refine lv_iconst (v := 2) hx hb d_W_leave_19 (by decide) ?_
      exact W.iret (v := 2) hx hb hr (fun t9 e9 hW => ⟨⟨2, (t, f), rfl, ⟨2, (leaveR t x a).2.1, rfl, by decide, Prod.ext hk (Prod.ext rfl (leave_t t x a (by rw [hk]; decide))), fun h => absurd h (by decide)⟩, ⟨by rw [e9, ← ht]; exact hB.1, va_K.moved hW.alike hK, hB.2.2⟩, by rw [e9]; exact hPo1⟩, hS.F e9⟩) hS.2.2 d_W_leave_20
  · have hPo1 := o_kept hPo rfl hne hk1
    have hP1 : va_P D cls (cw ad ka t2) H1 := ht ▸ hB.1
    obtain ⟨hPj, hDj⟩ := oj hP1 hB.2.2 hPo1 hne
    have hKj := hK.app hKo
    refine lv_i2l hx hb d_W_leave_8 rfl ?_
    refine va_last (D := D) hx hb hKj hPj hDj hS (cw ad ka t2).length 5 (la_at _ _) rfl (by unfold vp_in; decide) d_W_leave_9 (fun H locs hP hD hS => ?_)
    rw [la_set] at hP hD
    refine lv_goto (tgt := 21) hx hb d_W_leave_10 (by decide) ?_
    refine lv_iconst (v := 0) hx hb d_W_leave_21 (by decide) ?_
    exact W.iret (v := 0) hx hb hr (fun t9 e9 hW => ⟨⟨0, (t2, vp_updL f 0 (r.toInt64)), rfl, ⟨0, r, rfl, by decide, hw, fun _ => rfl⟩, ⟨by rw [e9]; exact va_Pl hP, va_K.moved hW.alike hK, va_Dl hD⟩, by rw [e9]; exact va_Pr hP⟩, hS.F e9⟩) hS.2.2 d_W_leave_22
theorem way_t (t : Mem) (x : Int32) (a : Int32) (w : Int32) (h9 : ¬ (wayR t x a w).1 = 0) : (wayR t x a w).2.2 = t := by
  revert h9
  unfold wayR
  repeat' split
  all_goals first | (intro h; exact absurd rfl h) | (intro _; rfl)
set_option maxHeartbeats 4000000 in
set_option maxRecDepth 100000 in
theorem c_W_way (l : Launch) (hl0 : l.stackTraces = false) (D : va_G) (ad : Nat → Nat) (ka : Nat → ClassId) (sa : Nat → Nat) (sz : Nat) (t : Mem) (x : Int32) (a : Int32) (w : Int32) (qo : Nat) (kl : ClassId) (f : Nat → Int64) : Met l y_W_way (Cond.codeWith y_W_way b_W_way 6 (some .int) [(0, 12, 15, 13), (0, 12, 19, 23)] :: big) ({ frames := 10, cells := 3, slots := 18, locals := 171 }) (va_Pc [.ref (ad 0), .int (x), .int (a), .int (w), .ref qo] (PH D ad ka sa sz t qo kl .long (oL f))) (va_Qi (fun (kr : Int32) (zz : Mem × (Nat → Int64)) => ∃ (n : Nat) (r : Int32), kr = nI n ∧ n < 4 ∧ wayR t x a w = (n, r, zz.1) ∧ (n = 0 → zz.2 0 = r.toInt64)) (fun (zz : Mem × (Nat → Int64)) (U : State) => BH D ad ka sz qo kl zz.1 (oL zz.2) U) (AO ad qo sz)) 3 18 (AO ad qo sz) := by
  refine met_ofWH (cc := b_W_way) (maxL := 6) (ret := some .int) (hh := [(0, 12, 15, 13), (0, 12, 19, 23)]) (by decide) rfl ?_
  intro p e s m args below meth c s₁ B hml hv
  obtain ⟨rfl, ⟨⟨hsz, hP, hK, hD0⟩, hZ⟩, ⟨hPo, hKo⟩, hne, hNc⟩ := hv
  have hx := B.exec
  have hb := B.bytes
  have hr := B.returns
  have hlocks := B.notSynchronized
  have hts := atoms_spec (ws := Cond.codeWith y_W_way b_W_way 6 (some .int) [(0, 12, 15, 13), (0, 12, 19, 23)] :: big) B.pre
  have hown : s.vm.findClass "ListForgeLaw" = some m.cls := findClass_of_methodNamed B.named
  have hTb := vx_table (x := y_W_way) B (hts _ List.mem_cons_self)
  subst hsz
  have hD : va_D (AX ad s.heap.size) (cw ad ka t) := AX_D hD0
  have hS : va_S (AO ad qo s.heap.size) s.heap s.heap [] := va_S.rf
  have hl := lv_entry ([.ref (ad 0), .int (x), .int (a), .int (w), .ref qo]) (n := 6) (Nat.le_of_ble_eq_true rfl)
  rw [lg_entry_eq]
  generalize (lg_sl ([.ref (ad 0), .int (x), .int (a), .int (w), .ref qo]) ++ List.replicate (6 - (lg_sl ([.ref (ad 0), .int (x), .int (a), .int (w), .ref qo])).length) Slot.unset).toArray = ls at hl ⊢
  have hl : lv_has ls 6 [(0, .ref (ad 0)), (1, .int (x)), (2, .int (a)), (3, .int (w)), (4, .ref qo)] := hl
  refine lv_aload hx hb d_W_way_0 (lv_at hl 4 rfl) ?_
  refine lv_iconst (v := 0) hx hb d_W_way_2 (by decide) ?_
  refine lv_aload_n hx hb d_W_way_3 rfl (lv_at hl 0 rfl) ?_
  refine lv_iload_n hx hb d_W_way_4 rfl (lv_at hl 1 rfl) ?_
  refine lv_iload_n hx hb d_W_way_5 rfl (lv_at hl 2 rfl) ?_
  refine lv_iload_n hx hb d_W_way_6 rfl (lv_at hl 3 rfl) ?_
  refine vx_calli (vx_runV (As := [.int (x), .int (a), .int (w)]) (rest := [.int 0, .ref qo]) ⟨hx, hb, hml, hown, hts⟩ (c_F_way l hl0 D ad ka sa s.heap.size t x a w) (cwV 3 hts (gv mw_370 mw_371 mw_372 mw_1 mw_373) rfl rfl rfl (by decide +kernel) ⟨Nat.le_of_ble_eq_true rfl, Nat.le_of_ble_eq_true rfl⟩) ⟨PZ_blind, va_recv hK hP (ci := 4) (q0 := 0) rfl at_F, fun U hU hW => ⟨rfl, PX_at hU hW hP hK hD, ZX_at hU hW hZ va_S.rf⟩⟩ rfl rfl hl.1 rfl (lv_room (Nat.le_of_ble_eq_true rfl)) d_W_way_7 ⟨Nat.le_of_ble_eq_true rfl, Nat.le_of_ble_eq_true rfl⟩) hS (fun q _ h => Or.inl h) (fun q h => Or.inl h) (fun q _ h => Or.inl h) (fun E ce q9 _ tq H1 locs ht hvm _ hB hz1 hk1 hS hce hcv hcl => ?_) (fun r t2 tq H1 locs ht hvm hw hB hz1 hk1 hS => ?_)
  · have hPo1 := o_kept hPo rfl hne hk1
    obtain ⟨hE, hB⟩ := hB
    rcases hE with ⟨rfl, hk⟩ | ⟨rfl, hk⟩
    · refine vx_catch (own := "ListForgeLaw") (name := "java/lang/IllegalArgumentException") hown [] ⟨0, 12, 15, 13⟩ [⟨0, 12, 19, 23⟩] (hTb.trans rfl) (fun z hz => absurd hz List.not_mem_nil) rfl (by decide) (bg hts mw_197) (va_Nw.use (NB_ot _ (List.mem_of_getElem? (i := 0) rfl)) (hZ.1 _ (List.mem_of_getElem? (i := 0) rfl))) hce hcv hcl ?_
      refine W.eq (g2 := F0 m 15 ls [.ref q9]) rfl ?_
      refine lv_astore (lv' := [(5, .ref q9), (0, .ref (ad 0)), (1, .int (x)), (2, .int (a)), (3, .int (w)), (4, .ref qo)]) hx hb d_W_way_15 hl (by decide) rfl (fun ls hl => ?_)
      refine lv_iconst (v := 1) hx hb d_W_way_17 (by decide) ?_
      exact W.iret (v := 1) hx hb hr (fun t9 e9 hW => ⟨⟨1, (t, f), rfl, ⟨1, (wayR t x a w).2.1, rfl, by decide, Prod.ext hk (Prod.ext rfl (way_t t x a w (by rw [hk]; decide))), fun h => absurd h (by decide)⟩, ⟨by rw [e9, ← ht]; exact hB.1, va_K.moved hW.alike hK, hB.2.2⟩, by rw [e9]; exact hPo1⟩, hS.F e9⟩) hS.2.2 d_W_way_18
    · refine vx_catch (own := "ListForgeLaw") (name := "java/util/NoSuchElementException") hown [⟨0, 12, 15, 13⟩] ⟨0, 12, 19, 23⟩ [] (hTb.trans rfl) (List.forall_mem_cons.mpr ⟨Or.inr ⟨by decide, _, bg hts mw_197, hNc ("java/util/NoSuchElementException", "java/lang/IllegalArgumentException") (by decide +kernel)⟩, fun z hz => absurd hz List.not_mem_nil⟩) rfl (by decide) (bg hts mw_326) (va_Nw.use (NB_ot _ (List.mem_of_getElem? (i := 3) rfl)) (hZ.1 _ (List.mem_of_getElem? (i := 3) rfl))) hce hcv hcl ?_
      refine W.eq (g2 := F0 m 19 ls [.ref q9]) rfl ?_
      refine lv_astore (lv' := [(5, .ref q9), (0, .ref (ad 0)), (1, .int (x)), (2, .int (a)), (3, .int (w)), (4, .ref qo)]) hx hb d_W_way_19 hl (by decide) rfl (fun ls hl => ?_)
      refine lv_iconst (v := 2) hx hb d_W_way_21 (by decide) ?_
      exact W.iret (v := 2) hx hb hr (fun t9 e9 hW => ⟨⟨2, (t, f), rfl, ⟨2, (wayR t x a w).2.1, rfl, by decide, Prod.ext hk (Prod.ext rfl (way_t t x a w (by rw [hk]; decide))), fun h => absurd h (by decide)⟩, ⟨by rw [e9, ← ht]; exact hB.1, va_K.moved hW.alike hK, hB.2.2⟩, by rw [e9]; exact hPo1⟩, hS.F e9⟩) hS.2.2 d_W_way_22
  · have hPo1 := o_kept hPo rfl hne hk1
    have hP1 : va_P D cls (cw ad ka t2) H1 := ht ▸ hB.1
    obtain ⟨hPj, hDj⟩ := oj hP1 hB.2.2 hPo1 hne
    have hKj := hK.app hKo
    refine lv_i2l hx hb d_W_way_10 rfl ?_
    refine va_last (D := D) hx hb hKj hPj hDj hS (cw ad ka t2).length 5 (la_at _ _) rfl (by unfold vp_in; decide) d_W_way_11 (fun H locs hP hD hS => ?_)
    rw [la_set] at hP hD
    refine lv_goto (tgt := 23) hx hb d_W_way_12 (by decide) ?_
    refine lv_iconst (v := 0) hx hb d_W_way_23 (by decide) ?_
    exact W.iret (v := 0) hx hb hr (fun t9 e9 hW => ⟨⟨0, (t2, vp_updL f 0 (r.toInt64)), rfl, ⟨0, r, rfl, by decide, hw, fun _ => rfl⟩, ⟨by rw [e9]; exact va_Pl hP, va_K.moved hW.alike hK, va_Dl hD⟩, by rw [e9]; exact va_Pr hP⟩, hS.F e9⟩) hS.2.2 d_W_way_24
theorem moderator_t (t : Mem) (x : Int32) (a : Int32) (v : Int32) (h9 : ¬ (modR t x a v).1 = 0) : (modR t x a v).2.2 = t := by
  revert h9
  unfold modR
  repeat' split
  all_goals first | (intro h; exact absurd rfl h) | (intro _; rfl)
set_option maxHeartbeats 4000000 in
set_option maxRecDepth 100000 in
theorem c_W_moderator (l : Launch) (hl0 : l.stackTraces = false) (D : va_G) (ad : Nat → Nat) (ka : Nat → ClassId) (sa : Nat → Nat) (sz : Nat) (t : Mem) (ho : OKX t) (x : Int32) (a : Int32) (v : Int32) (hz : b01 v) (qo : Nat) (kl : ClassId) (f : Nat → Int64) : Met l y_W_moderator (Cond.codeWith y_W_moderator b_W_moderator 6 (some .int) [(0, 19, 22, 13), (0, 19, 26, 23), (0, 19, 30, 15)] :: big) ({ frames := 10, cells := 3, slots := 18, locals := 171 }) (va_Pc [.ref (ad 0), .int (x), .int (a), .int (v), .ref qo] (PH D ad ka sa sz t qo kl .long (oL f))) (va_Qi (fun (kr : Int32) (zz : Mem × (Nat → Int64)) => ∃ (n : Nat) (r : Int32), kr = nI n ∧ n < 4 ∧ modR t x a v = (n, r, zz.1) ∧ (n = 0 → zz.2 0 = zb r)) (fun (zz : Mem × (Nat → Int64)) (U : State) => BH D ad ka sz qo kl zz.1 (oL zz.2) U) (AO ad qo sz)) 3 18 (AO ad qo sz) := by
  refine met_ofWH (cc := b_W_moderator) (maxL := 6) (ret := some .int) (hh := [(0, 19, 22, 13), (0, 19, 26, 23), (0, 19, 30, 15)]) (by decide) rfl ?_
  intro p e s m args below meth c s₁ B hml hv
  obtain ⟨rfl, ⟨⟨hsz, hP, hK, hD0⟩, hZ⟩, ⟨hPo, hKo⟩, hne, hNc⟩ := hv
  have hx := B.exec
  have hb := B.bytes
  have hr := B.returns
  have hlocks := B.notSynchronized
  have hts := atoms_spec (ws := Cond.codeWith y_W_moderator b_W_moderator 6 (some .int) [(0, 19, 22, 13), (0, 19, 26, 23), (0, 19, 30, 15)] :: big) B.pre
  have hown : s.vm.findClass "ListForgeLaw" = some m.cls := findClass_of_methodNamed B.named
  have hTb := vx_table (x := y_W_moderator) B (hts _ List.mem_cons_self)
  subst hsz
  have hD : va_D (AX ad s.heap.size) (cw ad ka t) := AX_D hD0
  have hS : va_S (AO ad qo s.heap.size) s.heap s.heap [] := va_S.rf
  have hl := lv_entry ([.ref (ad 0), .int (x), .int (a), .int (v), .ref qo]) (n := 6) (Nat.le_of_ble_eq_true rfl)
  rw [lg_entry_eq]
  generalize (lg_sl ([.ref (ad 0), .int (x), .int (a), .int (v), .ref qo]) ++ List.replicate (6 - (lg_sl ([.ref (ad 0), .int (x), .int (a), .int (v), .ref qo])).length) Slot.unset).toArray = ls at hl ⊢
  have hl : lv_has ls 6 [(0, .ref (ad 0)), (1, .int (x)), (2, .int (a)), (3, .int (v)), (4, .ref qo)] := hl
  refine lv_aload hx hb d_W_moderator_0 (lv_at hl 4 rfl) ?_
  refine lv_iconst (v := 0) hx hb d_W_moderator_2 (by decide) ?_
  refine lv_aload_n hx hb d_W_moderator_3 rfl (lv_at hl 0 rfl) ?_
  refine lv_iload_n hx hb d_W_moderator_4 rfl (lv_at hl 1 rfl) ?_
  refine lv_iload_n hx hb d_W_moderator_5 rfl (lv_at hl 2 rfl) ?_
  refine lv_iload_n hx hb d_W_moderator_6 rfl (lv_at hl 3 rfl) ?_
  refine vx_calli (vx_runV (As := [.int (x), .int (a), .int (v)]) (rest := [.int 0, .ref qo]) ⟨hx, hb, hml, hown, hts⟩ (c_F_moderator l hl0 D ad ka sa s.heap.size t ho x a v hz) (cwV 3 hts (gv mw_377 mw_378 mw_379 mw_1 mw_380) rfl rfl rfl (by decide +kernel) ⟨Nat.le_of_ble_eq_true rfl, Nat.le_of_ble_eq_true rfl⟩) ⟨PZ_blind, va_recv hK hP (ci := 4) (q0 := 0) rfl at_F, fun U hU hW => ⟨rfl, PX_at hU hW hP hK hD, ZX_at hU hW hZ va_S.rf⟩⟩ rfl rfl hl.1 rfl (lv_room (Nat.le_of_ble_eq_true rfl)) d_W_moderator_7 ⟨Nat.le_of_ble_eq_true rfl, Nat.le_of_ble_eq_true rfl⟩) hS (fun q _ h => Or.inl h) (fun q h => Or.inl h) (fun q _ h => Or.inl h) (fun E ce q9 _ tq H1 locs ht hvm _ hB hz1 hk1 hS hce hcv hcl => ?_) (fun r t2 tq H1 locs ht hvm hw hB hz1 hk1 hS => ?_)
  · have hPo1 := o_kept hPo rfl hne hk1
    obtain ⟨hE, hB⟩ := hB
    rcases hE with ⟨rfl, hk⟩ | ⟨rfl, hk⟩ | ⟨rfl, hk⟩
    · refine vx_catch (own := "ListForgeLaw") (name := "java/lang/IllegalArgumentException") hown [] ⟨0, 19, 22, 13⟩ [⟨0, 19, 26, 23⟩, ⟨0, 19, 30, 15⟩] (hTb.trans rfl) (fun z hz => absurd hz List.not_mem_nil) rfl (by decide) (bg hts mw_197) (va_Nw.use (NB_ot _ (List.mem_of_getElem? (i := 0) rfl)) (hZ.1 _ (List.mem_of_getElem? (i := 0) rfl))) hce hcv hcl ?_
      refine W.eq (g2 := F0 m 22 ls [.ref q9]) rfl ?_
      refine lv_astore (lv' := [(5, .ref q9), (0, .ref (ad 0)), (1, .int (x)), (2, .int (a)), (3, .int (v)), (4, .ref qo)]) hx hb d_W_moderator_22 hl (by decide) rfl (fun ls hl => ?_)
      refine lv_iconst (v := 1) hx hb d_W_moderator_24 (by decide) ?_
      exact W.iret (v := 1) hx hb hr (fun t9 e9 hW => ⟨⟨1, (t, f), rfl, ⟨1, (modR t x a v).2.1, rfl, by decide, Prod.ext hk (Prod.ext rfl (moderator_t t x a v (by rw [hk]; decide))), fun h => absurd h (by decide)⟩, ⟨by rw [e9, ← ht]; exact hB.1, va_K.moved hW.alike hK, hB.2.2⟩, by rw [e9]; exact hPo1⟩, hS.F e9⟩) hS.2.2 d_W_moderator_25
    · refine vx_catch (own := "ListForgeLaw") (name := "java/util/NoSuchElementException") hown [⟨0, 19, 22, 13⟩] ⟨0, 19, 26, 23⟩ [⟨0, 19, 30, 15⟩] (hTb.trans rfl) (List.forall_mem_cons.mpr ⟨Or.inr ⟨by decide, _, bg hts mw_197, hNc ("java/util/NoSuchElementException", "java/lang/IllegalArgumentException") (by decide +kernel)⟩, fun z hz => absurd hz List.not_mem_nil⟩) rfl (by decide) (bg hts mw_326) (va_Nw.use (NB_ot _ (List.mem_of_getElem? (i := 3) rfl)) (hZ.1 _ (List.mem_of_getElem? (i := 3) rfl))) hce hcv hcl ?_
      refine W.eq (g2 := F0 m 26 ls [.ref q9]) rfl ?_
      refine lv_astore (lv' := [(5, .ref q9), (0, .ref (ad 0)), (1, .int (x)), (2, .int (a)), (3, .int (v)), (4, .ref qo)]) hx hb d_W_moderator_26 hl (by decide) rfl (fun ls hl => ?_)
      refine lv_iconst (v := 2) hx hb d_W_moderator_28 (by decide) ?_
      exact W.iret (v := 2) hx hb hr (fun t9 e9 hW => ⟨⟨2, (t, f), rfl, ⟨2, (modR t x a v).2.1, rfl, by decide, Prod.ext hk (Prod.ext rfl (moderator_t t x a v (by rw [hk]; decide))), fun h => absurd h (by decide)⟩, ⟨by rw [e9, ← ht]; exact hB.1, va_K.moved hW.alike hK, hB.2.2⟩, by rw [e9]; exact hPo1⟩, hS.F e9⟩) hS.2.2 d_W_moderator_29
    · refine vx_catch (own := "ListForgeLaw") (name := "java/lang/IllegalStateException") hown [⟨0, 19, 22, 13⟩, ⟨0, 19, 26, 23⟩] ⟨0, 19, 30, 15⟩ [] (hTb.trans rfl) (List.forall_mem_cons.mpr ⟨Or.inr ⟨by decide, _, bg hts mw_197, hNc ("java/lang/IllegalStateException", "java/lang/IllegalArgumentException") (by decide +kernel)⟩, List.forall_mem_cons.mpr ⟨Or.inr ⟨by decide, _, bg hts mw_326, hNc ("java/lang/IllegalStateException", "java/util/NoSuchElementException") (by decide +kernel)⟩, fun z hz => absurd hz List.not_mem_nil⟩⟩) rfl (by decide) (bg hts mw_198) (va_Nw.use (NB_ot _ (List.mem_of_getElem? (i := 1) rfl)) (hZ.1 _ (List.mem_of_getElem? (i := 1) rfl))) hce hcv hcl ?_
      refine W.eq (g2 := F0 m 30 ls [.ref q9]) rfl ?_
      refine lv_astore (lv' := [(5, .ref q9), (0, .ref (ad 0)), (1, .int (x)), (2, .int (a)), (3, .int (v)), (4, .ref qo)]) hx hb d_W_moderator_30 hl (by decide) rfl (fun ls hl => ?_)
      refine lv_iconst (v := 3) hx hb d_W_moderator_32 (by decide) ?_
      exact W.iret (v := 3) hx hb hr (fun t9 e9 hW => ⟨⟨3, (t, f), rfl, ⟨3, (modR t x a v).2.1, rfl, by decide, Prod.ext hk (Prod.ext rfl (moderator_t t x a v (by rw [hk]; decide))), fun h => absurd h (by decide)⟩, ⟨by rw [e9, ← ht]; exact hB.1, va_K.moved hW.alike hK, hB.2.2⟩, by rw [e9]; exact hPo1⟩, hS.F e9⟩) hS.2.2 d_W_moderator_33
  · have hPo1 := o_kept hPo rfl hne hk1
    have hP1 : va_P D cls (cw ad ka t2) H1 := ht ▸ hB.1
    obtain ⟨hPj, hDj⟩ := oj hP1 hB.2.2 hPo1 hne
    have hKj := hK.app hKo
    refine lv_if_eq (tgt := 17) hx hb d_W_moderator_10 (by decide) (fun c1 => ?_) (fun c1 => ?_)
    · refine lv_lconst (v := 0) hx hb d_W_moderator_17 (by decide) ?_
      refine va_last (D := D) hx hb hKj hPj hDj hS (cw ad ka t2).length 5 (la_at _ _) rfl (by unfold vp_in; decide) d_W_moderator_18 (fun H locs hP hD hS => ?_)
      rw [la_set] at hP hD
      refine lv_goto (tgt := 34) hx hb d_W_moderator_19 (by decide) ?_
      refine lv_iconst (v := 0) hx hb d_W_moderator_34 (by decide) ?_
      exact W.iret (v := 0) hx hb hr (fun t9 e9 hW => ⟨⟨0, (t2, vp_updL f 0 0), rfl, ⟨0, r, rfl, by decide, hw, fun _ => by rw [zb, if_pos c1]; rfl⟩, ⟨by rw [e9]; exact va_Pl hP, va_K.moved hW.alike hK, va_Dl hD⟩, by rw [e9]; exact va_Pr hP⟩, hS.F e9⟩) hS.2.2 d_W_moderator_35
    · refine lv_lconst (v := 1) hx hb d_W_moderator_13 (by decide) ?_
      refine lv_goto (tgt := 18) hx hb d_W_moderator_14 (by decide) ?_
      refine va_last (D := D) hx hb hKj hPj hDj hS (cw ad ka t2).length 5 (la_at _ _) rfl (by unfold vp_in; decide) d_W_moderator_18 (fun H locs hP hD hS => ?_)
      rw [la_set] at hP hD
      refine lv_goto (tgt := 34) hx hb d_W_moderator_19 (by decide) ?_
      refine lv_iconst (v := 0) hx hb d_W_moderator_34 (by decide) ?_
      exact W.iret (v := 0) hx hb hr (fun t9 e9 hW => ⟨⟨0, (t2, vp_updL f 0 1), rfl, ⟨0, r, rfl, by decide, hw, fun _ => by rw [zb, if_neg c1]; rfl⟩, ⟨by rw [e9]; exact va_Pl hP, va_K.moved hW.alike hK, va_Dl hD⟩, by rw [e9]; exact va_Pr hP⟩, hS.F e9⟩) hS.2.2 d_W_moderator_35
theorem ban_t (t : Mem) (x : Int32) (a : Int32) (v : Int32) (h9 : ¬ (banR t x a v).1 = 0) : (banR t x a v).2.2 = t := by
  revert h9
  unfold banR
  repeat' split
  all_goals first | (intro h; exact absurd rfl h) | (intro _; rfl)
set_option maxHeartbeats 4000000 in
set_option maxRecDepth 100000 in
theorem c_W_ban (l : Launch) (hl0 : l.stackTraces = false) (D : va_G) (ad : Nat → Nat) (ka : Nat → ClassId) (sa : Nat → Nat) (sz : Nat) (t : Mem) (ho : OKX t) (x : Int32) (a : Int32) (v : Int32) (hz : b01 v) (qo : Nat) (kl : ClassId) (f : Nat → Int64) : Met l y_W_ban (Cond.codeWith y_W_ban b_W_ban 6 (some .int) [(0, 19, 22, 13)] :: big) ({ frames := 9, cells := 1, slots := 6, locals := 148 }) (va_Pc [.ref (ad 0), .int (x), .int (a), .int (v), .ref qo] (PH D ad ka sa sz t qo kl .long (oL f))) (va_Qi (fun (kr : Int32) (zz : Mem × (Nat → Int64)) => ∃ (n : Nat) (r : Int32), kr = nI n ∧ n < 4 ∧ banR t x a v = (n, r, zz.1) ∧ (n = 0 → zz.2 0 = zb r)) (fun (zz : Mem × (Nat → Int64)) (U : State) => BH D ad ka sz qo kl zz.1 (oL zz.2) U) (AO ad qo sz)) 1 6 (AO ad qo sz) := by
  refine met_ofWH (cc := b_W_ban) (maxL := 6) (ret := some .int) (hh := [(0, 19, 22, 13)]) (by decide) rfl ?_
  intro p e s m args below meth c s₁ B hml hv
  obtain ⟨rfl, ⟨⟨hsz, hP, hK, hD0⟩, hZ⟩, ⟨hPo, hKo⟩, hne, hNc⟩ := hv
  have hx := B.exec
  have hb := B.bytes
  have hr := B.returns
  have hlocks := B.notSynchronized
  have hts := atoms_spec (ws := Cond.codeWith y_W_ban b_W_ban 6 (some .int) [(0, 19, 22, 13)] :: big) B.pre
  have hown : s.vm.findClass "ListForgeLaw" = some m.cls := findClass_of_methodNamed B.named
  have hTb := vx_table (x := y_W_ban) B (hts _ List.mem_cons_self)
  subst hsz
  have hD : va_D (AX ad s.heap.size) (cw ad ka t) := AX_D hD0
  have hS : va_S (AO ad qo s.heap.size) s.heap s.heap [] := va_S.rf
  have hl := lv_entry ([.ref (ad 0), .int (x), .int (a), .int (v), .ref qo]) (n := 6) (Nat.le_of_ble_eq_true rfl)
  rw [lg_entry_eq]
  generalize (lg_sl ([.ref (ad 0), .int (x), .int (a), .int (v), .ref qo]) ++ List.replicate (6 - (lg_sl ([.ref (ad 0), .int (x), .int (a), .int (v), .ref qo])).length) Slot.unset).toArray = ls at hl ⊢
  have hl : lv_has ls 6 [(0, .ref (ad 0)), (1, .int (x)), (2, .int (a)), (3, .int (v)), (4, .ref qo)] := hl
  refine lv_aload hx hb d_W_ban_0 (lv_at hl 4 rfl) ?_
  refine lv_iconst (v := 0) hx hb d_W_ban_2 (by decide) ?_
  refine lv_aload_n hx hb d_W_ban_3 rfl (lv_at hl 0 rfl) ?_
  refine lv_iload_n hx hb d_W_ban_4 rfl (lv_at hl 1 rfl) ?_
  refine lv_iload_n hx hb d_W_ban_5 rfl (lv_at hl 2 rfl) ?_
  refine lv_iload_n hx hb d_W_ban_6 rfl (lv_at hl 3 rfl) ?_
  refine vx_calli (vx_runV (As := [.int (x), .int (a), .int (v)]) (rest := [.int 0, .ref qo]) ⟨hx, hb, hml, hown, hts⟩ (c_F_ban l hl0 D ad ka sa s.heap.size t ho x a v hz) (cwV 3 hts (gv mw_385 mw_386 mw_387 mw_1 mw_388) rfl rfl rfl (by decide +kernel) ⟨Nat.le_of_ble_eq_true rfl, Nat.le_of_ble_eq_true rfl⟩) ⟨PZ_blind, va_recv hK hP (ci := 4) (q0 := 0) rfl at_F, fun U hU hW => ⟨rfl, PX_at hU hW hP hK hD, ZX_at hU hW hZ va_S.rf⟩⟩ rfl rfl hl.1 rfl (lv_room (Nat.le_of_ble_eq_true rfl)) d_W_ban_7 ⟨Nat.le_of_ble_eq_true rfl, Nat.le_of_ble_eq_true rfl⟩) hS (fun q _ h => Or.inl h) (fun q h => Or.inl h) (fun q _ h => Or.inl h) (fun E ce q9 _ tq H1 locs ht hvm _ hB hz1 hk1 hS hce hcv hcl => ?_) (fun r t2 tq H1 locs ht hvm hw hB hz1 hk1 hS => ?_)
  · have hPo1 := o_kept hPo rfl hne hk1
    obtain ⟨hE, hB⟩ := hB
    obtain ⟨rfl, hk⟩ := hE
    refine vx_catch (own := "ListForgeLaw") (name := "java/lang/IllegalArgumentException") hown [] ⟨0, 19, 22, 13⟩ [] (hTb.trans rfl) (fun z hz => absurd hz List.not_mem_nil) rfl (by decide) (bg hts mw_197) (va_Nw.use (NB_ot _ (List.mem_of_getElem? (i := 0) rfl)) (hZ.1 _ (List.mem_of_getElem? (i := 0) rfl))) hce hcv hcl ?_
    refine W.eq (g2 := F0 m 22 ls [.ref q9]) rfl ?_
    refine lv_astore (lv' := [(5, .ref q9), (0, .ref (ad 0)), (1, .int (x)), (2, .int (a)), (3, .int (v)), (4, .ref qo)]) hx hb d_W_ban_22 hl (by decide) rfl (fun ls hl => ?_)
    refine lv_iconst (v := 1) hx hb d_W_ban_24 (by decide) ?_
    exact W.iret (v := 1) hx hb hr (fun t9 e9 hW => ⟨⟨1, (t, f), rfl, ⟨1, (banR t x a v).2.1, rfl, by decide, Prod.ext hk (Prod.ext rfl (ban_t t x a v (by rw [hk]; decide))), fun h => absurd h (by decide)⟩, ⟨by rw [e9, ← ht]; exact hB.1, va_K.moved hW.alike hK, hB.2.2⟩, by rw [e9]; exact hPo1⟩, hS.F e9⟩) hS.2.2 d_W_ban_25
  · have hPo1 := o_kept hPo rfl hne hk1
    have hP1 : va_P D cls (cw ad ka t2) H1 := ht ▸ hB.1
    obtain ⟨hPj, hDj⟩ := oj hP1 hB.2.2 hPo1 hne
    have hKj := hK.app hKo
    refine lv_if_eq (tgt := 17) hx hb d_W_ban_10 (by decide) (fun c1 => ?_) (fun c1 => ?_)
    · refine lv_lconst (v := 0) hx hb d_W_ban_17 (by decide) ?_
      refine va_last (D := D) hx hb hKj hPj hDj hS (cw ad ka t2).length 5 (la_at _ _) rfl (by unfold vp_in; decide) d_W_ban_18 (fun H locs hP hD hS => ?_)
      rw [la_set] at hP hD
      refine lv_goto (tgt := 26) hx hb d_W_ban_19 (by decide) ?_
      refine lv_iconst (v := 0) hx hb d_W_ban_26 (by decide) ?_
      exact W.iret (v := 0) hx hb hr (fun t9 e9 hW => ⟨⟨0, (t2, vp_updL f 0 0), rfl, ⟨0, r, rfl, by decide, hw, fun _ => by rw [zb, if_pos c1]; rfl⟩, ⟨by rw [e9]; exact va_Pl hP, va_K.moved hW.alike hK, va_Dl hD⟩, by rw [e9]; exact va_Pr hP⟩, hS.F e9⟩) hS.2.2 d_W_ban_27
    · refine lv_lconst (v := 1) hx hb d_W_ban_13 (by decide) ?_
      refine lv_goto (tgt := 18) hx hb d_W_ban_14 (by decide) ?_
      refine va_last (D := D) hx hb hKj hPj hDj hS (cw ad ka t2).length 5 (la_at _ _) rfl (by unfold vp_in; decide) d_W_ban_18 (fun H locs hP hD hS => ?_)
      rw [la_set] at hP hD
      refine lv_goto (tgt := 26) hx hb d_W_ban_19 (by decide) ?_
      refine lv_iconst (v := 0) hx hb d_W_ban_26 (by decide) ?_
      exact W.iret (v := 0) hx hb hr (fun t9 e9 hW => ⟨⟨0, (t2, vp_updL f 0 1), rfl, ⟨0, r, rfl, by decide, hw, fun _ => by rw [zb, if_neg c1]; rfl⟩, ⟨by rw [e9]; exact va_Pl hP, va_K.moved hW.alike hK, va_Dl hD⟩, by rw [e9]; exact va_Pr hP⟩, hS.F e9⟩) hS.2.2 d_W_ban_27
theorem setting_t (t : Mem) (x : Int32) (w : Int32) (v : UInt64) (h9 : ¬ (setR t x w v).1 = 0) : (setR t x w v).2.2 = t := by
  revert h9
  unfold setR
  repeat' split
  all_goals first | (intro h; exact absurd rfl h) | (intro _; rfl)
set_option maxHeartbeats 4000000 in
set_option maxRecDepth 100000 in
theorem c_W_setting (l : Launch) (hl0 : l.stackTraces = false) (D : va_G) (ad : Nat → Nat) (ka : Nat → ClassId) (sa : Nat → Nat) (sz : Nat) (t : Mem) (x : Int32) (w : Int32) (v : UInt64) (qo : Nat) (kl : ClassId) (f : Nat → UInt64) : Met l y_W_setting (Cond.codeWith y_W_setting b_W_setting 7 (some .int) [(0, 11, 14, 13)] :: big) ({ frames := 8, cells := 2, slots := 12, locals := 127 }) (va_Pc [.ref (ad 0), .int (x), .int (w), .double (v), .ref qo] (PH D ad ka sa sz t qo kl .double (oD f))) (va_Qi (fun (kr : Int32) (zz : Mem × (Nat → UInt64)) => ∃ (n : Nat) (r : UInt64), kr = nI n ∧ n < 4 ∧ setR t x w v = (n, r, zz.1) ∧ (n = 0 → zz.2 0 = r)) (fun (zz : Mem × (Nat → UInt64)) (U : State) => BH D ad ka sz qo kl zz.1 (oD zz.2) U) (AO ad qo sz)) 2 12 (AO ad qo sz) := by
  refine met_ofWH (cc := b_W_setting) (maxL := 7) (ret := some .int) (hh := [(0, 11, 14, 13)]) (by decide) rfl ?_
  intro p e s m args below meth c s₁ B hml hv
  obtain ⟨rfl, ⟨⟨hsz, hP, hK, hD0⟩, hZ⟩, ⟨hPo, hKo⟩, hne, hNc⟩ := hv
  have hx := B.exec
  have hb := B.bytes
  have hr := B.returns
  have hlocks := B.notSynchronized
  have hts := atoms_spec (ws := Cond.codeWith y_W_setting b_W_setting 7 (some .int) [(0, 11, 14, 13)] :: big) B.pre
  have hown : s.vm.findClass "ListForgeLaw" = some m.cls := findClass_of_methodNamed B.named
  have hTb := vx_table (x := y_W_setting) B (hts _ List.mem_cons_self)
  subst hsz
  have hD : va_D (AX ad s.heap.size) (cw ad ka t) := AX_D hD0
  have hS : va_S (AO ad qo s.heap.size) s.heap s.heap [] := va_S.rf
  have hl := lv_entry ([.ref (ad 0), .int (x), .int (w), .double (v), .ref qo]) (n := 7) (Nat.le_of_ble_eq_true rfl)
  rw [lg_entry_eq]
  generalize (lg_sl ([.ref (ad 0), .int (x), .int (w), .double (v), .ref qo]) ++ List.replicate (7 - (lg_sl ([.ref (ad 0), .int (x), .int (w), .double (v), .ref qo])).length) Slot.unset).toArray = ls at hl ⊢
  have hl : lv_has ls 7 [(0, .ref (ad 0)), (1, .int (x)), (2, .int (w)), (3, .double (v)), (5, .ref qo)] := hl
  refine lv_aload hx hb d_W_setting_0 (lv_at hl 4 rfl) ?_
  refine lv_iconst (v := 0) hx hb d_W_setting_2 (by decide) ?_
  refine lv_aload_n hx hb d_W_setting_3 rfl (lv_at hl 0 rfl) ?_
  refine lv_iload_n hx hb d_W_setting_4 rfl (lv_at hl 1 rfl) ?_
  refine lv_iload_n hx hb d_W_setting_5 rfl (lv_at hl 2 rfl) ?_
  refine lv_dload_n hx hb d_W_setting_6 rfl (lv_at hl 3 rfl) ?_
  refine vx_calld (vx_runV (As := [.int (x), .int (w), .double (v)]) (rest := [.int 0, .ref qo]) ⟨hx, hb, hml, hown, hts⟩ (c_F_setting l hl0 D ad ka sa s.heap.size t x w v) (cwV 3 hts (gv mw_392 mw_393 mw_394 mw_1 mw_395) rfl rfl rfl (by decide +kernel) ⟨Nat.le_of_ble_eq_true rfl, Nat.le_of_ble_eq_true rfl⟩) ⟨PZ_blind, va_recv hK hP (ci := 4) (q0 := 0) rfl at_F, fun U hU hW => ⟨rfl, PX_at hU hW hP hK hD, ZX_at hU hW hZ va_S.rf⟩⟩ rfl rfl hl.1 rfl (lv_room (Nat.le_of_ble_eq_true rfl)) d_W_setting_7 ⟨Nat.le_of_ble_eq_true rfl, Nat.le_of_ble_eq_true rfl⟩) hS (fun q _ h => Or.inl h) (fun q h => Or.inl h) (fun q _ h => Or.inl h) (fun E ce q9 _ tq H1 locs ht hvm _ hB hz1 hk1 hS hce hcv hcl => ?_) (fun r t2 tq H1 locs ht hvm hw hB hz1 hk1 hS => ?_)
  · have hPo1 := o_kept hPo rfl hne hk1
    obtain ⟨hE, hB⟩ := hB
    obtain ⟨rfl, hk⟩ := hE
    refine vx_catch (own := "ListForgeLaw") (name := "java/lang/IllegalArgumentException") hown [] ⟨0, 11, 14, 13⟩ [] (hTb.trans rfl) (fun z hz => absurd hz List.not_mem_nil) rfl (by decide) (bg hts mw_197) (va_Nw.use (NB_ot _ (List.mem_of_getElem? (i := 0) rfl)) (hZ.1 _ (List.mem_of_getElem? (i := 0) rfl))) hce hcv hcl ?_
    refine W.eq (g2 := F0 m 14 ls [.ref q9]) rfl ?_
    refine lv_astore (lv' := [(6, .ref q9), (0, .ref (ad 0)), (1, .int (x)), (2, .int (w)), (3, .double (v)), (5, .ref qo)]) hx hb d_W_setting_14 hl (by decide) rfl (fun ls hl => ?_)
    refine lv_iconst (v := 1) hx hb d_W_setting_16 (by decide) ?_
    exact W.iret (v := 1) hx hb hr (fun t9 e9 hW => ⟨⟨1, (t, f), rfl, ⟨1, (setR t x w v).2.1, rfl, by decide, Prod.ext hk (Prod.ext rfl (setting_t t x w v (by rw [hk]; decide))), fun h => absurd h (by decide)⟩, ⟨by rw [e9, ← ht]; exact hB.1, va_K.moved hW.alike hK, hB.2.2⟩, by rw [e9]; exact hPo1⟩, hS.F e9⟩) hS.2.2 d_W_setting_17
  · have hPo1 := o_kept hPo rfl hne hk1
    have hP1 : va_P D cls (cw ad ka t2) H1 := ht ▸ hB.1
    obtain ⟨hPj, hDj⟩ := oj hP1 hB.2.2 hPo1 hne
    have hKj := hK.app hKo
    refine va_dast (D := D) hx hb hKj hPj hDj hS (cw ad ka t2).length 5 (la_at _ _) rfl (by unfold vp_in; decide) d_W_setting_10 (fun H locs hP hD hS => ?_)
    rw [la_set] at hP hD
    refine lv_goto (tgt := 18) hx hb d_W_setting_11 (by decide) ?_
    refine lv_iconst (v := 0) hx hb d_W_setting_18 (by decide) ?_
    exact W.iret (v := 0) hx hb hr (fun t9 e9 hW => ⟨⟨0, (t2, vf_upd f 0 r), rfl, ⟨0, r, rfl, by decide, hw, fun _ => rfl⟩, ⟨by rw [e9]; exact va_Pl hP, va_K.moved hW.alike hK, va_Dl hD⟩, by rw [e9]; exact va_Pr hP⟩, hS.F e9⟩) hS.2.2 d_W_setting_19
theorem post_t (t : Mem) (x : Int32) (a : Int32) (z : Int32) (w : Int32) (h9 : ¬ (postR t x a z w).1 = 0) : (postR t x a z w).2.2 = t := by
  revert h9
  unfold postR
  repeat' split
  all_goals first | (intro h; exact absurd rfl h) | (intro _; rfl)
set_option maxHeartbeats 4000000 in
set_option maxRecDepth 100000 in
theorem c_W_post (l : Launch) (hl0 : l.stackTraces = false) (D : va_G) (ad : Nat → Nat) (ka : Nat → ClassId) (sa : Nat → Nat) (sz : Nat) (t : Mem) (ho : OKX t) (x : Int32) (a : Int32) (z : Int32) (w : Int32) (qo : Nat) (kl : ClassId) (f : Nat → Int64) : Met l y_W_post (Cond.codeWith y_W_post b_W_post 7 (some .int) [(0, 14, 17, 13), (0, 14, 21, 15), (0, 14, 25, 17)] :: big) ({ frames := 9, cells := 3, slots := 18, locals := 149 }) (va_Pc [.ref (ad 0), .int (x), .int (a), .int (z), .int (w), .ref qo] (PH D ad ka sa sz t qo kl .long (oL f))) (va_Qi (fun (kr : Int32) (zz : Mem × (Nat → Int64)) => ∃ (n : Nat) (r : Int32), kr = nI n ∧ n < 4 ∧ postR t x a z w = (n, r, zz.1) ∧ (n = 0 → zz.2 0 = r.toInt64)) (fun (zz : Mem × (Nat → Int64)) (U : State) => BH D ad ka sz qo kl zz.1 (oL zz.2) U) (AO ad qo sz)) 3 18 (AO ad qo sz) := by
  refine met_ofWH (cc := b_W_post) (maxL := 7) (ret := some .int) (hh := [(0, 14, 17, 13), (0, 14, 21, 15), (0, 14, 25, 17)]) (by decide) rfl ?_
  intro p e s m args below meth c s₁ B hml hv
  obtain ⟨rfl, ⟨⟨hsz, hP, hK, hD0⟩, hZ⟩, ⟨hPo, hKo⟩, hne, hNc⟩ := hv
  have hx := B.exec
  have hb := B.bytes
  have hr := B.returns
  have hlocks := B.notSynchronized
  have hts := atoms_spec (ws := Cond.codeWith y_W_post b_W_post 7 (some .int) [(0, 14, 17, 13), (0, 14, 21, 15), (0, 14, 25, 17)] :: big) B.pre
  have hown : s.vm.findClass "ListForgeLaw" = some m.cls := findClass_of_methodNamed B.named
  have hTb := vx_table (x := y_W_post) B (hts _ List.mem_cons_self)
  subst hsz
  have hD : va_D (AX ad s.heap.size) (cw ad ka t) := AX_D hD0
  have hS : va_S (AO ad qo s.heap.size) s.heap s.heap [] := va_S.rf
  have hl := lv_entry ([.ref (ad 0), .int (x), .int (a), .int (z), .int (w), .ref qo]) (n := 7) (Nat.le_of_ble_eq_true rfl)
  rw [lg_entry_eq]
  generalize (lg_sl ([.ref (ad 0), .int (x), .int (a), .int (z), .int (w), .ref qo]) ++ List.replicate (7 - (lg_sl ([.ref (ad 0), .int (x), .int (a), .int (z), .int (w), .ref qo])).length) Slot.unset).toArray = ls at hl ⊢
  have hl : lv_has ls 7 [(0, .ref (ad 0)), (1, .int (x)), (2, .int (a)), (3, .int (z)), (4, .int (w)), (5, .ref qo)] := hl
  refine lv_aload hx hb d_W_post_0 (lv_at hl 5 rfl) ?_
  refine lv_iconst (v := 0) hx hb d_W_post_2 (by decide) ?_
  refine lv_aload_n hx hb d_W_post_3 rfl (lv_at hl 0 rfl) ?_
  refine lv_iload_n hx hb d_W_post_4 rfl (lv_at hl 1 rfl) ?_
  refine lv_iload_n hx hb d_W_post_5 rfl (lv_at hl 2 rfl) ?_
  refine lv_iload_n hx hb d_W_post_6 rfl (lv_at hl 3 rfl) ?_
  refine lv_iload hx hb d_W_post_7 (lv_at hl 4 rfl) ?_
  refine vx_calli (vx_runV (As := [.int (x), .int (a), .int (z), .int (w)]) (rest := [.int 0, .ref qo]) ⟨hx, hb, hml, hown, hts⟩ (c_F_post l hl0 D ad ka sa s.heap.size t ho x a z w) (cwV 4 hts (gv mw_425 mw_426 mw_427 mw_1 mw_428) rfl rfl rfl (by decide +kernel) ⟨Nat.le_of_ble_eq_true rfl, Nat.le_of_ble_eq_true rfl⟩) ⟨PZ_blind, va_recv hK hP (ci := 4) (q0 := 0) rfl at_F, fun U hU hW => ⟨rfl, PX_at hU hW hP hK hD, ZX_at hU hW hZ va_S.rf⟩⟩ rfl rfl hl.1 rfl (lv_room (Nat.le_of_ble_eq_true rfl)) d_W_post_9 ⟨Nat.le_of_ble_eq_true rfl, Nat.le_of_ble_eq_true rfl⟩) hS (fun q _ h => Or.inl h) (fun q h => Or.inl h) (fun q _ h => Or.inl h) (fun E ce q9 _ tq H1 locs ht hvm _ hB hz1 hk1 hS hce hcv hcl => ?_) (fun r t2 tq H1 locs ht hvm hw hB hz1 hk1 hS => ?_)
  · have hPo1 := o_kept hPo rfl hne hk1
    obtain ⟨hE, hB⟩ := hB
    rcases hE with ⟨rfl, hk⟩ | ⟨rfl, hk⟩ | ⟨rfl, hk⟩
    · refine vx_catch (own := "ListForgeLaw") (name := "java/lang/IllegalArgumentException") hown [] ⟨0, 14, 17, 13⟩ [⟨0, 14, 21, 15⟩, ⟨0, 14, 25, 17⟩] (hTb.trans rfl) (fun z hz => absurd hz List.not_mem_nil) rfl (by decide) (bg hts mw_197) (va_Nw.use (NB_ot _ (List.mem_of_getElem? (i := 0) rfl)) (hZ.1 _ (List.mem_of_getElem? (i := 0) rfl))) hce hcv hcl ?_
      refine W.eq (g2 := F0 m 17 ls [.ref q9]) rfl ?_
      refine lv_astore (lv' := [(6, .ref q9), (0, .ref (ad 0)), (1, .int (x)), (2, .int (a)), (3, .int (z)), (4, .int (w)), (5, .ref qo)]) hx hb d_W_post_17 hl (by decide) rfl (fun ls hl => ?_)
      refine lv_iconst (v := 1) hx hb d_W_post_19 (by decide) ?_
      exact W.iret (v := 1) hx hb hr (fun t9 e9 hW => ⟨⟨1, (t, f), rfl, ⟨1, (postR t x a z w).2.1, rfl, by decide, Prod.ext hk (Prod.ext rfl (post_t t x a z w (by rw [hk]; decide))), fun h => absurd h (by decide)⟩, ⟨by rw [e9, ← ht]; exact hB.1, va_K.moved hW.alike hK, hB.2.2⟩, by rw [e9]; exact hPo1⟩, hS.F e9⟩) hS.2.2 d_W_post_20
    · refine vx_catch (own := "ListForgeLaw") (name := "java/lang/IllegalStateException") hown [⟨0, 14, 17, 13⟩] ⟨0, 14, 21, 15⟩ [⟨0, 14, 25, 17⟩] (hTb.trans rfl) (List.forall_mem_cons.mpr ⟨Or.inr ⟨by decide, _, bg hts mw_197, hNc ("java/lang/IllegalStateException", "java/lang/IllegalArgumentException") (by decide +kernel)⟩, fun z hz => absurd hz List.not_mem_nil⟩) rfl (by decide) (bg hts mw_198) (va_Nw.use (NB_ot _ (List.mem_of_getElem? (i := 1) rfl)) (hZ.1 _ (List.mem_of_getElem? (i := 1) rfl))) hce hcv hcl ?_
      refine W.eq (g2 := F0 m 21 ls [.ref q9]) rfl ?_
      refine lv_astore (lv' := [(6, .ref q9), (0, .ref (ad 0)), (1, .int (x)), (2, .int (a)), (3, .int (z)), (4, .int (w)), (5, .ref qo)]) hx hb d_W_post_21 hl (by decide) rfl (fun ls hl => ?_)
      refine lv_iconst (v := 2) hx hb d_W_post_23 (by decide) ?_
      exact W.iret (v := 2) hx hb hr (fun t9 e9 hW => ⟨⟨2, (t, f), rfl, ⟨2, (postR t x a z w).2.1, rfl, by decide, Prod.ext hk (Prod.ext rfl (post_t t x a z w (by rw [hk]; decide))), fun h => absurd h (by decide)⟩, ⟨by rw [e9, ← ht]; exact hB.1, va_K.moved hW.alike hK, hB.2.2⟩, by rw [e9]; exact hPo1⟩, hS.F e9⟩) hS.2.2 d_W_post_24
    · refine vx_catch (own := "ListForgeLaw") (name := "java/lang/UnsupportedOperationException") hown [⟨0, 14, 17, 13⟩, ⟨0, 14, 21, 15⟩] ⟨0, 14, 25, 17⟩ [] (hTb.trans rfl) (List.forall_mem_cons.mpr ⟨Or.inr ⟨by decide, _, bg hts mw_197, hNc ("java/lang/UnsupportedOperationException", "java/lang/IllegalArgumentException") (by decide +kernel)⟩, List.forall_mem_cons.mpr ⟨Or.inr ⟨by decide, _, bg hts mw_198, hNc ("java/lang/UnsupportedOperationException", "java/lang/IllegalStateException") (by decide +kernel)⟩, fun z hz => absurd hz List.not_mem_nil⟩⟩) rfl (by decide) (bg hts mw_199) (va_Nw.use (NB_ot _ (List.mem_of_getElem? (i := 2) rfl)) (hZ.1 _ (List.mem_of_getElem? (i := 2) rfl))) hce hcv hcl ?_
      refine W.eq (g2 := F0 m 25 ls [.ref q9]) rfl ?_
      refine lv_astore (lv' := [(6, .ref q9), (0, .ref (ad 0)), (1, .int (x)), (2, .int (a)), (3, .int (z)), (4, .int (w)), (5, .ref qo)]) hx hb d_W_post_25 hl (by decide) rfl (fun ls hl => ?_)
      refine lv_iconst (v := 3) hx hb d_W_post_27 (by decide) ?_
      exact W.iret (v := 3) hx hb hr (fun t9 e9 hW => ⟨⟨3, (t, f), rfl, ⟨3, (postR t x a z w).2.1, rfl, by decide, Prod.ext hk (Prod.ext rfl (post_t t x a z w (by rw [hk]; decide))), fun h => absurd h (by decide)⟩, ⟨by rw [e9, ← ht]; exact hB.1, va_K.moved hW.alike hK, hB.2.2⟩, by rw [e9]; exact hPo1⟩, hS.F e9⟩) hS.2.2 d_W_post_28
  · have hPo1 := o_kept hPo rfl hne hk1
    have hP1 : va_P D cls (cw ad ka t2) H1 := ht ▸ hB.1
    obtain ⟨hPj, hDj⟩ := oj hP1 hB.2.2 hPo1 hne
    have hKj := hK.app hKo
    refine lv_i2l hx hb d_W_post_12 rfl ?_
    refine va_last (D := D) hx hb hKj hPj hDj hS (cw ad ka t2).length 5 (la_at _ _) rfl (by unfold vp_in; decide) d_W_post_13 (fun H locs hP hD hS => ?_)
    rw [la_set] at hP hD
    refine lv_goto (tgt := 29) hx hb d_W_post_14 (by decide) ?_
    refine lv_iconst (v := 0) hx hb d_W_post_29 (by decide) ?_
    exact W.iret (v := 0) hx hb hr (fun t9 e9 hW => ⟨⟨0, (t2, vp_updL f 0 (r.toInt64)), rfl, ⟨0, r, rfl, by decide, hw, fun _ => rfl⟩, ⟨by rw [e9]; exact va_Pl hP, va_K.moved hW.alike hK, va_Dl hD⟩, by rw [e9]; exact va_Pr hP⟩, hS.F e9⟩) hS.2.2 d_W_post_30
theorem judge_t (t : Mem) (m0 : Int32) (p0 : Int32) (h0 : Int32) (h9 : ¬ (judR t m0 p0 h0).1 = 0) : (judR t m0 p0 h0).2.2 = t := by
  revert h9
  unfold judR
  repeat' split
  all_goals first | (intro h; exact absurd rfl h) | (intro _; rfl)
set_option maxHeartbeats 4000000 in
set_option maxRecDepth 100000 in
theorem c_W_judge (l : Launch) (hl0 : l.stackTraces = false) (D : va_G) (ad : Nat → Nat) (ka : Nat → ClassId) (sa : Nat → Nat) (sz : Nat) (t : Mem) (ho : OKX t) (m0 : Int32) (p0 : Int32) (h0 : Int32) (qo : Nat) (kl : ClassId) (f : Nat → Int64) : Met l y_W_judge (Cond.codeWith y_W_judge b_W_judge 6 (some .int) [(0, 12, 15, 13), (0, 12, 19, 23), (0, 12, 23, 17)] :: big) ({ frames := 8, cells := 2, slots := 12, locals := 126 }) (va_Pc [.ref (ad 0), .int (m0), .int (p0), .int (h0), .ref qo] (PH D ad ka sa sz t qo kl .long (oL f))) (va_Qi (fun (kr : Int32) (zz : Mem × (Nat → Int64)) => ∃ (n : Nat) (r : Int32), kr = nI n ∧ n < 4 ∧ judR t m0 p0 h0 = (n, r, zz.1) ∧ (n = 0 → zz.2 0 = r.toInt64)) (fun (zz : Mem × (Nat → Int64)) (U : State) => BH D ad ka sz qo kl zz.1 (oL zz.2) U) (AO ad qo sz)) 2 12 (AO ad qo sz) := by
  refine met_ofWH (cc := b_W_judge) (maxL := 6) (ret := some .int) (hh := [(0, 12, 15, 13), (0, 12, 19, 23), (0, 12, 23, 17)]) (by decide) rfl ?_
  intro p e s m args below meth c s₁ B hml hv
  obtain ⟨rfl, ⟨⟨hsz, hP, hK, hD0⟩, hZ⟩, ⟨hPo, hKo⟩, hne, hNc⟩ := hv
  have hx := B.exec
  have hb := B.bytes
  have hr := B.returns
  have hlocks := B.notSynchronized
  have hts := atoms_spec (ws := Cond.codeWith y_W_judge b_W_judge 6 (some .int) [(0, 12, 15, 13), (0, 12, 19, 23), (0, 12, 23, 17)] :: big) B.pre
  have hown : s.vm.findClass "ListForgeLaw" = some m.cls := findClass_of_methodNamed B.named
  have hTb := vx_table (x := y_W_judge) B (hts _ List.mem_cons_self)
  subst hsz
  have hD : va_D (AX ad s.heap.size) (cw ad ka t) := AX_D hD0
  have hS : va_S (AO ad qo s.heap.size) s.heap s.heap [] := va_S.rf
  have hl := lv_entry ([.ref (ad 0), .int (m0), .int (p0), .int (h0), .ref qo]) (n := 6) (Nat.le_of_ble_eq_true rfl)
  rw [lg_entry_eq]
  generalize (lg_sl ([.ref (ad 0), .int (m0), .int (p0), .int (h0), .ref qo]) ++ List.replicate (6 - (lg_sl ([.ref (ad 0), .int (m0), .int (p0), .int (h0), .ref qo])).length) Slot.unset).toArray = ls at hl ⊢
  have hl : lv_has ls 6 [(0, .ref (ad 0)), (1, .int (m0)), (2, .int (p0)), (3, .int (h0)), (4, .ref qo)] := hl
  refine lv_aload hx hb d_W_judge_0 (lv_at hl 4 rfl) ?_
  refine lv_iconst (v := 0) hx hb d_W_judge_2 (by decide) ?_
  refine lv_aload_n hx hb d_W_judge_3 rfl (lv_at hl 0 rfl) ?_
  refine lv_iload_n hx hb d_W_judge_4 rfl (lv_at hl 1 rfl) ?_
  refine lv_iload_n hx hb d_W_judge_5 rfl (lv_at hl 2 rfl) ?_
  refine lv_iload_n hx hb d_W_judge_6 rfl (lv_at hl 3 rfl) ?_
  refine vx_calli (vx_runV (As := [.int (m0), .int (p0), .int (h0)]) (rest := [.int 0, .ref qo]) ⟨hx, hb, hml, hown, hts⟩ (c_F_judge l hl0 D ad ka sa s.heap.size t ho m0 p0 h0) (cwV 3 hts (gv mw_471 mw_472 mw_473 mw_1 mw_474) rfl rfl rfl (by decide +kernel) ⟨Nat.le_of_ble_eq_true rfl, Nat.le_of_ble_eq_true rfl⟩) ⟨PZ_blind, va_recv hK hP (ci := 4) (q0 := 0) rfl at_F, fun U hU hW => ⟨rfl, PX_at hU hW hP hK hD, ZX_at hU hW hZ va_S.rf⟩⟩ rfl rfl hl.1 rfl (lv_room (Nat.le_of_ble_eq_true rfl)) d_W_judge_7 ⟨Nat.le_of_ble_eq_true rfl, Nat.le_of_ble_eq_true rfl⟩) hS (fun q _ h => Or.inl h) (fun q h => Or.inl h) (fun q _ h => Or.inl h) (fun E ce q9 _ tq H1 locs ht hvm _ hB hz1 hk1 hS hce hcv hcl => ?_) (fun r t2 tq H1 locs ht hvm hw hB hz1 hk1 hS => ?_)
  · have hPo1 := o_kept hPo rfl hne hk1
    obtain ⟨hE, hB⟩ := hB
    rcases hE with ⟨rfl, hk⟩ | ⟨rfl, hk⟩ | ⟨rfl, hk⟩
    · refine vx_catch (own := "ListForgeLaw") (name := "java/lang/IllegalArgumentException") hown [] ⟨0, 12, 15, 13⟩ [⟨0, 12, 19, 23⟩, ⟨0, 12, 23, 17⟩] (hTb.trans rfl) (fun z hz => absurd hz List.not_mem_nil) rfl (by decide) (bg hts mw_197) (va_Nw.use (NB_ot _ (List.mem_of_getElem? (i := 0) rfl)) (hZ.1 _ (List.mem_of_getElem? (i := 0) rfl))) hce hcv hcl ?_
      refine W.eq (g2 := F0 m 15 ls [.ref q9]) rfl ?_
      refine lv_astore (lv' := [(5, .ref q9), (0, .ref (ad 0)), (1, .int (m0)), (2, .int (p0)), (3, .int (h0)), (4, .ref qo)]) hx hb d_W_judge_15 hl (by decide) rfl (fun ls hl => ?_)
      refine lv_iconst (v := 1) hx hb d_W_judge_17 (by decide) ?_
      exact W.iret (v := 1) hx hb hr (fun t9 e9 hW => ⟨⟨1, (t, f), rfl, ⟨1, (judR t m0 p0 h0).2.1, rfl, by decide, Prod.ext hk (Prod.ext rfl (judge_t t m0 p0 h0 (by rw [hk]; decide))), fun h => absurd h (by decide)⟩, ⟨by rw [e9, ← ht]; exact hB.1, va_K.moved hW.alike hK, hB.2.2⟩, by rw [e9]; exact hPo1⟩, hS.F e9⟩) hS.2.2 d_W_judge_18
    · refine vx_catch (own := "ListForgeLaw") (name := "java/util/NoSuchElementException") hown [⟨0, 12, 15, 13⟩] ⟨0, 12, 19, 23⟩ [⟨0, 12, 23, 17⟩] (hTb.trans rfl) (List.forall_mem_cons.mpr ⟨Or.inr ⟨by decide, _, bg hts mw_197, hNc ("java/util/NoSuchElementException", "java/lang/IllegalArgumentException") (by decide +kernel)⟩, fun z hz => absurd hz List.not_mem_nil⟩) rfl (by decide) (bg hts mw_326) (va_Nw.use (NB_ot _ (List.mem_of_getElem? (i := 3) rfl)) (hZ.1 _ (List.mem_of_getElem? (i := 3) rfl))) hce hcv hcl ?_
      refine W.eq (g2 := F0 m 19 ls [.ref q9]) rfl ?_
      refine lv_astore (lv' := [(5, .ref q9), (0, .ref (ad 0)), (1, .int (m0)), (2, .int (p0)), (3, .int (h0)), (4, .ref qo)]) hx hb d_W_judge_19 hl (by decide) rfl (fun ls hl => ?_)
      refine lv_iconst (v := 2) hx hb d_W_judge_21 (by decide) ?_
      exact W.iret (v := 2) hx hb hr (fun t9 e9 hW => ⟨⟨2, (t, f), rfl, ⟨2, (judR t m0 p0 h0).2.1, rfl, by decide, Prod.ext hk (Prod.ext rfl (judge_t t m0 p0 h0 (by rw [hk]; decide))), fun h => absurd h (by decide)⟩, ⟨by rw [e9, ← ht]; exact hB.1, va_K.moved hW.alike hK, hB.2.2⟩, by rw [e9]; exact hPo1⟩, hS.F e9⟩) hS.2.2 d_W_judge_22
    · refine vx_catch (own := "ListForgeLaw") (name := "java/lang/UnsupportedOperationException") hown [⟨0, 12, 15, 13⟩, ⟨0, 12, 19, 23⟩] ⟨0, 12, 23, 17⟩ [] (hTb.trans rfl) (List.forall_mem_cons.mpr ⟨Or.inr ⟨by decide, _, bg hts mw_197, hNc ("java/lang/UnsupportedOperationException", "java/lang/IllegalArgumentException") (by decide +kernel)⟩, List.forall_mem_cons.mpr ⟨Or.inr ⟨by decide, _, bg hts mw_326, hNc ("java/lang/UnsupportedOperationException", "java/util/NoSuchElementException") (by decide +kernel)⟩, fun z hz => absurd hz List.not_mem_nil⟩⟩) rfl (by decide) (bg hts mw_199) (va_Nw.use (NB_ot _ (List.mem_of_getElem? (i := 2) rfl)) (hZ.1 _ (List.mem_of_getElem? (i := 2) rfl))) hce hcv hcl ?_
      refine W.eq (g2 := F0 m 23 ls [.ref q9]) rfl ?_
      refine lv_astore (lv' := [(5, .ref q9), (0, .ref (ad 0)), (1, .int (m0)), (2, .int (p0)), (3, .int (h0)), (4, .ref qo)]) hx hb d_W_judge_23 hl (by decide) rfl (fun ls hl => ?_)
      refine lv_iconst (v := 3) hx hb d_W_judge_25 (by decide) ?_
      exact W.iret (v := 3) hx hb hr (fun t9 e9 hW => ⟨⟨3, (t, f), rfl, ⟨3, (judR t m0 p0 h0).2.1, rfl, by decide, Prod.ext hk (Prod.ext rfl (judge_t t m0 p0 h0 (by rw [hk]; decide))), fun h => absurd h (by decide)⟩, ⟨by rw [e9, ← ht]; exact hB.1, va_K.moved hW.alike hK, hB.2.2⟩, by rw [e9]; exact hPo1⟩, hS.F e9⟩) hS.2.2 d_W_judge_26
  · have hPo1 := o_kept hPo rfl hne hk1
    have hP1 : va_P D cls (cw ad ka t2) H1 := ht ▸ hB.1
    obtain ⟨hPj, hDj⟩ := oj hP1 hB.2.2 hPo1 hne
    have hKj := hK.app hKo
    refine lv_i2l hx hb d_W_judge_10 rfl ?_
    refine va_last (D := D) hx hb hKj hPj hDj hS (cw ad ka t2).length 5 (la_at _ _) rfl (by unfold vp_in; decide) d_W_judge_11 (fun H locs hP hD hS => ?_)
    rw [la_set] at hP hD
    refine lv_goto (tgt := 27) hx hb d_W_judge_12 (by decide) ?_
    refine lv_iconst (v := 0) hx hb d_W_judge_27 (by decide) ?_
    exact W.iret (v := 0) hx hb hr (fun t9 e9 hW => ⟨⟨0, (t2, vp_updL f 0 (r.toInt64)), rfl, ⟨0, r, rfl, by decide, hw, fun _ => rfl⟩, ⟨by rw [e9]; exact va_Pl hP, va_K.moved hW.alike hK, va_Dl hD⟩, by rw [e9]; exact va_Pr hP⟩, hS.F e9⟩) hS.2.2 d_W_judge_28
theorem bounce_t (t : Mem) (x : Int32) (a : Int32) (h : Int32) (h9 : ¬ (bncR t x a h).1 = 0) : (bncR t x a h).2.2 = t := by
  revert h9
  unfold bncR
  repeat' split
  all_goals first | (intro h; exact absurd rfl h) | (intro _; rfl)
set_option maxHeartbeats 4000000 in
set_option maxRecDepth 100000 in
theorem c_W_bounce (l : Launch) (hl0 : l.stackTraces = false) (D : va_G) (ad : Nat → Nat) (ka : Nat → ClassId) (sa : Nat → Nat) (sz : Nat) (t : Mem) (ho : OKX t) (x : Int32) (a : Int32) (h : Int32) (qo : Nat) (kl : ClassId) (f : Nat → UInt64) : Met l y_W_bounce (Cond.codeWith y_W_bounce b_W_bounce 6 (some .int) [(0, 11, 14, 13), (0, 11, 18, 23), (0, 11, 22, 15)] :: big) ({ frames := 10, cells := 3, slots := 18, locals := 170 }) (va_Pc [.ref (ad 0), .int (x), .int (a), .int (h), .ref qo] (PH D ad ka sa sz t qo kl .double (oD f))) (va_Qi (fun (kr : Int32) (zz : Mem × (Nat → UInt64)) => ∃ (n : Nat) (r : UInt64), kr = nI n ∧ n < 4 ∧ bncR t x a h = (n, r, zz.1) ∧ (n = 0 → zz.2 0 = r)) (fun (zz : Mem × (Nat → UInt64)) (U : State) => BH D ad ka sz qo kl zz.1 (oD zz.2) U) (AO ad qo sz)) 3 18 (AO ad qo sz) := by
  refine met_ofWH (cc := b_W_bounce) (maxL := 6) (ret := some .int) (hh := [(0, 11, 14, 13), (0, 11, 18, 23), (0, 11, 22, 15)]) (by decide) rfl ?_
  intro p e s m args below meth c s₁ B hml hv
  obtain ⟨rfl, ⟨⟨hsz, hP, hK, hD0⟩, hZ⟩, ⟨hPo, hKo⟩, hne, hNc⟩ := hv
  have hx := B.exec
  have hb := B.bytes
  have hr := B.returns
  have hlocks := B.notSynchronized
  have hts := atoms_spec (ws := Cond.codeWith y_W_bounce b_W_bounce 6 (some .int) [(0, 11, 14, 13), (0, 11, 18, 23), (0, 11, 22, 15)] :: big) B.pre
  have hown : s.vm.findClass "ListForgeLaw" = some m.cls := findClass_of_methodNamed B.named
  have hTb := vx_table (x := y_W_bounce) B (hts _ List.mem_cons_self)
  subst hsz
  have hD : va_D (AX ad s.heap.size) (cw ad ka t) := AX_D hD0
  have hS : va_S (AO ad qo s.heap.size) s.heap s.heap [] := va_S.rf
  have hl := lv_entry ([.ref (ad 0), .int (x), .int (a), .int (h), .ref qo]) (n := 6) (Nat.le_of_ble_eq_true rfl)
  rw [lg_entry_eq]
  generalize (lg_sl ([.ref (ad 0), .int (x), .int (a), .int (h), .ref qo]) ++ List.replicate (6 - (lg_sl ([.ref (ad 0), .int (x), .int (a), .int (h), .ref qo])).length) Slot.unset).toArray = ls at hl ⊢
  have hl : lv_has ls 6 [(0, .ref (ad 0)), (1, .int (x)), (2, .int (a)), (3, .int (h)), (4, .ref qo)] := hl
  refine lv_aload hx hb d_W_bounce_0 (lv_at hl 4 rfl) ?_
  refine lv_iconst (v := 0) hx hb d_W_bounce_2 (by decide) ?_
  refine lv_aload_n hx hb d_W_bounce_3 rfl (lv_at hl 0 rfl) ?_
  refine lv_iload_n hx hb d_W_bounce_4 rfl (lv_at hl 1 rfl) ?_
  refine lv_iload_n hx hb d_W_bounce_5 rfl (lv_at hl 2 rfl) ?_
  refine lv_iload_n hx hb d_W_bounce_6 rfl (lv_at hl 3 rfl) ?_
  refine vx_calld (vx_runV (As := [.int (x), .int (a), .int (h)]) (rest := [.int 0, .ref qo]) ⟨hx, hb, hml, hown, hts⟩ (c_F_bounce l hl0 D ad ka sa s.heap.size t ho x a h) (cwV 3 hts (gv mw_484 mw_485 mw_486 mw_1 mw_487) rfl rfl rfl (by decide +kernel) ⟨Nat.le_of_ble_eq_true rfl, Nat.le_of_ble_eq_true rfl⟩) ⟨PZ_blind, va_recv hK hP (ci := 4) (q0 := 0) rfl at_F, fun U hU hW => ⟨rfl, PX_at hU hW hP hK hD, ZX_at hU hW hZ va_S.rf⟩⟩ rfl rfl hl.1 rfl (lv_room (Nat.le_of_ble_eq_true rfl)) d_W_bounce_7 ⟨Nat.le_of_ble_eq_true rfl, Nat.le_of_ble_eq_true rfl⟩) hS (fun q _ h => Or.inl h) (fun q h => Or.inl h) (fun q _ h => Or.inl h) (fun E ce q9 _ tq H1 locs ht hvm _ hB hz1 hk1 hS hce hcv hcl => ?_) (fun r t2 tq H1 locs ht hvm hw hB hz1 hk1 hS => ?_)
  · have hPo1 := o_kept hPo rfl hne hk1
    obtain ⟨hE, hB⟩ := hB
    rcases hE with ⟨rfl, hk⟩ | ⟨rfl, hk⟩ | ⟨rfl, hk⟩
    · refine vx_catch (own := "ListForgeLaw") (name := "java/lang/IllegalArgumentException") hown [] ⟨0, 11, 14, 13⟩ [⟨0, 11, 18, 23⟩, ⟨0, 11, 22, 15⟩] (hTb.trans rfl) (fun z hz => absurd hz List.not_mem_nil) rfl (by decide) (bg hts mw_197) (va_Nw.use (NB_ot _ (List.mem_of_getElem? (i := 0) rfl)) (hZ.1 _ (List.mem_of_getElem? (i := 0) rfl))) hce hcv hcl ?_
      refine W.eq (g2 := F0 m 14 ls [.ref q9]) rfl ?_
      refine lv_astore (lv' := [(5, .ref q9), (0, .ref (ad 0)), (1, .int (x)), (2, .int (a)), (3, .int (h)), (4, .ref qo)]) hx hb d_W_bounce_14 hl (by decide) rfl (fun ls hl => ?_)
      refine lv_iconst (v := 1) hx hb d_W_bounce_16 (by decide) ?_
      exact W.iret (v := 1) hx hb hr (fun t9 e9 hW => ⟨⟨1, (t, f), rfl, ⟨1, (bncR t x a h).2.1, rfl, by decide, Prod.ext hk (Prod.ext rfl (bounce_t t x a h (by rw [hk]; decide))), fun h => absurd h (by decide)⟩, ⟨by rw [e9, ← ht]; exact hB.1, va_K.moved hW.alike hK, hB.2.2⟩, by rw [e9]; exact hPo1⟩, hS.F e9⟩) hS.2.2 d_W_bounce_17
    · refine vx_catch (own := "ListForgeLaw") (name := "java/util/NoSuchElementException") hown [⟨0, 11, 14, 13⟩] ⟨0, 11, 18, 23⟩ [⟨0, 11, 22, 15⟩] (hTb.trans rfl) (List.forall_mem_cons.mpr ⟨Or.inr ⟨by decide, _, bg hts mw_197, hNc ("java/util/NoSuchElementException", "java/lang/IllegalArgumentException") (by decide +kernel)⟩, fun z hz => absurd hz List.not_mem_nil⟩) rfl (by decide) (bg hts mw_326) (va_Nw.use (NB_ot _ (List.mem_of_getElem? (i := 3) rfl)) (hZ.1 _ (List.mem_of_getElem? (i := 3) rfl))) hce hcv hcl ?_
      refine W.eq (g2 := F0 m 18 ls [.ref q9]) rfl ?_
      refine lv_astore (lv' := [(5, .ref q9), (0, .ref (ad 0)), (1, .int (x)), (2, .int (a)), (3, .int (h)), (4, .ref qo)]) hx hb d_W_bounce_18 hl (by decide) rfl (fun ls hl => ?_)
      refine lv_iconst (v := 2) hx hb d_W_bounce_20 (by decide) ?_
      exact W.iret (v := 2) hx hb hr (fun t9 e9 hW => ⟨⟨2, (t, f), rfl, ⟨2, (bncR t x a h).2.1, rfl, by decide, Prod.ext hk (Prod.ext rfl (bounce_t t x a h (by rw [hk]; decide))), fun h => absurd h (by decide)⟩, ⟨by rw [e9, ← ht]; exact hB.1, va_K.moved hW.alike hK, hB.2.2⟩, by rw [e9]; exact hPo1⟩, hS.F e9⟩) hS.2.2 d_W_bounce_21
    · refine vx_catch (own := "ListForgeLaw") (name := "java/lang/IllegalStateException") hown [⟨0, 11, 14, 13⟩, ⟨0, 11, 18, 23⟩] ⟨0, 11, 22, 15⟩ [] (hTb.trans rfl) (List.forall_mem_cons.mpr ⟨Or.inr ⟨by decide, _, bg hts mw_197, hNc ("java/lang/IllegalStateException", "java/lang/IllegalArgumentException") (by decide +kernel)⟩, List.forall_mem_cons.mpr ⟨Or.inr ⟨by decide, _, bg hts mw_326, hNc ("java/lang/IllegalStateException", "java/util/NoSuchElementException") (by decide +kernel)⟩, fun z hz => absurd hz List.not_mem_nil⟩⟩) rfl (by decide) (bg hts mw_198) (va_Nw.use (NB_ot _ (List.mem_of_getElem? (i := 1) rfl)) (hZ.1 _ (List.mem_of_getElem? (i := 1) rfl))) hce hcv hcl ?_
      refine W.eq (g2 := F0 m 22 ls [.ref q9]) rfl ?_
      refine lv_astore (lv' := [(5, .ref q9), (0, .ref (ad 0)), (1, .int (x)), (2, .int (a)), (3, .int (h)), (4, .ref qo)]) hx hb d_W_bounce_22 hl (by decide) rfl (fun ls hl => ?_)
      refine lv_iconst (v := 3) hx hb d_W_bounce_24 (by decide) ?_
      exact W.iret (v := 3) hx hb hr (fun t9 e9 hW => ⟨⟨3, (t, f), rfl, ⟨3, (bncR t x a h).2.1, rfl, by decide, Prod.ext hk (Prod.ext rfl (bounce_t t x a h (by rw [hk]; decide))), fun h => absurd h (by decide)⟩, ⟨by rw [e9, ← ht]; exact hB.1, va_K.moved hW.alike hK, hB.2.2⟩, by rw [e9]; exact hPo1⟩, hS.F e9⟩) hS.2.2 d_W_bounce_25
  · have hPo1 := o_kept hPo rfl hne hk1
    have hP1 : va_P D cls (cw ad ka t2) H1 := ht ▸ hB.1
    obtain ⟨hPj, hDj⟩ := oj hP1 hB.2.2 hPo1 hne
    have hKj := hK.app hKo
    refine va_dast (D := D) hx hb hKj hPj hDj hS (cw ad ka t2).length 5 (la_at _ _) rfl (by unfold vp_in; decide) d_W_bounce_10 (fun H locs hP hD hS => ?_)
    rw [la_set] at hP hD
    refine lv_goto (tgt := 26) hx hb d_W_bounce_11 (by decide) ?_
    refine lv_iconst (v := 0) hx hb d_W_bounce_26 (by decide) ?_
    exact W.iret (v := 0) hx hb hr (fun t9 e9 hW => ⟨⟨0, (t2, vf_upd f 0 r), rfl, ⟨0, r, rfl, by decide, hw, fun _ => rfl⟩, ⟨by rw [e9]; exact va_Pl hP, va_K.moved hW.alike hK, va_Dl hD⟩, by rw [e9]; exact va_Pr hP⟩, hS.F e9⟩) hS.2.2 d_W_bounce_27
theorem renew_t (t : Mem) (x : Int32) (a : Int32) (h9 : ¬ (renewR t x a).1 = 0) : (renewR t x a).2.2 = t := by
  revert h9
  unfold renewR
  repeat' split
  all_goals first | (intro h; exact absurd rfl h) | (intro _; rfl)
set_option maxHeartbeats 4000000 in
set_option maxRecDepth 100000 in
theorem c_W_renew (l : Launch) (hl0 : l.stackTraces = false) (D : va_G) (ad : Nat → Nat) (ka : Nat → ClassId) (sa : Nat → Nat) (sz : Nat) (t : Mem) (x : Int32) (a : Int32) (qo : Nat) (kl : ClassId) (f : Nat → Int64) : Met l y_W_renew (Cond.codeWith y_W_renew b_W_renew 5 (some .int) [(0, 10, 13, 13), (0, 10, 17, 23), (0, 10, 21, 15)] :: big) ({ frames := 10, cells := 3, slots := 18, locals := 170 }) (va_Pc [.ref (ad 0), .int (x), .int (a), .ref qo] (PH D ad ka sa sz t qo kl .long (oL f))) (va_Qi (fun (kr : Int32) (zz : Mem × (Nat → Int64)) => ∃ (n : Nat) (r : Int32), kr = nI n ∧ n < 4 ∧ renewR t x a = (n, r, zz.1) ∧ (n = 0 → zz.2 0 = r.toInt64)) (fun (zz : Mem × (Nat → Int64)) (U : State) => BH D ad ka sz qo kl zz.1 (oL zz.2) U) (AO ad qo sz)) 3 18 (AO ad qo sz) := by
  refine met_ofWH (cc := b_W_renew) (maxL := 5) (ret := some .int) (hh := [(0, 10, 13, 13), (0, 10, 17, 23), (0, 10, 21, 15)]) (by decide) rfl ?_
  intro p e s m args below meth c s₁ B hml hv
  obtain ⟨rfl, ⟨⟨hsz, hP, hK, hD0⟩, hZ⟩, ⟨hPo, hKo⟩, hne, hNc⟩ := hv
  have hx := B.exec
  have hb := B.bytes
  have hr := B.returns
  have hlocks := B.notSynchronized
  have hts := atoms_spec (ws := Cond.codeWith y_W_renew b_W_renew 5 (some .int) [(0, 10, 13, 13), (0, 10, 17, 23), (0, 10, 21, 15)] :: big) B.pre
  have hown : s.vm.findClass "ListForgeLaw" = some m.cls := findClass_of_methodNamed B.named
  have hTb := vx_table (x := y_W_renew) B (hts _ List.mem_cons_self)
  subst hsz
  have hD : va_D (AX ad s.heap.size) (cw ad ka t) := AX_D hD0
  have hS : va_S (AO ad qo s.heap.size) s.heap s.heap [] := va_S.rf
  have hl := lv_entry ([.ref (ad 0), .int (x), .int (a), .ref qo]) (n := 5) (Nat.le_of_ble_eq_true rfl)
  rw [lg_entry_eq]
  generalize (lg_sl ([.ref (ad 0), .int (x), .int (a), .ref qo]) ++ List.replicate (5 - (lg_sl ([.ref (ad 0), .int (x), .int (a), .ref qo])).length) Slot.unset).toArray = ls at hl ⊢
  have hl : lv_has ls 5 [(0, .ref (ad 0)), (1, .int (x)), (2, .int (a)), (3, .ref qo)] := hl
  refine lv_aload_n hx hb d_W_renew_0 rfl (lv_at hl 3 rfl) ?_
  refine lv_iconst (v := 0) hx hb d_W_renew_1 (by decide) ?_
  refine lv_aload_n hx hb d_W_renew_2 rfl (lv_at hl 0 rfl) ?_
  refine lv_iload_n hx hb d_W_renew_3 rfl (lv_at hl 1 rfl) ?_
  refine lv_iload_n hx hb d_W_renew_4 rfl (lv_at hl 2 rfl) ?_
  refine vx_calli (vx_runV (As := [.int (x), .int (a)]) (rest := [.int 0, .ref qo]) ⟨hx, hb, hml, hown, hts⟩ (c_F_renew l hl0 D ad ka sa s.heap.size t x a) (cwV 2 hts (gv mw_496 mw_497 mw_498 mw_1 mw_499) rfl rfl rfl (by decide +kernel) ⟨Nat.le_of_ble_eq_true rfl, Nat.le_of_ble_eq_true rfl⟩) ⟨PZ_blind, va_recv hK hP (ci := 4) (q0 := 0) rfl at_F, fun U hU hW => ⟨rfl, PX_at hU hW hP hK hD, ZX_at hU hW hZ va_S.rf⟩⟩ rfl rfl hl.1 rfl (lv_room (Nat.le_of_ble_eq_true rfl)) d_W_renew_5 ⟨Nat.le_of_ble_eq_true rfl, Nat.le_of_ble_eq_true rfl⟩) hS (fun q _ h => Or.inl h) (fun q h => Or.inl h) (fun q _ h => Or.inl h) (fun E ce q9 _ tq H1 locs ht hvm _ hB hz1 hk1 hS hce hcv hcl => ?_) (fun r t2 tq H1 locs ht hvm hw hB hz1 hk1 hS => ?_)
  · have hPo1 := o_kept hPo rfl hne hk1
    obtain ⟨hE, hB⟩ := hB
    rcases hE with ⟨rfl, hk⟩ | ⟨rfl, hk⟩ | ⟨rfl, hk⟩
    · refine vx_catch (own := "ListForgeLaw") (name := "java/lang/IllegalArgumentException") hown [] ⟨0, 10, 13, 13⟩ [⟨0, 10, 17, 23⟩, ⟨0, 10, 21, 15⟩] (hTb.trans rfl) (fun z hz => absurd hz List.not_mem_nil) rfl (by decide) (bg hts mw_197) (va_Nw.use (NB_ot _ (List.mem_of_getElem? (i := 0) rfl)) (hZ.1 _ (List.mem_of_getElem? (i := 0) rfl))) hce hcv hcl ?_
      refine W.eq (g2 := F0 m 13 ls [.ref q9]) rfl ?_
      refine lv_astore (lv' := [(4, .ref q9), (0, .ref (ad 0)), (1, .int (x)), (2, .int (a)), (3, .ref qo)]) hx hb d_W_renew_13 hl (by decide) rfl (fun ls hl => ?_)
      refine lv_iconst (v := 1) hx hb d_W_renew_15 (by decide) ?_
      exact W.iret (v := 1) hx hb hr (fun t9 e9 hW => ⟨⟨1, (t, f), rfl, ⟨1, (renewR t x a).2.1, rfl, by decide, Prod.ext hk (Prod.ext rfl (renew_t t x a (by rw [hk]; decide))), fun h => absurd h (by decide)⟩, ⟨by rw [e9, ← ht]; exact hB.1, va_K.moved hW.alike hK, hB.2.2⟩, by rw [e9]; exact hPo1⟩, hS.F e9⟩) hS.2.2 d_W_renew_16
    · refine vx_catch (own := "ListForgeLaw") (name := "java/util/NoSuchElementException") hown [⟨0, 10, 13, 13⟩] ⟨0, 10, 17, 23⟩ [⟨0, 10, 21, 15⟩] (hTb.trans rfl) (List.forall_mem_cons.mpr ⟨Or.inr ⟨by decide, _, bg hts mw_197, hNc ("java/util/NoSuchElementException", "java/lang/IllegalArgumentException") (by decide +kernel)⟩, fun z hz => absurd hz List.not_mem_nil⟩) rfl (by decide) (bg hts mw_326) (va_Nw.use (NB_ot _ (List.mem_of_getElem? (i := 3) rfl)) (hZ.1 _ (List.mem_of_getElem? (i := 3) rfl))) hce hcv hcl ?_
      refine W.eq (g2 := F0 m 17 ls [.ref q9]) rfl ?_
      refine lv_astore (lv' := [(4, .ref q9), (0, .ref (ad 0)), (1, .int (x)), (2, .int (a)), (3, .ref qo)]) hx hb d_W_renew_17 hl (by decide) rfl (fun ls hl => ?_)
      refine lv_iconst (v := 2) hx hb d_W_renew_19 (by decide) ?_
      exact W.iret (v := 2) hx hb hr (fun t9 e9 hW => ⟨⟨2, (t, f), rfl, ⟨2, (renewR t x a).2.1, rfl, by decide, Prod.ext hk (Prod.ext rfl (renew_t t x a (by rw [hk]; decide))), fun h => absurd h (by decide)⟩, ⟨by rw [e9, ← ht]; exact hB.1, va_K.moved hW.alike hK, hB.2.2⟩, by rw [e9]; exact hPo1⟩, hS.F e9⟩) hS.2.2 d_W_renew_20
    · refine vx_catch (own := "ListForgeLaw") (name := "java/lang/IllegalStateException") hown [⟨0, 10, 13, 13⟩, ⟨0, 10, 17, 23⟩] ⟨0, 10, 21, 15⟩ [] (hTb.trans rfl) (List.forall_mem_cons.mpr ⟨Or.inr ⟨by decide, _, bg hts mw_197, hNc ("java/lang/IllegalStateException", "java/lang/IllegalArgumentException") (by decide +kernel)⟩, List.forall_mem_cons.mpr ⟨Or.inr ⟨by decide, _, bg hts mw_326, hNc ("java/lang/IllegalStateException", "java/util/NoSuchElementException") (by decide +kernel)⟩, fun z hz => absurd hz List.not_mem_nil⟩⟩) rfl (by decide) (bg hts mw_198) (va_Nw.use (NB_ot _ (List.mem_of_getElem? (i := 1) rfl)) (hZ.1 _ (List.mem_of_getElem? (i := 1) rfl))) hce hcv hcl ?_
      refine W.eq (g2 := F0 m 21 ls [.ref q9]) rfl ?_
      refine lv_astore (lv' := [(4, .ref q9), (0, .ref (ad 0)), (1, .int (x)), (2, .int (a)), (3, .ref qo)]) hx hb d_W_renew_21 hl (by decide) rfl (fun ls hl => ?_)
      refine lv_iconst (v := 3) hx hb d_W_renew_23 (by decide) ?_
      exact W.iret (v := 3) hx hb hr (fun t9 e9 hW => ⟨⟨3, (t, f), rfl, ⟨3, (renewR t x a).2.1, rfl, by decide, Prod.ext hk (Prod.ext rfl (renew_t t x a (by rw [hk]; decide))), fun h => absurd h (by decide)⟩, ⟨by rw [e9, ← ht]; exact hB.1, va_K.moved hW.alike hK, hB.2.2⟩, by rw [e9]; exact hPo1⟩, hS.F e9⟩) hS.2.2 d_W_renew_24
  · have hPo1 := o_kept hPo rfl hne hk1
    have hP1 : va_P D cls (cw ad ka t2) H1 := ht ▸ hB.1
    obtain ⟨hPj, hDj⟩ := oj hP1 hB.2.2 hPo1 hne
    have hKj := hK.app hKo
    refine lv_i2l hx hb d_W_renew_8 rfl ?_
    refine va_last (D := D) hx hb hKj hPj hDj hS (cw ad ka t2).length 5 (la_at _ _) rfl (by unfold vp_in; decide) d_W_renew_9 (fun H locs hP hD hS => ?_)
    rw [la_set] at hP hD
    refine lv_goto (tgt := 25) hx hb d_W_renew_10 (by decide) ?_
    refine lv_iconst (v := 0) hx hb d_W_renew_25 (by decide) ?_
    exact W.iret (v := 0) hx hb hr (fun t9 e9 hW => ⟨⟨0, (t2, vp_updL f 0 (r.toInt64)), rfl, ⟨0, r, rfl, by decide, hw, fun _ => rfl⟩, ⟨by rw [e9]; exact va_Pl hP, va_K.moved hW.alike hK, va_Dl hD⟩, by rw [e9]; exact va_Pr hP⟩, hS.F e9⟩) hS.2.2 d_W_renew_26
theorem tick_t (t : Mem) (d0 : Int32) (h : ¬ (tickR t d0).1 = 0) : (tickR t d0).2.2 = t := by
  revert h
  unfold tickR
  split
  · intro _; rfl
  · intro h; exact absurd rfl h
set_option maxHeartbeats 4000000 in
set_option maxRecDepth 100000 in
theorem c_W_tick (l : Launch) (hl0 : l.stackTraces = false) (D : va_G) (ad : Nat → Nat) (ka : Nat → ClassId) (sa : Nat → Nat) (sz : Nat) (t : Mem) (ho : OKX t) (d0 : Int32) (qo : Nat) (kl : ClassId) (f : Nat → Int64) : Met l y_W_tick (Cond.codeWith y_W_tick b_W_tick 4 (some .int) [(0, 9, 12, 13)] :: big) ({ frames := 8, cells := 1, slots := 6, locals := 125 }) (va_Pc [.ref (ad 0), .int (d0), .ref qo] (PH D ad ka sa sz t qo kl .long (oL f))) (va_Qi (fun (kr : Int32) (zz : Mem × (Nat → Int64)) => ∃ (n : Nat) (r : Int32), kr = nI n ∧ n < 4 ∧ tickR t d0 = (n, r, zz.1) ∧ (n = 0 → zz.2 0 = r.toInt64)) (fun (zz : Mem × (Nat → Int64)) (U : State) => BH D ad ka sz qo kl zz.1 (oL zz.2) U) (AO ad qo sz)) 1 6 (AO ad qo sz) := by
  refine met_ofWH (cc := b_W_tick) (maxL := 4) (ret := some .int) (hh := [(0, 9, 12, 13)]) (by decide) rfl ?_
  intro p e s m args below meth c s₁ B hml hv
  obtain ⟨rfl, ⟨⟨hsz, hP, hK, hD0⟩, hZ⟩, ⟨hPo, hKo⟩, hne, hNc⟩ := hv
  have hx := B.exec
  have hb := B.bytes
  have hr := B.returns
  have hlocks := B.notSynchronized
  have hts := atoms_spec (ws := Cond.codeWith y_W_tick b_W_tick 4 (some .int) [(0, 9, 12, 13)] :: big) B.pre
  have hown : s.vm.findClass "ListForgeLaw" = some m.cls := findClass_of_methodNamed B.named
  have hTb := vx_table (x := y_W_tick) B (hts _ List.mem_cons_self)
  subst hsz
  have hD : va_D (AX ad s.heap.size) (cw ad ka t) := AX_D hD0
  have hS : va_S (AO ad qo s.heap.size) s.heap s.heap [] := va_S.rf
  have hl := lv_entry ([.ref (ad 0), .int (d0), .ref qo]) (n := 4) (Nat.le_of_ble_eq_true rfl)
  rw [lg_entry_eq]
  generalize (lg_sl ([.ref (ad 0), .int (d0), .ref qo]) ++ List.replicate (4 - (lg_sl ([.ref (ad 0), .int (d0), .ref qo])).length) Slot.unset).toArray = ls at hl ⊢
  have hl : lv_has ls 4 [(0, .ref (ad 0)), (1, .int (d0)), (2, .ref qo)] := hl
  refine lv_aload_n hx hb d_W_tick_0 rfl (lv_at hl 2 rfl) ?_
  refine lv_iconst (v := 0) hx hb d_W_tick_1 (by decide) ?_
  refine lv_aload_n hx hb d_W_tick_2 rfl (lv_at hl 0 rfl) ?_
  refine lv_iload_n hx hb d_W_tick_3 rfl (lv_at hl 1 rfl) ?_
  refine vx_calli (vx_runV (As := [.int (d0)]) (rest := [.int 0, .ref qo]) ⟨hx, hb, hml, hown, hts⟩ (c_F_tick l hl0 D ad ka sa s.heap.size t ho d0) (cwV 1 hts (gv mw_504 mw_505 mw_506 mw_1 mw_507) rfl rfl rfl (by decide +kernel) ⟨Nat.le_of_ble_eq_true rfl, Nat.le_of_ble_eq_true rfl⟩) ⟨PZ_blind, va_recv hK hP (ci := 4) (q0 := 0) rfl at_F, fun U hU hW => ⟨rfl, PX_at hU hW hP hK hD, ZX_at hU hW hZ va_S.rf⟩⟩ rfl rfl hl.1 rfl (lv_room (Nat.le_of_ble_eq_true rfl)) d_W_tick_4 ⟨Nat.le_of_ble_eq_true rfl, Nat.le_of_ble_eq_true rfl⟩) hS (fun q _ h => Or.inl h) (fun q h => Or.inl h) (fun q _ h => Or.inl h) (fun E ce q9 _ tq H1 locs ht hvm _ hB hz1 hk1 hS hce hcv hcl => ?_) (fun r t2 tq H1 locs ht hvm hw hB hz1 hk1 hS => ?_)
  · have hPo1 := o_kept hPo rfl hne hk1
    obtain ⟨hE, hB⟩ := hB
    obtain ⟨rfl, hk⟩ := hE
    refine vx_catch (own := "ListForgeLaw") (name := "java/lang/IllegalArgumentException") hown [] ⟨0, 9, 12, 13⟩ [] (hTb.trans rfl) (fun z hz => absurd hz List.not_mem_nil) rfl (by decide) (bg hts mw_197) (va_Nw.use (NB_ot _ (List.mem_of_getElem? (i := 0) rfl)) (hZ.1 _ (List.mem_of_getElem? (i := 0) rfl))) hce hcv hcl ?_
    refine W.eq (g2 := F0 m 12 ls [.ref q9]) rfl ?_
    refine lv_astore_n (lv' := [(3, .ref q9), (0, .ref (ad 0)), (1, .int (d0)), (2, .ref qo)]) hx hb d_W_tick_12 rfl hl (by decide) rfl (fun ls hl => ?_)
    refine lv_iconst (v := 1) hx hb d_W_tick_13 (by decide) ?_
    exact W.iret (v := 1) hx hb hr (fun t9 e9 hW => ⟨⟨1, (t, f), rfl, ⟨1, (tickR t d0).2.1, rfl, by decide, Prod.ext hk (Prod.ext rfl (tick_t t d0 (by rw [hk]; decide))), fun h => absurd h (by decide)⟩, ⟨by rw [e9, ← ht]; exact hB.1, va_K.moved hW.alike hK, hB.2.2⟩, by rw [e9]; exact hPo1⟩, hS.F e9⟩) hS.2.2 d_W_tick_14
  · have hPo1 := o_kept hPo rfl hne hk1
    have hP1 : va_P D cls (cw ad ka t2) H1 := ht ▸ hB.1
    obtain ⟨hPj, hDj⟩ := oj hP1 hB.2.2 hPo1 hne
    have hKj := hK.app hKo
    refine lv_i2l hx hb d_W_tick_7 rfl ?_
    refine va_last (D := D) hx hb hKj hPj hDj hS (cw ad ka t2).length 5 (la_at _ _) rfl (by unfold vp_in; decide) d_W_tick_8 (fun H locs hP hD hS => ?_)
    rw [la_set] at hP hD
    refine lv_goto (tgt := 15) hx hb d_W_tick_9 (by decide) ?_
    refine lv_iconst (v := 0) hx hb d_W_tick_15 (by decide) ?_
    exact W.iret (v := 0) hx hb hr (fun t9 e9 hW => ⟨⟨0, (t2, vp_updL f 0 (r.toInt64)), rfl, ⟨0, r, rfl, by decide, hw, fun _ => rfl⟩, ⟨by rw [e9]; exact va_Pl hP, va_K.moved hW.alike hK, va_Dl hD⟩, by rw [e9]; exact va_Pr hP⟩, hS.F e9⟩) hS.2.2 d_W_tick_16
theorem told_t (t : Mem) (x : Int32) (a : Int32) (w : Int32) (h9 : ¬ (toldR t x a w).1 = 0) : (toldR t x a w).2.2 = t := by
  revert h9
  unfold toldR
  repeat' split
  all_goals first | (intro h; exact absurd rfl h) | (intro _; rfl)
set_option maxHeartbeats 4000000 in
set_option maxRecDepth 100000 in
theorem c_W_told (l : Launch) (hl0 : l.stackTraces = false) (D : va_G) (ad : Nat → Nat) (ka : Nat → ClassId) (sa : Nat → Nat) (sz : Nat) (t : Mem) (x : Int32) (a : Int32) (w : Int32) (qo : Nat) (kl : ClassId) (f : Nat → Int64) : Met l y_W_told (Cond.codeWith y_W_told b_W_told 6 (some .int) [(0, 12, 15, 13), (0, 12, 19, 23)] :: big) ({ frames := 10, cells := 3, slots := 18, locals := 170 }) (va_Pc [.ref (ad 0), .int (x), .int (a), .int (w), .ref qo] (PH D ad ka sa sz t qo kl .long (oL f))) (va_Qi (fun (kr : Int32) (zz : Mem × (Nat → Int64)) => ∃ (n : Nat) (r : Int32), kr = nI n ∧ n < 4 ∧ toldR t x a w = (n, r, zz.1) ∧ (n = 0 → zz.2 0 = r.toInt64)) (fun (zz : Mem × (Nat → Int64)) (U : State) => BH D ad ka sz qo kl zz.1 (oL zz.2) U) (AO ad qo sz)) 3 18 (AO ad qo sz) := by
  refine met_ofWH (cc := b_W_told) (maxL := 6) (ret := some .int) (hh := [(0, 12, 15, 13), (0, 12, 19, 23)]) (by decide) rfl ?_
  intro p e s m args below meth c s₁ B hml hv
  obtain ⟨rfl, ⟨⟨hsz, hP, hK, hD0⟩, hZ⟩, ⟨hPo, hKo⟩, hne, hNc⟩ := hv
  have hx := B.exec
  have hb := B.bytes
  have hr := B.returns
  have hlocks := B.notSynchronized
  have hts := atoms_spec (ws := Cond.codeWith y_W_told b_W_told 6 (some .int) [(0, 12, 15, 13), (0, 12, 19, 23)] :: big) B.pre
  have hown : s.vm.findClass "ListForgeLaw" = some m.cls := findClass_of_methodNamed B.named
  have hTb := vx_table (x := y_W_told) B (hts _ List.mem_cons_self)
  subst hsz
  have hD : va_D (AX ad s.heap.size) (cw ad ka t) := AX_D hD0
  have hS : va_S (AO ad qo s.heap.size) s.heap s.heap [] := va_S.rf
  have hl := lv_entry ([.ref (ad 0), .int (x), .int (a), .int (w), .ref qo]) (n := 6) (Nat.le_of_ble_eq_true rfl)
  rw [lg_entry_eq]
  generalize (lg_sl ([.ref (ad 0), .int (x), .int (a), .int (w), .ref qo]) ++ List.replicate (6 - (lg_sl ([.ref (ad 0), .int (x), .int (a), .int (w), .ref qo])).length) Slot.unset).toArray = ls at hl ⊢
  have hl : lv_has ls 6 [(0, .ref (ad 0)), (1, .int (x)), (2, .int (a)), (3, .int (w)), (4, .ref qo)] := hl
  refine lv_aload hx hb d_W_told_0 (lv_at hl 4 rfl) ?_
  refine lv_iconst (v := 0) hx hb d_W_told_2 (by decide) ?_
  refine lv_aload_n hx hb d_W_told_3 rfl (lv_at hl 0 rfl) ?_
  refine lv_iload_n hx hb d_W_told_4 rfl (lv_at hl 1 rfl) ?_
  refine lv_iload_n hx hb d_W_told_5 rfl (lv_at hl 2 rfl) ?_
  refine lv_iload_n hx hb d_W_told_6 rfl (lv_at hl 3 rfl) ?_
  refine vx_calli (vx_runV (As := [.int (x), .int (a), .int (w)]) (rest := [.int 0, .ref qo]) ⟨hx, hb, hml, hown, hts⟩ (c_F_told l hl0 D ad ka sa s.heap.size t x a w) (cwV 3 hts (gv mw_530 mw_531 mw_532 mw_1 mw_533) rfl rfl rfl (by decide +kernel) ⟨Nat.le_of_ble_eq_true rfl, Nat.le_of_ble_eq_true rfl⟩) ⟨PZ_blind, va_recv hK hP (ci := 4) (q0 := 0) rfl at_F, fun U hU hW => ⟨rfl, PX_at hU hW hP hK hD, ZX_at hU hW hZ va_S.rf⟩⟩ rfl rfl hl.1 rfl (lv_room (Nat.le_of_ble_eq_true rfl)) d_W_told_7 ⟨Nat.le_of_ble_eq_true rfl, Nat.le_of_ble_eq_true rfl⟩) hS (fun q _ h => Or.inl h) (fun q h => Or.inl h) (fun q _ h => Or.inl h) (fun E ce q9 _ tq H1 locs ht hvm _ hB hz1 hk1 hS hce hcv hcl => ?_) (fun r t2 tq H1 locs ht hvm hw hB hz1 hk1 hS => ?_)
  · have hPo1 := o_kept hPo rfl hne hk1
    obtain ⟨hE, hB⟩ := hB
    rcases hE with ⟨rfl, hk⟩ | ⟨rfl, hk⟩
    · refine vx_catch (own := "ListForgeLaw") (name := "java/lang/IllegalArgumentException") hown [] ⟨0, 12, 15, 13⟩ [⟨0, 12, 19, 23⟩] (hTb.trans rfl) (fun z hz => absurd hz List.not_mem_nil) rfl (by decide) (bg hts mw_197) (va_Nw.use (NB_ot _ (List.mem_of_getElem? (i := 0) rfl)) (hZ.1 _ (List.mem_of_getElem? (i := 0) rfl))) hce hcv hcl ?_
      refine W.eq (g2 := F0 m 15 ls [.ref q9]) rfl ?_
      refine lv_astore (lv' := [(5, .ref q9), (0, .ref (ad 0)), (1, .int (x)), (2, .int (a)), (3, .int (w)), (4, .ref qo)]) hx hb d_W_told_15 hl (by decide) rfl (fun ls hl => ?_)
      refine lv_iconst (v := 1) hx hb d_W_told_17 (by decide) ?_
      exact W.iret (v := 1) hx hb hr (fun t9 e9 hW => ⟨⟨1, (t, f), rfl, ⟨1, (toldR t x a w).2.1, rfl, by decide, Prod.ext hk (Prod.ext rfl (told_t t x a w (by rw [hk]; decide))), fun h => absurd h (by decide)⟩, ⟨by rw [e9, ← ht]; exact hB.1, va_K.moved hW.alike hK, hB.2.2⟩, by rw [e9]; exact hPo1⟩, hS.F e9⟩) hS.2.2 d_W_told_18
    · refine vx_catch (own := "ListForgeLaw") (name := "java/util/NoSuchElementException") hown [⟨0, 12, 15, 13⟩] ⟨0, 12, 19, 23⟩ [] (hTb.trans rfl) (List.forall_mem_cons.mpr ⟨Or.inr ⟨by decide, _, bg hts mw_197, hNc ("java/util/NoSuchElementException", "java/lang/IllegalArgumentException") (by decide +kernel)⟩, fun z hz => absurd hz List.not_mem_nil⟩) rfl (by decide) (bg hts mw_326) (va_Nw.use (NB_ot _ (List.mem_of_getElem? (i := 3) rfl)) (hZ.1 _ (List.mem_of_getElem? (i := 3) rfl))) hce hcv hcl ?_
      refine W.eq (g2 := F0 m 19 ls [.ref q9]) rfl ?_
      refine lv_astore (lv' := [(5, .ref q9), (0, .ref (ad 0)), (1, .int (x)), (2, .int (a)), (3, .int (w)), (4, .ref qo)]) hx hb d_W_told_19 hl (by decide) rfl (fun ls hl => ?_)
      refine lv_iconst (v := 2) hx hb d_W_told_21 (by decide) ?_
      exact W.iret (v := 2) hx hb hr (fun t9 e9 hW => ⟨⟨2, (t, f), rfl, ⟨2, (toldR t x a w).2.1, rfl, by decide, Prod.ext hk (Prod.ext rfl (told_t t x a w (by rw [hk]; decide))), fun h => absurd h (by decide)⟩, ⟨by rw [e9, ← ht]; exact hB.1, va_K.moved hW.alike hK, hB.2.2⟩, by rw [e9]; exact hPo1⟩, hS.F e9⟩) hS.2.2 d_W_told_22
  · have hPo1 := o_kept hPo rfl hne hk1
    have hP1 : va_P D cls (cw ad ka t2) H1 := ht ▸ hB.1
    obtain ⟨hPj, hDj⟩ := oj hP1 hB.2.2 hPo1 hne
    have hKj := hK.app hKo
    refine lv_i2l hx hb d_W_told_10 rfl ?_
    refine va_last (D := D) hx hb hKj hPj hDj hS (cw ad ka t2).length 5 (la_at _ _) rfl (by unfold vp_in; decide) d_W_told_11 (fun H locs hP hD hS => ?_)
    rw [la_set] at hP hD
    refine lv_goto (tgt := 23) hx hb d_W_told_12 (by decide) ?_
    refine lv_iconst (v := 0) hx hb d_W_told_23 (by decide) ?_
    exact W.iret (v := 0) hx hb hr (fun t9 e9 hW => ⟨⟨0, (t2, vp_updL f 0 (r.toInt64)), rfl, ⟨0, r, rfl, by decide, hw, fun _ => rfl⟩, ⟨by rw [e9]; exact va_Pl hP, va_K.moved hW.alike hK, va_Dl hD⟩, by rw [e9]; exact va_Pr hP⟩, hS.F e9⟩) hS.2.2 d_W_told_24
theorem score_t (t : Mem) (x : Int32) (a : Int32) (h9 : ¬ (scoreR t x a).1 = 0) : (scoreR t x a).2.2 = t := by
  revert h9
  unfold scoreR
  repeat' split
  all_goals first | (intro h; exact absurd rfl h) | (intro _; rfl)
set_option maxHeartbeats 4000000 in
set_option maxRecDepth 100000 in
theorem c_W_score (l : Launch) (hl0 : l.stackTraces = false) (D : va_G) (ad : Nat → Nat) (ka : Nat → ClassId) (sa : Nat → Nat) (sz : Nat) (t : Mem) (x : Int32) (a : Int32) (qo : Nat) (kl : ClassId) (f : Nat → UInt64) : Met l y_W_score (Cond.codeWith y_W_score b_W_score 5 (some .int) [(0, 9, 12, 13), (0, 9, 16, 23)] :: big) ({ frames := 10, cells := 2, slots := 12, locals := 168 }) (va_Pc [.ref (ad 0), .int (x), .int (a), .ref qo] (PH D ad ka sa sz t qo kl .double (oD f))) (va_Qi (fun (kr : Int32) (zz : Mem × (Nat → UInt64)) => ∃ (n : Nat) (r : UInt64), kr = nI n ∧ n < 4 ∧ scoreR t x a = (n, r, zz.1) ∧ (n = 0 → zz.2 0 = r)) (fun (zz : Mem × (Nat → UInt64)) (U : State) => BH D ad ka sz qo kl zz.1 (oD zz.2) U) (AO ad qo sz)) 2 12 (AO ad qo sz) := by
  refine met_ofWH (cc := b_W_score) (maxL := 5) (ret := some .int) (hh := [(0, 9, 12, 13), (0, 9, 16, 23)]) (by decide) rfl ?_
  intro p e s m args below meth c s₁ B hml hv
  obtain ⟨rfl, ⟨⟨hsz, hP, hK, hD0⟩, hZ⟩, ⟨hPo, hKo⟩, hne, hNc⟩ := hv
  have hx := B.exec
  have hb := B.bytes
  have hr := B.returns
  have hlocks := B.notSynchronized
  have hts := atoms_spec (ws := Cond.codeWith y_W_score b_W_score 5 (some .int) [(0, 9, 12, 13), (0, 9, 16, 23)] :: big) B.pre
  have hown : s.vm.findClass "ListForgeLaw" = some m.cls := findClass_of_methodNamed B.named
  have hTb := vx_table (x := y_W_score) B (hts _ List.mem_cons_self)
  subst hsz
  have hD : va_D (AX ad s.heap.size) (cw ad ka t) := AX_D hD0
  have hS : va_S (AO ad qo s.heap.size) s.heap s.heap [] := va_S.rf
  have hl := lv_entry ([.ref (ad 0), .int (x), .int (a), .ref qo]) (n := 5) (Nat.le_of_ble_eq_true rfl)
  rw [lg_entry_eq]
  generalize (lg_sl ([.ref (ad 0), .int (x), .int (a), .ref qo]) ++ List.replicate (5 - (lg_sl ([.ref (ad 0), .int (x), .int (a), .ref qo])).length) Slot.unset).toArray = ls at hl ⊢
  have hl : lv_has ls 5 [(0, .ref (ad 0)), (1, .int (x)), (2, .int (a)), (3, .ref qo)] := hl
  refine lv_aload_n hx hb d_W_score_0 rfl (lv_at hl 3 rfl) ?_
  refine lv_iconst (v := 0) hx hb d_W_score_1 (by decide) ?_
  refine lv_aload_n hx hb d_W_score_2 rfl (lv_at hl 0 rfl) ?_
  refine lv_iload_n hx hb d_W_score_3 rfl (lv_at hl 1 rfl) ?_
  refine lv_iload_n hx hb d_W_score_4 rfl (lv_at hl 2 rfl) ?_
  refine vx_calld (vx_runV (As := [.int (x), .int (a)]) (rest := [.int 0, .ref qo]) ⟨hx, hb, hml, hown, hts⟩ (c_F_score l hl0 D ad ka sa s.heap.size t x a) (cwV 2 hts (gv mw_537 mw_538 mw_539 mw_1 mw_540) rfl rfl rfl (by decide +kernel) ⟨Nat.le_of_ble_eq_true rfl, Nat.le_of_ble_eq_true rfl⟩) ⟨PZ_blind, va_recv hK hP (ci := 4) (q0 := 0) rfl at_F, fun U hU hW => ⟨rfl, PX_at hU hW hP hK hD, ZX_at hU hW hZ va_S.rf⟩⟩ rfl rfl hl.1 rfl (lv_room (Nat.le_of_ble_eq_true rfl)) d_W_score_5 ⟨Nat.le_of_ble_eq_true rfl, Nat.le_of_ble_eq_true rfl⟩) hS (fun q _ h => Or.inl h) (fun q h => Or.inl h) (fun q _ h => Or.inl h) (fun E ce q9 _ tq H1 locs ht hvm _ hB hz1 hk1 hS hce hcv hcl => ?_) (fun r t2 tq H1 locs ht hvm hw hB hz1 hk1 hS => ?_)
  · have hPo1 := o_kept hPo rfl hne hk1
    obtain ⟨hE, hB⟩ := hB
    rcases hE with ⟨rfl, hk⟩ | ⟨rfl, hk⟩
    · refine vx_catch (own := "ListForgeLaw") (name := "java/lang/IllegalArgumentException") hown [] ⟨0, 9, 12, 13⟩ [⟨0, 9, 16, 23⟩] (hTb.trans rfl) (fun z hz => absurd hz List.not_mem_nil) rfl (by decide) (bg hts mw_197) (va_Nw.use (NB_ot _ (List.mem_of_getElem? (i := 0) rfl)) (hZ.1 _ (List.mem_of_getElem? (i := 0) rfl))) hce hcv hcl ?_
      refine W.eq (g2 := F0 m 12 ls [.ref q9]) rfl ?_
      refine lv_astore (lv' := [(4, .ref q9), (0, .ref (ad 0)), (1, .int (x)), (2, .int (a)), (3, .ref qo)]) hx hb d_W_score_12 hl (by decide) rfl (fun ls hl => ?_)
      refine lv_iconst (v := 1) hx hb d_W_score_14 (by decide) ?_
      exact W.iret (v := 1) hx hb hr (fun t9 e9 hW => ⟨⟨1, (t, f), rfl, ⟨1, (scoreR t x a).2.1, rfl, by decide, Prod.ext hk (Prod.ext rfl (score_t t x a (by rw [hk]; decide))), fun h => absurd h (by decide)⟩, ⟨by rw [e9, ← ht]; exact hB.1, va_K.moved hW.alike hK, hB.2.2⟩, by rw [e9]; exact hPo1⟩, hS.F e9⟩) hS.2.2 d_W_score_15
    · refine vx_catch (own := "ListForgeLaw") (name := "java/util/NoSuchElementException") hown [⟨0, 9, 12, 13⟩] ⟨0, 9, 16, 23⟩ [] (hTb.trans rfl) (List.forall_mem_cons.mpr ⟨Or.inr ⟨by decide, _, bg hts mw_197, hNc ("java/util/NoSuchElementException", "java/lang/IllegalArgumentException") (by decide +kernel)⟩, fun z hz => absurd hz List.not_mem_nil⟩) rfl (by decide) (bg hts mw_326) (va_Nw.use (NB_ot _ (List.mem_of_getElem? (i := 3) rfl)) (hZ.1 _ (List.mem_of_getElem? (i := 3) rfl))) hce hcv hcl ?_
      refine W.eq (g2 := F0 m 16 ls [.ref q9]) rfl ?_
      refine lv_astore (lv' := [(4, .ref q9), (0, .ref (ad 0)), (1, .int (x)), (2, .int (a)), (3, .ref qo)]) hx hb d_W_score_16 hl (by decide) rfl (fun ls hl => ?_)
      refine lv_iconst (v := 2) hx hb d_W_score_18 (by decide) ?_
      exact W.iret (v := 2) hx hb hr (fun t9 e9 hW => ⟨⟨2, (t, f), rfl, ⟨2, (scoreR t x a).2.1, rfl, by decide, Prod.ext hk (Prod.ext rfl (score_t t x a (by rw [hk]; decide))), fun h => absurd h (by decide)⟩, ⟨by rw [e9, ← ht]; exact hB.1, va_K.moved hW.alike hK, hB.2.2⟩, by rw [e9]; exact hPo1⟩, hS.F e9⟩) hS.2.2 d_W_score_19
  · have hPo1 := o_kept hPo rfl hne hk1
    have hP1 : va_P D cls (cw ad ka t2) H1 := ht ▸ hB.1
    obtain ⟨hPj, hDj⟩ := oj hP1 hB.2.2 hPo1 hne
    have hKj := hK.app hKo
    refine va_dast (D := D) hx hb hKj hPj hDj hS (cw ad ka t2).length 5 (la_at _ _) rfl (by unfold vp_in; decide) d_W_score_8 (fun H locs hP hD hS => ?_)
    rw [la_set] at hP hD
    refine lv_goto (tgt := 20) hx hb d_W_score_9 (by decide) ?_
    refine lv_iconst (v := 0) hx hb d_W_score_20 (by decide) ?_
    exact W.iret (v := 0) hx hb hr (fun t9 e9 hW => ⟨⟨0, (t2, vf_upd f 0 r), rfl, ⟨0, r, rfl, by decide, hw, fun _ => rfl⟩, ⟨by rw [e9]; exact va_Pl hP, va_K.moved hW.alike hK, va_Dl hD⟩, by rw [e9]; exact va_Pr hP⟩, hS.F e9⟩) hS.2.2 d_W_score_21
theorem sent_t (t : Mem) (k : Int32) (w : Int32) (h9 : ¬ (sentR t k w).1 = 0) : (sentR t k w).2.2 = t := by
  revert h9
  unfold sentR
  repeat' split
  all_goals first | (intro h; exact absurd rfl h) | (intro _; rfl)
set_option maxHeartbeats 4000000 in
set_option maxRecDepth 100000 in
theorem c_W_sent (l : Launch) (hl0 : l.stackTraces = false) (D : va_G) (ad : Nat → Nat) (ka : Nat → ClassId) (sa : Nat → Nat) (sz : Nat) (t : Mem) (ho : OKX t) (k : Int32) (w : Int32) (qo : Nat) (kl : ClassId) (f : Nat → Int64) : Met l y_W_sent (Cond.codeWith y_W_sent b_W_sent 5 (some .int) [(0, 10, 13, 13), (0, 10, 17, 70)] :: big) ({ frames := 8, cells := 2, slots := 12, locals := 124 }) (va_Pc [.ref (ad 0), .int (k), .int (w), .ref qo] (PH D ad ka sa sz t qo kl .long (oL f))) (va_Qi (fun (kr : Int32) (zz : Mem × (Nat → Int64)) => ∃ (n : Nat) (r : Int32), kr = nI n ∧ n < 4 ∧ sentR t k w = (n, r, zz.1) ∧ (n = 0 → zz.2 0 = r.toInt64)) (fun (zz : Mem × (Nat → Int64)) (U : State) => BH D ad ka sz qo kl zz.1 (oL zz.2) U) (AO ad qo sz)) 2 12 (AO ad qo sz) := by
  refine met_ofWH (cc := b_W_sent) (maxL := 5) (ret := some .int) (hh := [(0, 10, 13, 13), (0, 10, 17, 70)]) (by decide) rfl ?_
  intro p e s m args below meth c s₁ B hml hv
  obtain ⟨rfl, ⟨⟨hsz, hP, hK, hD0⟩, hZ⟩, ⟨hPo, hKo⟩, hne, hNc⟩ := hv
  have hx := B.exec
  have hb := B.bytes
  have hr := B.returns
  have hlocks := B.notSynchronized
  have hts := atoms_spec (ws := Cond.codeWith y_W_sent b_W_sent 5 (some .int) [(0, 10, 13, 13), (0, 10, 17, 70)] :: big) B.pre
  have hown : s.vm.findClass "ListForgeLaw" = some m.cls := findClass_of_methodNamed B.named
  have hTb := vx_table (x := y_W_sent) B (hts _ List.mem_cons_self)
  subst hsz
  have hD : va_D (AX ad s.heap.size) (cw ad ka t) := AX_D hD0
  have hS : va_S (AO ad qo s.heap.size) s.heap s.heap [] := va_S.rf
  have hl := lv_entry ([.ref (ad 0), .int (k), .int (w), .ref qo]) (n := 5) (Nat.le_of_ble_eq_true rfl)
  rw [lg_entry_eq]
  generalize (lg_sl ([.ref (ad 0), .int (k), .int (w), .ref qo]) ++ List.replicate (5 - (lg_sl ([.ref (ad 0), .int (k), .int (w), .ref qo])).length) Slot.unset).toArray = ls at hl ⊢
  have hl : lv_has ls 5 [(0, .ref (ad 0)), (1, .int (k)), (2, .int (w)), (3, .ref qo)] := hl
  refine lv_aload_n hx hb d_W_sent_0 rfl (lv_at hl 3 rfl) ?_
  refine lv_iconst (v := 0) hx hb d_W_sent_1 (by decide) ?_
  refine lv_aload_n hx hb d_W_sent_2 rfl (lv_at hl 0 rfl) ?_
  refine lv_iload_n hx hb d_W_sent_3 rfl (lv_at hl 1 rfl) ?_
  refine lv_iload_n hx hb d_W_sent_4 rfl (lv_at hl 2 rfl) ?_
  refine vx_calli (vx_runV (As := [.int (k), .int (w)]) (rest := [.int 0, .ref qo]) ⟨hx, hb, hml, hown, hts⟩ (c_F_sent l hl0 D ad ka sa s.heap.size t ho k w) (cwV 2 hts (gv mw_545 mw_546 mw_547 mw_1 mw_548) rfl rfl rfl (by decide +kernel) ⟨Nat.le_of_ble_eq_true rfl, Nat.le_of_ble_eq_true rfl⟩) ⟨PZ_blind, va_recv hK hP (ci := 4) (q0 := 0) rfl at_F, fun U hU hW => ⟨rfl, PX_at hU hW hP hK hD, ZX_at hU hW hZ va_S.rf⟩⟩ rfl rfl hl.1 rfl (lv_room (Nat.le_of_ble_eq_true rfl)) d_W_sent_5 ⟨Nat.le_of_ble_eq_true rfl, Nat.le_of_ble_eq_true rfl⟩) hS (fun q _ h => Or.inl h) (fun q h => Or.inl h) (fun q _ h => Or.inl h) (fun E ce q9 _ tq H1 locs ht hvm _ hB hz1 hk1 hS hce hcv hcl => ?_) (fun r t2 tq H1 locs ht hvm hw hB hz1 hk1 hS => ?_)
  · have hPo1 := o_kept hPo rfl hne hk1
    obtain ⟨hE, hB⟩ := hB
    rcases hE with ⟨rfl, hk⟩ | ⟨rfl, hk⟩
    · refine vx_catch (own := "ListForgeLaw") (name := "java/lang/IllegalArgumentException") hown [] ⟨0, 10, 13, 13⟩ [⟨0, 10, 17, 70⟩] (hTb.trans rfl) (fun z hz => absurd hz List.not_mem_nil) rfl (by decide) (bg hts mw_197) (va_Nw.use (NB_ot _ (List.mem_of_getElem? (i := 0) rfl)) (hZ.1 _ (List.mem_of_getElem? (i := 0) rfl))) hce hcv hcl ?_
      refine W.eq (g2 := F0 m 13 ls [.ref q9]) rfl ?_
      refine lv_astore (lv' := [(4, .ref q9), (0, .ref (ad 0)), (1, .int (k)), (2, .int (w)), (3, .ref qo)]) hx hb d_W_sent_13 hl (by decide) rfl (fun ls hl => ?_)
      refine lv_iconst (v := 1) hx hb d_W_sent_15 (by decide) ?_
      exact W.iret (v := 1) hx hb hr (fun t9 e9 hW => ⟨⟨1, (t, f), rfl, ⟨1, (sentR t k w).2.1, rfl, by decide, Prod.ext hk (Prod.ext rfl (sent_t t k w (by rw [hk]; decide))), fun h => absurd h (by decide)⟩, ⟨by rw [e9, ← ht]; exact hB.1, va_K.moved hW.alike hK, hB.2.2⟩, by rw [e9]; exact hPo1⟩, hS.F e9⟩) hS.2.2 d_W_sent_16
    · refine vx_catch (own := "ListForgeLaw") (name := "java/lang/IndexOutOfBoundsException") hown [⟨0, 10, 13, 13⟩] ⟨0, 10, 17, 70⟩ [] (hTb.trans rfl) (List.forall_mem_cons.mpr ⟨Or.inr ⟨by decide, _, bg hts mw_197, hNc ("java/lang/IndexOutOfBoundsException", "java/lang/IllegalArgumentException") (by decide +kernel)⟩, fun z hz => absurd hz List.not_mem_nil⟩) rfl (by decide) (bg hts mw_544) (va_Nw.use (NB_ot _ (List.mem_of_getElem? (i := 4) rfl)) (hZ.1 _ (List.mem_of_getElem? (i := 4) rfl))) hce hcv hcl ?_
      refine W.eq (g2 := F0 m 17 ls [.ref q9]) rfl ?_
      refine lv_astore (lv' := [(4, .ref q9), (0, .ref (ad 0)), (1, .int (k)), (2, .int (w)), (3, .ref qo)]) hx hb d_W_sent_17 hl (by decide) rfl (fun ls hl => ?_)
      refine lv_iconst (v := 2) hx hb d_W_sent_19 (by decide) ?_
      exact W.iret (v := 2) hx hb hr (fun t9 e9 hW => ⟨⟨2, (t, f), rfl, ⟨2, (sentR t k w).2.1, rfl, by decide, Prod.ext hk (Prod.ext rfl (sent_t t k w (by rw [hk]; decide))), fun h => absurd h (by decide)⟩, ⟨by rw [e9, ← ht]; exact hB.1, va_K.moved hW.alike hK, hB.2.2⟩, by rw [e9]; exact hPo1⟩, hS.F e9⟩) hS.2.2 d_W_sent_20
  · have hPo1 := o_kept hPo rfl hne hk1
    have hP1 : va_P D cls (cw ad ka t2) H1 := ht ▸ hB.1
    obtain ⟨hPj, hDj⟩ := oj hP1 hB.2.2 hPo1 hne
    have hKj := hK.app hKo
    refine lv_i2l hx hb d_W_sent_8 rfl ?_
    refine va_last (D := D) hx hb hKj hPj hDj hS (cw ad ka t2).length 5 (la_at _ _) rfl (by unfold vp_in; decide) d_W_sent_9 (fun H locs hP hD hS => ?_)
    rw [la_set] at hP hD
    refine lv_goto (tgt := 21) hx hb d_W_sent_10 (by decide) ?_
    refine lv_iconst (v := 0) hx hb d_W_sent_21 (by decide) ?_
    exact W.iret (v := 0) hx hb hr (fun t9 e9 hW => ⟨⟨0, (t2, vp_updL f 0 (r.toInt64)), rfl, ⟨0, r, rfl, by decide, hw, fun _ => rfl⟩, ⟨by rw [e9]; exact va_Pl hP, va_K.moved hW.alike hK, va_Dl hD⟩, by rw [e9]; exact va_Pr hP⟩, hS.F e9⟩) hS.2.2 d_W_sent_22
theorem count_t (t : Mem) (w : Int32) (h9 : ¬ (countR t w).1 = 0) : (countR t w).2.2 = t := by
  revert h9
  unfold countR
  repeat' split
  all_goals first | (intro h; exact absurd rfl h) | (intro _; rfl)
set_option maxHeartbeats 4000000 in
set_option maxRecDepth 100000 in
theorem c_W_count (l : Launch) (hl0 : l.stackTraces = false) (D : va_G) (ad : Nat → Nat) (ka : Nat → ClassId) (sa : Nat → Nat) (sz : Nat) (t : Mem) (ho : OKX t) (w : Int32) (qo : Nat) (kl : ClassId) (f : Nat → Int64) : Met l y_W_count (Cond.codeWith y_W_count b_W_count 4 (some .int) [(0, 9, 12, 13)] :: big) ({ frames := 8, cells := 1, slots := 6, locals := 123 }) (va_Pc [.ref (ad 0), .int (w), .ref qo] (PH D ad ka sa sz t qo kl .long (oL f))) (va_Qi (fun (kr : Int32) (zz : Mem × (Nat → Int64)) => ∃ (n : Nat) (r : Int32), kr = nI n ∧ n < 4 ∧ countR t w = (n, r, zz.1) ∧ (n = 0 → zz.2 0 = r.toInt64)) (fun (zz : Mem × (Nat → Int64)) (U : State) => BH D ad ka sz qo kl zz.1 (oL zz.2) U) (AO ad qo sz)) 1 6 (AO ad qo sz) := by
  refine met_ofWH (cc := b_W_count) (maxL := 4) (ret := some .int) (hh := [(0, 9, 12, 13)]) (by decide) rfl ?_
  intro p e s m args below meth c s₁ B hml hv
  obtain ⟨rfl, ⟨⟨hsz, hP, hK, hD0⟩, hZ⟩, ⟨hPo, hKo⟩, hne, hNc⟩ := hv
  have hx := B.exec
  have hb := B.bytes
  have hr := B.returns
  have hlocks := B.notSynchronized
  have hts := atoms_spec (ws := Cond.codeWith y_W_count b_W_count 4 (some .int) [(0, 9, 12, 13)] :: big) B.pre
  have hown : s.vm.findClass "ListForgeLaw" = some m.cls := findClass_of_methodNamed B.named
  have hTb := vx_table (x := y_W_count) B (hts _ List.mem_cons_self)
  subst hsz
  have hD : va_D (AX ad s.heap.size) (cw ad ka t) := AX_D hD0
  have hS : va_S (AO ad qo s.heap.size) s.heap s.heap [] := va_S.rf
  have hl := lv_entry ([.ref (ad 0), .int (w), .ref qo]) (n := 4) (Nat.le_of_ble_eq_true rfl)
  rw [lg_entry_eq]
  generalize (lg_sl ([.ref (ad 0), .int (w), .ref qo]) ++ List.replicate (4 - (lg_sl ([.ref (ad 0), .int (w), .ref qo])).length) Slot.unset).toArray = ls at hl ⊢
  have hl : lv_has ls 4 [(0, .ref (ad 0)), (1, .int (w)), (2, .ref qo)] := hl
  refine lv_aload_n hx hb d_W_count_0 rfl (lv_at hl 2 rfl) ?_
  refine lv_iconst (v := 0) hx hb d_W_count_1 (by decide) ?_
  refine lv_aload_n hx hb d_W_count_2 rfl (lv_at hl 0 rfl) ?_
  refine lv_iload_n hx hb d_W_count_3 rfl (lv_at hl 1 rfl) ?_
  refine vx_calli (vx_runV (As := [.int (w)]) (rest := [.int 0, .ref qo]) ⟨hx, hb, hml, hown, hts⟩ (c_F_count l hl0 D ad ka sa s.heap.size t ho w) (cwV 1 hts (gv mw_568 mw_569 mw_570 mw_1 mw_571) rfl rfl rfl (by decide +kernel) ⟨Nat.le_of_ble_eq_true rfl, Nat.le_of_ble_eq_true rfl⟩) ⟨PZ_blind, va_recv hK hP (ci := 4) (q0 := 0) rfl at_F, fun U hU hW => ⟨rfl, PX_at hU hW hP hK hD, ZX_at hU hW hZ va_S.rf⟩⟩ rfl rfl hl.1 rfl (lv_room (Nat.le_of_ble_eq_true rfl)) d_W_count_4 ⟨Nat.le_of_ble_eq_true rfl, Nat.le_of_ble_eq_true rfl⟩) hS (fun q _ h => Or.inl h) (fun q h => Or.inl h) (fun q _ h => Or.inl h) (fun E ce q9 _ tq H1 locs ht hvm _ hB hz1 hk1 hS hce hcv hcl => ?_) (fun r t2 tq H1 locs ht hvm hw hB hz1 hk1 hS => ?_)
  · have hPo1 := o_kept hPo rfl hne hk1
    obtain ⟨hE, hB⟩ := hB
    obtain ⟨rfl, hk⟩ := hE
    refine vx_catch (own := "ListForgeLaw") (name := "java/lang/IllegalArgumentException") hown [] ⟨0, 9, 12, 13⟩ [] (hTb.trans rfl) (fun z hz => absurd hz List.not_mem_nil) rfl (by decide) (bg hts mw_197) (va_Nw.use (NB_ot _ (List.mem_of_getElem? (i := 0) rfl)) (hZ.1 _ (List.mem_of_getElem? (i := 0) rfl))) hce hcv hcl ?_
    refine W.eq (g2 := F0 m 12 ls [.ref q9]) rfl ?_
    refine lv_astore_n (lv' := [(3, .ref q9), (0, .ref (ad 0)), (1, .int (w)), (2, .ref qo)]) hx hb d_W_count_12 rfl hl (by decide) rfl (fun ls hl => ?_)
    refine lv_iconst (v := 1) hx hb d_W_count_13 (by decide) ?_
    exact W.iret (v := 1) hx hb hr (fun t9 e9 hW => ⟨⟨1, (t, f), rfl, ⟨1, (countR t w).2.1, rfl, by decide, Prod.ext hk (Prod.ext rfl (count_t t w (by rw [hk]; decide))), fun h => absurd h (by decide)⟩, ⟨by rw [e9, ← ht]; exact hB.1, va_K.moved hW.alike hK, hB.2.2⟩, by rw [e9]; exact hPo1⟩, hS.F e9⟩) hS.2.2 d_W_count_14
  · have hPo1 := o_kept hPo rfl hne hk1
    have hP1 : va_P D cls (cw ad ka t2) H1 := ht ▸ hB.1
    obtain ⟨hPj, hDj⟩ := oj hP1 hB.2.2 hPo1 hne
    have hKj := hK.app hKo
    refine lv_i2l hx hb d_W_count_7 rfl ?_
    refine va_last (D := D) hx hb hKj hPj hDj hS (cw ad ka t2).length 5 (la_at _ _) rfl (by unfold vp_in; decide) d_W_count_8 (fun H locs hP hD hS => ?_)
    rw [la_set] at hP hD
    refine lv_goto (tgt := 15) hx hb d_W_count_9 (by decide) ?_
    refine lv_iconst (v := 0) hx hb d_W_count_15 (by decide) ?_
    exact W.iret (v := 0) hx hb hr (fun t9 e9 hW => ⟨⟨0, (t2, vp_updL f 0 (r.toInt64)), rfl, ⟨0, r, rfl, by decide, hw, fun _ => rfl⟩, ⟨by rw [e9]; exact va_Pl hP, va_K.moved hW.alike hK, va_Dl hD⟩, by rw [e9]; exact va_Pr hP⟩, hS.F e9⟩) hS.2.2 d_W_count_16
