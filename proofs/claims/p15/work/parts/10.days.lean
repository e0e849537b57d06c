set_option maxHeartbeats 4000000 in
set_option maxRecDepth 100000 in
theorem c_L_deliver (l : Launch) (D : va_G) (ad : Nat → Nat) (ka : Nat → ClassId) (sz : Nat) (t : Mem) (u : Nat) (hu : u < 3) (r : Nat) (hrp : r < 40) (ho : OKX t) (p0 d : Int32) : Met l y_L_deliver (Cond.code y_L_deliver b_L_deliver 7 none :: big) ({ frames := 2, cells := 0, slots := 0, locals := 46 }) (va_Pc [.ref (ad (8 + u)), .int (p0), .ref (ad (20 + r)), .int (d), .ref (ad (3))] (PX D ad ka sz t)) (va_Qv (fun t' : Mem => t' = L_deliver t u r p0 d) (BX D ad ka sz) (AX ad sz)) 0 0 (AX ad sz) := by
  refine Met.ofW (cc := b_L_deliver) (maxL := 7) (ret := none) (by decide) rfl ?_
  intro p e s m args below meth c s₁ B hml hv
  obtain ⟨rfl, hsz, hP, hK, hD0⟩ := hv
  have hx := B.exec
  have hb := B.bytes
  have hr := B.returns
  have hlocks := B.notSynchronized
  have hts := atoms_spec (ws := Cond.code y_L_deliver b_L_deliver 7 none :: big) B.pre
  have hown : s.vm.findClass "ListForge$MailingList" = some m.cls := findClass_of_methodNamed B.named
  subst hsz
  have hD : va_D (AX ad s.heap.size) (cw ad ka t) := AX_D hD0
  have hS : va_S (AX ad s.heap.size) s.heap s.heap [] := va_S.rf
  have hl := lv_entry ([.ref (ad (8 + u)), .int (p0), .ref (ad (20 + r)), .int (d), .ref (ad (3))]) (n := 7) (Nat.le_of_ble_eq_true rfl)
  rw [lg_entry_eq]
  generalize (lg_sl ([.ref (ad (8 + u)), .int (p0), .ref (ad (20 + r)), .int (d), .ref (ad (3))]) ++ List.replicate (7 - (lg_sl ([.ref (ad (8 + u)), .int (p0), .ref (ad (20 + r)), .int (d), .ref (ad (3))])).length) Slot.unset).toArray = ls at hl ⊢
  have hl : lv_has ls 7 [(0, .ref (ad (8 + u))), (1, .int (p0)), (2, .ref (ad (20 + r))), (3, .int (d)), (4, .ref (ad (3)))] := hl

  refine lv_iconst (v := 0) hx hb d_L_deliver_0 (by decide) ?_
  refine lv_istore (lv' := [(5, .int (0)), (0, .ref (ad (8 + u))), (1, .int (p0)), (2, .ref (ad (20 + r))), (3, .int (d)), (4, .ref (ad (3)))]) hx hb d_L_deliver_1 hl (by decide) rfl (fun ls hl => ?_)
  refine lv_iconst (v := 0) hx hb d_L_deliver_3 (by decide) ?_
  refine lv_istore (lv' := [(6, .int (0)), (5, .int (0)), (0, .ref (ad (8 + u))), (1, .int (p0)), (2, .ref (ad (20 + r))), (3, .int (d)), (4, .ref (ad (3)))]) hx hb d_L_deliver_4 hl (by decide) rfl (fun ls hl => ?_)
  have hloop : ∀ (n a : Nat) (g : Int32) (t1 : Mem) (H : Heap) (locs : List Loc) (ls : Array Slot), a ≤ 12 → 12 + 1 ≤ a + n → OKX t1 → lp (delF u r p0) (12 - a) a (t1, g) = lp (delF u r p0) 12 0 (t, 0) → va_P D cls (cw ad ka t1) H → va_D (AX ad s.heap.size) (cw ad ka t1) → va_S (AX ad s.heap.size) s.heap H locs → lv_has ls 7 [(0, .ref (ad (8 + u))), (1, .int (p0)), (2, .ref (ad (20 + r))), (3, .int (d)), (4, .ref (ad (3))), (5, .int (g)), (6, .int (nI a))] → W p l e ({ frames := 2, cells := 0, slots := 0, locals := 46 }) s m ([.ref (ad (8 + u)), .int (p0), .ref (ad (20 + r)), .int (d), .ref (ad (3))] : List Value).toArray below meth c H locs 0 0 (MQ below (va_Qv (fun t' : Mem => t' = L_deliver t u r p0 d) (BX D ad ka s.heap.size) (AX ad s.heap.size)) ([.ref (ad (8 + u)), .int (p0), .ref (ad (20 + r)), .int (d), .ref (ad (3))] : List Value).toArray s 0 0 (AX ad s.heap.size)) (F0 m 6 ls []) := by
    intro n
    induction n with
    | zero => intro a g t1 H locs ls h1 h2; exact absurd h2 (by omega)
    | succ n ih =>
      intro a g t1 H locs ls ha hn ho hF hP hD hS hl
      refine lv_iload hx hb d_L_deliver_6 (lv_at hl 6 rfl) ?_
      refine lv_bipush (v := 12) hx hb d_L_deliver_8 (by decide) ?_
      refine lv_icmp_ge (tgt := 81) hx hb d_L_deliver_10 (by decide) (fun c1 => ?_) (fun c1 => ?_)
      · have _u : True := trivial
        obtain rfl := nI_eq_of (x := 12) (N := 12) (rfl) (by decide) ha c1
        have hE := lp_end hF
        refine lv_iload hx hb d_L_deliver_81 (lv_at hl 5 rfl) ?_
        refine lv_if_eq (tgt := 95) hx hb d_L_deliver_83 (by decide) (fun c2 => ?_) (fun c2 => ?_)
        · have _u : True := trivial
          refine lv_aload_n hx hb d_L_deliver_95 rfl (lv_at hl 0 rfl) ?_
          refine g_L_bundleSizes hx hb hts hown hK hP hu mw_89 d_L_deliver_96 ?_
          refine lv_aload_n hx hb d_L_deliver_99 rfl (lv_at hl 0 rfl) ?_
          refine g_L_full hx hb hts hown hK hP hu mw_84 d_L_deliver_100 ?_
          refine lv_icmp_lt (tgt := 112) hx hb d_L_deliver_103 (by decide) (fun c3 => ?_) (fun c3 => ?_)
          · have _u : True := trivial
            exact W.vret hx hb hr (fun t9 ht hW => ⟨⟨t1, rfl, (by unfold L_deliver; rw [← hE]; simp [delB, delC, c2, c3]), BX_at ht hW hP hK hD⟩, hS.F ht⟩) hS.2.2 d_L_deliver_112
          · have _u : True := trivial
            refine lv_aload_n hx hb d_L_deliver_106 rfl (lv_at hl 0 rfl) ?_
            refine lv_aload hx hb d_L_deliver_107 (lv_at hl 4 rfl) ?_
            have hA1 := hS.1
            refine va_callv (va_runV (As := [.ref (ad (3))]) (rest := []) ⟨hx, hb, hml, hown, hts⟩ (c_L_sendBundle l D ad ka H.size t1 u hu ho) (cwV 1 hts (gv mw_464 mw_465 mw_466 mw_2 mw_467) rfl rfl rfl (by decide +kernel) ⟨Nat.le_of_ble_eq_true rfl, Nat.le_of_ble_eq_true rfl⟩) ⟨PX_blind, va_recv hK hP (ci := 0) (q0 := 8 + u) rfl (at_L hu), fun U hU hW => ⟨rfl, PX_at hU hW hP hK hD⟩⟩ rfl rfl hl.1 rfl (lv_room (Nat.le_of_ble_eq_true rfl)) d_L_deliver_109 ⟨Nat.le_of_ble_eq_true rfl, Nat.le_of_ble_eq_true rfl⟩) hS (fun q _ h => AX_up hA1 q h) (AX_up hA1) (fun t6 tq H1 locs ht hvm hw5 hB hz1 hk1 hS => ?_)
            obtain ⟨hP, hD⟩ := BX_back ht hB (AX_up hA1)
            generalize H1 = H at hP hS ⊢
            rw [hw5] at hP hD
            exact W.vret hx hb hr (fun t9 ht hW => ⟨⟨(L_send t1 u), rfl, (by unfold L_deliver; rw [← hE]; simp [delB, delC, c2, c3]), BX_at ht hW hP hK hD⟩, hS.F ht⟩) hS.2.2 d_L_deliver_112
        · have _u : True := trivial
          refine lv_aload_n hx hb d_L_deliver_86 rfl (lv_at hl 0 rfl) ?_
          refine lv_aload_n hx hb d_L_deliver_87 rfl (lv_at hl 2 rfl) ?_
          refine g_P_size hx hb hts hown hK hP hrp mw_131 d_L_deliver_88 ?_
          refine lv_iload_n hx hb d_L_deliver_91 rfl (lv_at hl 3 rfl) ?_
          have hA1 := hS.1
          refine va_callv (va_runV (As := [.int (gI t1 22 r), .int (d)]) (rest := []) ⟨hx, hb, hml, hown, hts⟩ (c_L_addToBundle l D ad ka H.size t1 u hu (gI t1 22 r) d) (cwV 2 hts (gv mw_460 mw_461 mw_462 mw_2 mw_463) rfl rfl rfl (by decide +kernel) ⟨Nat.le_of_ble_eq_true rfl, Nat.le_of_ble_eq_true rfl⟩) ⟨PX_blind, va_recv hK hP (ci := 0) (q0 := 8 + u) rfl (at_L hu), fun U hU hW => ⟨rfl, PX_at hU hW hP hK hD⟩⟩ rfl rfl hl.1 rfl (lv_room (Nat.le_of_ble_eq_true rfl)) d_L_deliver_92 ⟨Nat.le_of_ble_eq_true rfl, Nat.le_of_ble_eq_true rfl⟩) hS (fun q _ h => AX_up hA1 q h) (AX_up hA1) (fun t9 tq H1 locs ht hvm hw8 hB hz1 hk1 hS => ?_)
          obtain ⟨hP, hD⟩ := BX_back ht hB (AX_up hA1)
          generalize H1 = H at hP hS ⊢
          rw [hw8] at hP hD
          refine lv_aload_n hx hb d_L_deliver_95 rfl (lv_at hl 0 rfl) ?_
          refine g_L_bundleSizes hx hb hts hown hK hP hu mw_89 d_L_deliver_96 ?_
          refine lv_aload_n hx hb d_L_deliver_99 rfl (lv_at hl 0 rfl) ?_
          refine g_L_full hx hb hts hown hK hP hu mw_84 d_L_deliver_100 ?_
          refine lv_icmp_lt (tgt := 112) hx hb d_L_deliver_103 (by decide) (fun c10 => ?_) (fun c10 => ?_)
          · have _u : True := trivial
            exact W.vret hx hb hr (fun t9 ht hW => ⟨⟨(L_addB t1 u (gI t1 22 r) d), rfl, (by unfold L_deliver; rw [← hE]; simp [delB, delC, c2, c10]), BX_at ht hW hP hK hD⟩, hS.F ht⟩) hS.2.2 d_L_deliver_112
          · have _u : True := trivial
            refine lv_aload_n hx hb d_L_deliver_106 rfl (lv_at hl 0 rfl) ?_
            refine lv_aload hx hb d_L_deliver_107 (lv_at hl 4 rfl) ?_
            have hA1 := hS.1
            refine va_callv (va_runV (As := [.ref (ad (3))]) (rest := []) ⟨hx, hb, hml, hown, hts⟩ (c_L_sendBundle l D ad ka H.size (L_addB t1 u (gI t1 22 r) d) u hu (OKX_addB ho)) (cwV 1 hts (gv mw_464 mw_465 mw_466 mw_2 mw_467) rfl rfl rfl (by decide +kernel) ⟨Nat.le_of_ble_eq_true rfl, Nat.le_of_ble_eq_true rfl⟩) ⟨PX_blind, va_recv hK hP (ci := 0) (q0 := 8 + u) rfl (at_L hu), fun U hU hW => ⟨rfl, PX_at hU hW hP hK hD⟩⟩ rfl rfl hl.1 rfl (lv_room (Nat.le_of_ble_eq_true rfl)) d_L_deliver_109 ⟨Nat.le_of_ble_eq_true rfl, Nat.le_of_ble_eq_true rfl⟩) hS (fun q _ h => AX_up hA1 q h) (AX_up hA1) (fun t13 tq H1 locs ht hvm hw12 hB hz1 hk1 hS => ?_)
            obtain ⟨hP, hD⟩ := BX_back ht hB (AX_up hA1)
            generalize H1 = H at hP hS ⊢
            rw [hw12] at hP hD
            exact W.vret hx hb hr (fun t9 ht hW => ⟨⟨(L_send (L_addB t1 u (gI t1 22 r) d) u), rfl, (by unfold L_deliver; rw [← hE]; simp [delB, delC, c2, c10]), BX_at ht hW hP hK hD⟩, hS.F ht⟩) hS.2.2 d_L_deliver_112
      · have _u : True := trivial
        have hlt : a < 12 := nI_lt_of (x := 12) (N := 12) (rfl) ha c1
        refine lv_aload_n hx hb d_L_deliver_13 rfl (lv_at hl 0 rfl) ?_
        refine g_L_subscriptions hx hb hts hown hK hP hu mw_76 d_L_deliver_14 ?_
        refine lv_iload hx hb d_L_deliver_17 (lv_at hl 6 rfl) ?_
        refine a_subs hx hb hK hP hu (r := a) hlt rfl d_L_deliver_19 ?_
        refine lv_iconst (v := 0) hx hb d_L_deliver_20 (by decide) ?_
        have hA1 := hS.1
        refine va_calli (va_runV (As := [.int (0)]) (rest := []) ⟨hx, hb, hml, hown, hts⟩ (c_S_takes l D ad ka H.size t1 (12 * u + a) (by omega) 0) (cwV 1 hts (gv mw_456 mw_457 mw_458 mw_3 mw_459) rfl rfl rfl (by decide +kernel) ⟨Nat.le_of_ble_eq_true rfl, Nat.le_of_ble_eq_true rfl⟩) ⟨PX_blind, va_recv hK hP (ci := 3) (q0 := 60 + (12 * u + a)) rfl (at_S (by omega)), fun U hU hW => ⟨rfl, PX_at hU hW hP hK hD⟩⟩ rfl rfl hl.1 rfl (lv_room (Nat.le_of_ble_eq_true rfl)) d_L_deliver_21 ⟨Nat.le_of_ble_eq_true rfl, Nat.le_of_ble_eq_true rfl⟩) hS (fun q _ h => AX_up hA1 q h) (AX_up hA1) (fun r14 t16 tq H1 locs ht hvm hw15 hB hz1 hk1 hS => ?_)
        obtain ⟨hP, hD⟩ := BX_back ht hB (AX_up hA1)
        generalize H1 = H at hP hS ⊢
        obtain ⟨hwr, hwt⟩ := hw15
        rw [hwt] at hP hD
        rw [hwr]
        refine lv_if_eq (tgt := 49) hx hb d_L_deliver_24 (by decide) (fun c17 => ?_) (fun c17 => ?_)
        · have _u : True := trivial
          refine lv_iload hx hb d_L_deliver_49 (lv_at hl 5 rfl) ?_
          refine lv_if_ne (tgt := 68) hx hb d_L_deliver_51 (by decide) (fun c18 => ?_) (fun c18 => ?_)
          · have _u : True := trivial
            refine lv_iconst (v := 1) hx hb d_L_deliver_68 (by decide) ?_
            refine lv_goto (tgt := 73) hx hb d_L_deliver_69 (by decide) ?_
            refine lv_istore (lv' := [(5, .int (1)), (0, .ref (ad (8 + u))), (1, .int (p0)), (2, .ref (ad (20 + r))), (3, .int (d)), (4, .ref (ad (3))), (6, .int (nI a))]) hx hb d_L_deliver_73 hl (by decide) rfl (fun ls hl => ?_)
            refine lv_iinc (v := nI (a + 1)) (lv' := [(6, .int (nI (a + 1))), (5, .int (1)), (0, .ref (ad (8 + u))), (1, .int (p0)), (2, .ref (ad (20 + r))), (3, .int (d)), (4, .ref (ad (3)))]) hx hb d_L_deliver_75 hl (k := 6) rfl (nI_1 _) (by decide) rfl (fun ls hl => ?_)
            refine lv_goto (tgt := 6) hx hb d_L_deliver_78 (by decide) ?_
            exact ih (a + 1) 1 t1 H _ ls (by omega) (by omega) ho (lp_next hlt hF (by simp [delF, delA, c1, c17, c18])) hP hD hS (lv_sub hl [2, 3, 4, 5, 6, 1, 0] rfl)
          · have _u : True := trivial
            refine lv_aload_n hx hb d_L_deliver_54 rfl (lv_at hl 0 rfl) ?_
            refine g_L_subscriptions hx hb hts hown hK hP hu mw_76 d_L_deliver_55 ?_
            refine lv_iload hx hb d_L_deliver_58 (lv_at hl 6 rfl) ?_
            refine a_subs hx hb hK hP hu (r := a) hlt rfl d_L_deliver_60 ?_
            refine lv_iconst (v := 1) hx hb d_L_deliver_61 (by decide) ?_
            have hA1 := hS.1
            refine va_calli (va_runV (As := [.int (1)]) (rest := []) ⟨hx, hb, hml, hown, hts⟩ (c_S_takes l D ad ka H.size t1 (12 * u + a) (by omega) 1) (cwV 1 hts (gv mw_456 mw_457 mw_458 mw_3 mw_459) rfl rfl rfl (by decide +kernel) ⟨Nat.le_of_ble_eq_true rfl, Nat.le_of_ble_eq_true rfl⟩) ⟨PX_blind, va_recv hK hP (ci := 3) (q0 := 60 + (12 * u + a)) rfl (at_S (by omega)), fun U hU hW => ⟨rfl, PX_at hU hW hP hK hD⟩⟩ rfl rfl hl.1 rfl (lv_room (Nat.le_of_ble_eq_true rfl)) d_L_deliver_62 ⟨Nat.le_of_ble_eq_true rfl, Nat.le_of_ble_eq_true rfl⟩) hS (fun q _ h => AX_up hA1 q h) (AX_up hA1) (fun r19 t21 tq H1 locs ht hvm hw20 hB hz1 hk1 hS => ?_)
            obtain ⟨hP, hD⟩ := BX_back ht hB (AX_up hA1)
            generalize H1 = H at hP hS ⊢
            obtain ⟨hwr, hwt⟩ := hw20
            rw [hwt] at hP hD
            rw [hwr]
            refine lv_if_eq (tgt := 72) hx hb d_L_deliver_65 (by decide) (fun c22 => ?_) (fun c22 => ?_)
            · have _u : True := trivial
              refine lv_iconst (v := 0) hx hb d_L_deliver_72 (by decide) ?_
              refine lv_istore (lv' := [(5, .int (0)), (0, .ref (ad (8 + u))), (1, .int (p0)), (2, .ref (ad (20 + r))), (3, .int (d)), (4, .ref (ad (3))), (6, .int (nI a))]) hx hb d_L_deliver_73 hl (by decide) rfl (fun ls hl => ?_)
              refine lv_iinc (v := nI (a + 1)) (lv' := [(6, .int (nI (a + 1))), (5, .int (0)), (0, .ref (ad (8 + u))), (1, .int (p0)), (2, .ref (ad (20 + r))), (3, .int (d)), (4, .ref (ad (3)))]) hx hb d_L_deliver_75 hl (k := 6) rfl (nI_1 _) (by decide) rfl (fun ls hl => ?_)
              refine lv_goto (tgt := 6) hx hb d_L_deliver_78 (by decide) ?_
              exact ih (a + 1) 0 t1 H _ ls (by omega) (by omega) ho (lp_next hlt hF (by simp [delF, delA, c1, c17, c18, c22])) hP hD hS (lv_sub hl [2, 3, 4, 5, 6, 1, 0] rfl)
            · have _u : True := trivial
              refine lv_iconst (v := 1) hx hb d_L_deliver_68 (by decide) ?_
              refine lv_goto (tgt := 73) hx hb d_L_deliver_69 (by decide) ?_
              refine lv_istore (lv' := [(5, .int (1)), (0, .ref (ad (8 + u))), (1, .int (p0)), (2, .ref (ad (20 + r))), (3, .int (d)), (4, .ref (ad (3))), (6, .int (nI a))]) hx hb d_L_deliver_73 hl (by decide) rfl (fun ls hl => ?_)
              refine lv_iinc (v := nI (a + 1)) (lv' := [(6, .int (nI (a + 1))), (5, .int (1)), (0, .ref (ad (8 + u))), (1, .int (p0)), (2, .ref (ad (20 + r))), (3, .int (d)), (4, .ref (ad (3)))]) hx hb d_L_deliver_75 hl (k := 6) rfl (nI_1 _) (by decide) rfl (fun ls hl => ?_)
              refine lv_goto (tgt := 6) hx hb d_L_deliver_78 (by decide) ?_
              exact ih (a + 1) 1 t1 H _ ls (by omega) (by omega) ho (lp_next hlt hF (by simp [delF, delA, c1, c17, c18, c22])) hP hD hS (lv_sub hl [2, 3, 4, 5, 6, 1, 0] rfl)
        · have _u : True := trivial
          refine lv_iload hx hb d_L_deliver_27 (lv_at hl 6 rfl) ?_
          refine lv_aload_n hx hb d_L_deliver_29 rfl (lv_at hl 2 rfl) ?_
          refine g_P_sender hx hb hts hown hK hP hrp mw_129 d_L_deliver_30 ?_
          refine lv_icmp_eq (tgt := 49) hx hb d_L_deliver_33 (by decide) (fun c23 => ?_) (fun c23 => ?_)
          · have _u : True := trivial
            refine lv_iload hx hb d_L_deliver_49 (lv_at hl 5 rfl) ?_
            refine lv_if_ne (tgt := 68) hx hb d_L_deliver_51 (by decide) (fun c24 => ?_) (fun c24 => ?_)
            · have _u : True := trivial
              refine lv_iconst (v := 1) hx hb d_L_deliver_68 (by decide) ?_
              refine lv_goto (tgt := 73) hx hb d_L_deliver_69 (by decide) ?_
              refine lv_istore (lv' := [(5, .int (1)), (0, .ref (ad (8 + u))), (1, .int (p0)), (2, .ref (ad (20 + r))), (3, .int (d)), (4, .ref (ad (3))), (6, .int (nI a))]) hx hb d_L_deliver_73 hl (by decide) rfl (fun ls hl => ?_)
              refine lv_iinc (v := nI (a + 1)) (lv' := [(6, .int (nI (a + 1))), (5, .int (1)), (0, .ref (ad (8 + u))), (1, .int (p0)), (2, .ref (ad (20 + r))), (3, .int (d)), (4, .ref (ad (3)))]) hx hb d_L_deliver_75 hl (k := 6) rfl (nI_1 _) (by decide) rfl (fun ls hl => ?_)
              refine lv_goto (tgt := 6) hx hb d_L_deliver_78 (by decide) ?_
              exact ih (a + 1) 1 t1 H _ ls (by omega) (by omega) ho (lp_next hlt hF (by simp [delF, delA, c1, c17, c23, c24])) hP hD hS (lv_sub hl [2, 3, 4, 5, 6, 1, 0] rfl)
            · have _u : True := trivial
              refine lv_aload_n hx hb d_L_deliver_54 rfl (lv_at hl 0 rfl) ?_
              refine g_L_subscriptions hx hb hts hown hK hP hu mw_76 d_L_deliver_55 ?_
              refine lv_iload hx hb d_L_deliver_58 (lv_at hl 6 rfl) ?_
              refine a_subs hx hb hK hP hu (r := a) hlt rfl d_L_deliver_60 ?_
              refine lv_iconst (v := 1) hx hb d_L_deliver_61 (by decide) ?_
              have hA1 := hS.1
              refine va_calli (va_runV (As := [.int (1)]) (rest := []) ⟨hx, hb, hml, hown, hts⟩ (c_S_takes l D ad ka H.size t1 (12 * u + a) (by omega) 1) (cwV 1 hts (gv mw_456 mw_457 mw_458 mw_3 mw_459) rfl rfl rfl (by decide +kernel) ⟨Nat.le_of_ble_eq_true rfl, Nat.le_of_ble_eq_true rfl⟩) ⟨PX_blind, va_recv hK hP (ci := 3) (q0 := 60 + (12 * u + a)) rfl (at_S (by omega)), fun U hU hW => ⟨rfl, PX_at hU hW hP hK hD⟩⟩ rfl rfl hl.1 rfl (lv_room (Nat.le_of_ble_eq_true rfl)) d_L_deliver_62 ⟨Nat.le_of_ble_eq_true rfl, Nat.le_of_ble_eq_true rfl⟩) hS (fun q _ h => AX_up hA1 q h) (AX_up hA1) (fun r25 t27 tq H1 locs ht hvm hw26 hB hz1 hk1 hS => ?_)
              obtain ⟨hP, hD⟩ := BX_back ht hB (AX_up hA1)
              generalize H1 = H at hP hS ⊢
              obtain ⟨hwr, hwt⟩ := hw26
              rw [hwt] at hP hD
              rw [hwr]
              refine lv_if_eq (tgt := 72) hx hb d_L_deliver_65 (by decide) (fun c28 => ?_) (fun c28 => ?_)
              · have _u : True := trivial
                refine lv_iconst (v := 0) hx hb d_L_deliver_72 (by decide) ?_
                refine lv_istore (lv' := [(5, .int (0)), (0, .ref (ad (8 + u))), (1, .int (p0)), (2, .ref (ad (20 + r))), (3, .int (d)), (4, .ref (ad (3))), (6, .int (nI a))]) hx hb d_L_deliver_73 hl (by decide) rfl (fun ls hl => ?_)
                refine lv_iinc (v := nI (a + 1)) (lv' := [(6, .int (nI (a + 1))), (5, .int (0)), (0, .ref (ad (8 + u))), (1, .int (p0)), (2, .ref (ad (20 + r))), (3, .int (d)), (4, .ref (ad (3)))]) hx hb d_L_deliver_75 hl (k := 6) rfl (nI_1 _) (by decide) rfl (fun ls hl => ?_)
                refine lv_goto (tgt := 6) hx hb d_L_deliver_78 (by decide) ?_
                exact ih (a + 1) 0 t1 H _ ls (by omega) (by omega) ho (lp_next hlt hF (by simp [delF, delA, c1, c17, c23, c24, c28])) hP hD hS (lv_sub hl [2, 3, 4, 5, 6, 1, 0] rfl)
              · have _u : True := trivial
                refine lv_iconst (v := 1) hx hb d_L_deliver_68 (by decide) ?_
                refine lv_goto (tgt := 73) hx hb d_L_deliver_69 (by decide) ?_
                refine lv_istore (lv' := [(5, .int (1)), (0, .ref (ad (8 + u))), (1, .int (p0)), (2, .ref (ad (20 + r))), (3, .int (d)), (4, .ref (ad (3))), (6, .int (nI a))]) hx hb d_L_deliver_73 hl (by decide) rfl (fun ls hl => ?_)
                refine lv_iinc (v := nI (a + 1)) (lv' := [(6, .int (nI (a + 1))), (5, .int (1)), (0, .ref (ad (8 + u))), (1, .int (p0)), (2, .ref (ad (20 + r))), (3, .int (d)), (4, .ref (ad (3)))]) hx hb d_L_deliver_75 hl (k := 6) rfl (nI_1 _) (by decide) rfl (fun ls hl => ?_)
                refine lv_goto (tgt := 6) hx hb d_L_deliver_78 (by decide) ?_
                exact ih (a + 1) 1 t1 H _ ls (by omega) (by omega) ho (lp_next hlt hF (by simp [delF, delA, c1, c17, c23, c24, c28])) hP hD hS (lv_sub hl [2, 3, 4, 5, 6, 1, 0] rfl)
          · have _u : True := trivial
            refine lv_aload hx hb d_L_deliver_36 (lv_at hl 4 rfl) ?_
            refine lv_iload hx hb d_L_deliver_38 (lv_at hl 6 rfl) ?_
            refine lv_aload_n hx hb d_L_deliver_40 rfl (lv_at hl 0 rfl) ?_
            refine g_L_number hx hb hts hown hK hP hu mw_75 d_L_deliver_41 ?_
            refine lv_iconst (v := 0) hx hb d_L_deliver_44 (by decide) ?_
            refine lv_iload_n hx hb d_L_deliver_45 rfl (lv_at hl 1 rfl) ?_
            have hA1 := hS.1
            refine va_callv (va_runV (As := [.int (nI a), .int (nI u), .int (0), .int (p0)]) (rest := []) ⟨hx, hb, hml, hown, hts⟩ (c_O_add l D ad ka H.size t1 ho (nI a) (nI u) 0 p0) (cwV 4 hts (gv mw_447 mw_320 mw_321 mw_5 mw_322) rfl rfl rfl (by decide +kernel) ⟨Nat.le_of_ble_eq_true rfl, Nat.le_of_ble_eq_true rfl⟩) ⟨PX_blind, va_recv hK hP (ci := 1) (q0 := 3) rfl (at_O), fun U hU hW => ⟨rfl, PX_at hU hW hP hK hD⟩⟩ rfl rfl hl.1 rfl (lv_room (Nat.le_of_ble_eq_true rfl)) d_L_deliver_46 ⟨Nat.le_of_ble_eq_true rfl, Nat.le_of_ble_eq_true rfl⟩) hS (fun q _ h => AX_up hA1 q h) (AX_up hA1) (fun t31 tq H1 locs ht hvm hw30 hB hz1 hk1 hS => ?_)
            obtain ⟨hP, hD⟩ := BX_back ht hB (AX_up hA1)
            generalize H1 = H at hP hS ⊢
            rw [hw30] at hP hD
            refine lv_iload hx hb d_L_deliver_49 (lv_at hl 5 rfl) ?_
            refine lv_if_ne (tgt := 68) hx hb d_L_deliver_51 (by decide) (fun c32 => ?_) (fun c32 => ?_)
            · have _u : True := trivial
              refine lv_iconst (v := 1) hx hb d_L_deliver_68 (by decide) ?_
              refine lv_goto (tgt := 73) hx hb d_L_deliver_69 (by decide) ?_
              refine lv_istore (lv' := [(5, .int (1)), (0, .ref (ad (8 + u))), (1, .int (p0)), (2, .ref (ad (20 + r))), (3, .int (d)), (4, .ref (ad (3))), (6, .int (nI a))]) hx hb d_L_deliver_73 hl (by decide) rfl (fun ls hl => ?_)
              refine lv_iinc (v := nI (a + 1)) (lv' := [(6, .int (nI (a + 1))), (5, .int (1)), (0, .ref (ad (8 + u))), (1, .int (p0)), (2, .ref (ad (20 + r))), (3, .int (d)), (4, .ref (ad (3)))]) hx hb d_L_deliver_75 hl (k := 6) rfl (nI_1 _) (by decide) rfl (fun ls hl => ?_)
              refine lv_goto (tgt := 6) hx hb d_L_deliver_78 (by decide) ?_
              exact ih (a + 1) 1 (O_add t1 (nI a) (nI u) 0 p0) H _ ls (by omega) (by omega) (OKX_add ho) (lp_next hlt hF (by simp [delF, delA, c1, c17, c23, c32])) hP hD hS (lv_sub hl [2, 3, 4, 5, 6, 1, 0] rfl)
            · have _u : True := trivial
              refine lv_aload_n hx hb d_L_deliver_54 rfl (lv_at hl 0 rfl) ?_
              refine g_L_subscriptions hx hb hts hown hK hP hu mw_76 d_L_deliver_55 ?_
              refine lv_iload hx hb d_L_deliver_58 (lv_at hl 6 rfl) ?_
              refine a_subs hx hb hK hP hu (r := a) hlt rfl d_L_deliver_60 ?_
              refine lv_iconst (v := 1) hx hb d_L_deliver_61 (by decide) ?_
              have hA1 := hS.1
              refine va_calli (va_runV (As := [.int (1)]) (rest := []) ⟨hx, hb, hml, hown, hts⟩ (c_S_takes l D ad ka H.size (O_add t1 (nI a) (nI u) 0 p0) (12 * u + a) (by omega) 1) (cwV 1 hts (gv mw_456 mw_457 mw_458 mw_3 mw_459) rfl rfl rfl (by decide +kernel) ⟨Nat.le_of_ble_eq_true rfl, Nat.le_of_ble_eq_true rfl⟩) ⟨PX_blind, va_recv hK hP (ci := 3) (q0 := 60 + (12 * u + a)) rfl (at_S (by omega)), fun U hU hW => ⟨rfl, PX_at hU hW hP hK hD⟩⟩ rfl rfl hl.1 rfl (lv_room (Nat.le_of_ble_eq_true rfl)) d_L_deliver_62 ⟨Nat.le_of_ble_eq_true rfl, Nat.le_of_ble_eq_true rfl⟩) hS (fun q _ h => AX_up hA1 q h) (AX_up hA1) (fun r33 t35 tq H1 locs ht hvm hw34 hB hz1 hk1 hS => ?_)
              obtain ⟨hP, hD⟩ := BX_back ht hB (AX_up hA1)
              generalize H1 = H at hP hS ⊢
              obtain ⟨hwr, hwt⟩ := hw34
              rw [hwt] at hP hD
              rw [hwr]
              refine lv_if_eq (tgt := 72) hx hb d_L_deliver_65 (by decide) (fun c36 => ?_) (fun c36 => ?_)
              · have _u : True := trivial
                refine lv_iconst (v := 0) hx hb d_L_deliver_72 (by decide) ?_
                refine lv_istore (lv' := [(5, .int (0)), (0, .ref (ad (8 + u))), (1, .int (p0)), (2, .ref (ad (20 + r))), (3, .int (d)), (4, .ref (ad (3))), (6, .int (nI a))]) hx hb d_L_deliver_73 hl (by decide) rfl (fun ls hl => ?_)
                refine lv_iinc (v := nI (a + 1)) (lv' := [(6, .int (nI (a + 1))), (5, .int (0)), (0, .ref (ad (8 + u))), (1, .int (p0)), (2, .ref (ad (20 + r))), (3, .int (d)), (4, .ref (ad (3)))]) hx hb d_L_deliver_75 hl (k := 6) rfl (nI_1 _) (by decide) rfl (fun ls hl => ?_)
                refine lv_goto (tgt := 6) hx hb d_L_deliver_78 (by decide) ?_
                exact ih (a + 1) 0 (O_add t1 (nI a) (nI u) 0 p0) H _ ls (by omega) (by omega) (OKX_add ho) (lp_next hlt hF (by simp [delF, delA, c1, c17, c23, c32, c36])) hP hD hS (lv_sub hl [2, 3, 4, 5, 6, 1, 0] rfl)
              · have _u : True := trivial
                refine lv_iconst (v := 1) hx hb d_L_deliver_68 (by decide) ?_
                refine lv_goto (tgt := 73) hx hb d_L_deliver_69 (by decide) ?_
                refine lv_istore (lv' := [(5, .int (1)), (0, .ref (ad (8 + u))), (1, .int (p0)), (2, .ref (ad (20 + r))), (3, .int (d)), (4, .ref (ad (3))), (6, .int (nI a))]) hx hb d_L_deliver_73 hl (by decide) rfl (fun ls hl => ?_)
                refine lv_iinc (v := nI (a + 1)) (lv' := [(6, .int (nI (a + 1))), (5, .int (1)), (0, .ref (ad (8 + u))), (1, .int (p0)), (2, .ref (ad (20 + r))), (3, .int (d)), (4, .ref (ad (3)))]) hx hb d_L_deliver_75 hl (k := 6) rfl (nI_1 _) (by decide) rfl (fun ls hl => ?_)
                refine lv_goto (tgt := 6) hx hb d_L_deliver_78 (by decide) ?_
                exact ih (a + 1) 1 (O_add t1 (nI a) (nI u) 0 p0) H _ ls (by omega) (by omega) (OKX_add ho) (lp_next hlt hF (by simp [delF, delA, c1, c17, c23, c32, c36])) hP hD hS (lv_sub hl [2, 3, 4, 5, 6, 1, 0] rfl)
  exact hloop (12 + 1) 0 0 t s.heap _ ls (by omega) (by omega) ho rfl hP hD hS (lv_sub hl [2, 3, 4, 5, 6, 1, 0] rfl)
set_option maxHeartbeats 4000000 in
set_option maxRecDepth 100000 in
theorem c_L_warnAgain (l : Launch) (D : va_G) (ad : Nat → Nat) (ka : Nat → ClassId) (sz : Nat) (t : Mem) (u : Nat) (hu : u < 3) (a : Nat) (hlt : a < 12) (ho : OKX t) : Met l y_L_warnAgain (Cond.code y_L_warnAgain b_L_warnAgain 4 none :: big) ({ frames := 1, cells := 0, slots := 0, locals := 24 }) (va_Pc [.ref (ad (8 + u)), .int (nI a), .ref (ad (3))] (PX D ad ka sz t)) (va_Qv (fun t' : Mem => t' = L_warn t u a) (BX D ad ka sz) (AX ad sz)) 0 0 (AX ad sz) := by
  refine Met.ofW (cc := b_L_warnAgain) (maxL := 4) (ret := none) (by decide) rfl ?_
  intro p e s m args below meth c s₁ B hml hv
  obtain ⟨rfl, hsz, hP, hK, hD0⟩ := hv
  have hx := B.exec
  have hb := B.bytes
  have hr := B.returns
  have hlocks := B.notSynchronized
  have hts := atoms_spec (ws := Cond.code y_L_warnAgain b_L_warnAgain 4 none :: big) B.pre
  have hown : s.vm.findClass "ListForge$MailingList" = some m.cls := findClass_of_methodNamed B.named
  subst hsz
  have hD : va_D (AX ad s.heap.size) (cw ad ka t) := AX_D hD0
  have hS : va_S (AX ad s.heap.size) s.heap s.heap [] := va_S.rf
  have hl := lv_entry ([.ref (ad (8 + u)), .int (nI a), .ref (ad (3))]) (n := 4) (Nat.le_of_ble_eq_true rfl)
  rw [lg_entry_eq]
  generalize (lg_sl ([.ref (ad (8 + u)), .int (nI a), .ref (ad (3))]) ++ List.replicate (4 - (lg_sl ([.ref (ad (8 + u)), .int (nI a), .ref (ad (3))])).length) Slot.unset).toArray = ls at hl ⊢
  have hl : lv_has ls 4 [(0, .ref (ad (8 + u))), (1, .int (nI a)), (2, .ref (ad (3)))] := hl

  refine lv_aload_n hx hb d_L_warnAgain_0 rfl (lv_at hl 0 rfl) ?_
  refine g_L_subscriptions hx hb hts hown hK hP hu mw_76 d_L_warnAgain_1 ?_
  refine lv_iload_n hx hb d_L_warnAgain_4 rfl (lv_at hl 1 rfl) ?_
  refine a_subs hx hb hK hP hu (r := a) hlt rfl d_L_warnAgain_5 ?_
  refine lv_astore_n (lv' := [(3, .ref (ad (60 + (12 * u + a)))), (0, .ref (ad (8 + u))), (1, .int (nI a)), (2, .ref (ad (3)))]) hx hb d_L_warnAgain_6 rfl hl (by decide) rfl (fun ls hl => ?_)
  refine lv_aload_n hx hb d_L_warnAgain_7 rfl (lv_at hl 0 rfl) ?_
  refine g_S_warning hx hb hts hown hK hP (by omega) mw_49 d_L_warnAgain_8 ?_
  refine lv_iconst (v := 3) hx hb d_L_warnAgain_11 (by decide) ?_
  refine lv_icmp_lt (tgt := 34) hx hb d_L_warnAgain_12 (by decide) (fun c1 => ?_) (fun c1 => ?_)
  · have _u : True := trivial
    refine lv_aload_n hx hb d_L_warnAgain_34 rfl (lv_at hl 0 rfl) ?_
    refine lv_dup hx hb d_L_warnAgain_35 rfl ?_
    refine g_S_warning hx hb hts hown hK hP (by omega) mw_49 d_L_warnAgain_36 ?_
    refine lv_iconst (v := 1) hx hb d_L_warnAgain_39 (by decide) ?_
    refine lv_iadd hx hb d_L_warnAgain_40 ?_
    refine p_S_warning hx hb hts hown hK hP hD hS (by omega) mw_49 d_L_warnAgain_41 (fun H locs hP hD hS => ?_)
    refine lv_aload_n hx hb d_L_warnAgain_44 rfl (lv_at hl 3 rfl) ?_
    refine lv_iload_n hx hb d_L_warnAgain_45 rfl (lv_at hl 2 rfl) ?_
    refine lv_aload_n hx hb d_L_warnAgain_46 rfl (lv_at hl 1 rfl) ?_
    refine g_L_number hx hb hts hown hK hP hu mw_75 d_L_warnAgain_47 ?_
    refine lv_iconst (v := 5) hx hb d_L_warnAgain_50 (by decide) ?_
    refine lv_aload_n hx hb d_L_warnAgain_51 rfl (lv_at hl 0 rfl) ?_
    refine g_S_warning hx hb hts hown hK hP (by omega) mw_49 d_L_warnAgain_52 ?_
    have hA1 := hS.1
    refine va_callv (va_runV (As := [.int (nI a), .int (nI u), .int (5), .int (gI (pI t 4 (12 * u + a) ((gI t 4 (12 * u + a)) + 1)) 4 (12 * u + a))]) (rest := []) ⟨hx, hb, hml, hown, hts⟩ (c_O_add l D ad ka H.size (pI t 4 (12 * u + a) ((gI t 4 (12 * u + a)) + 1)) (OKX_f ho (by decide)) (nI a) (nI u) 5 (gI (pI t 4 (12 * u + a) ((gI t 4 (12 * u + a)) + 1)) 4 (12 * u + a))) (cwV 4 hts (gv mw_447 mw_320 mw_321 mw_5 mw_322) rfl rfl rfl (by decide +kernel) ⟨Nat.le_of_ble_eq_true rfl, Nat.le_of_ble_eq_true rfl⟩) ⟨PX_blind, va_recv hK hP (ci := 1) (q0 := 3) rfl (at_O), fun U hU hW => ⟨rfl, PX_at hU hW hP hK hD⟩⟩ rfl rfl hl.1 rfl (lv_room (Nat.le_of_ble_eq_true rfl)) d_L_warnAgain_55 ⟨Nat.le_of_ble_eq_true rfl, Nat.le_of_ble_eq_true rfl⟩) hS (fun q _ h => AX_up hA1 q h) (AX_up hA1) (fun t4 tq H1 locs ht hvm hw3 hB hz1 hk1 hS => ?_)
    obtain ⟨hP, hD⟩ := BX_back ht hB (AX_up hA1)
    generalize H1 = H at hP hS ⊢
    rw [hw3] at hP hD
    exact W.vret hx hb hr (fun t9 ht hW => ⟨⟨(O_add (pI t 4 (12 * u + a) ((gI t 4 (12 * u + a)) + 1)) (nI a) (nI u) 5 (gI (pI t 4 (12 * u + a) ((gI t 4 (12 * u + a)) + 1)) 4 (12 * u + a))), rfl, (by first | (simp [L_warn, gI_pI, c1]; done) | (exfalso; simp_all; done)), BX_at ht hW hP hK hD⟩, hS.F ht⟩) hS.2.2 d_L_warnAgain_58
  · have _u : True := trivial
    refine lv_aload_n hx hb d_L_warnAgain_15 rfl (lv_at hl 0 rfl) ?_
    have hA1 := hS.1
    refine va_callv (va_runV (As := []) (rest := []) ⟨hx, hb, hml, hown, hts⟩ (c_S_end l D ad ka s.heap.size t (12 * u + a) (by omega)) (cwV 0 hts (gv mw_526 mw_364 mw_365 mw_3 mw_366) rfl rfl rfl (by decide +kernel) ⟨Nat.le_of_ble_eq_true rfl, Nat.le_of_ble_eq_true rfl⟩) ⟨PX_blind, va_recv hK hP (ci := 3) (q0 := 60 + (12 * u + a)) rfl (at_S (by omega)), fun U hU hW => ⟨rfl, PX_at hU hW hP hK hD⟩⟩ rfl rfl hl.1 rfl (lv_room (Nat.le_of_ble_eq_true rfl)) d_L_warnAgain_16 ⟨Nat.le_of_ble_eq_true rfl, Nat.le_of_ble_eq_true rfl⟩) hS (fun q _ h => AX_up hA1 q h) (AX_up hA1) (fun t7 tq H1 locs ht hvm hw6 hB hz1 hk1 hS => ?_)
    obtain ⟨hP, hD⟩ := BX_back ht hB (AX_up hA1)
    generalize H1 = H at hP hS ⊢
    rw [hw6] at hP hD
    refine lv_aload_n hx hb d_L_warnAgain_19 rfl (lv_at hl 3 rfl) ?_
    refine lv_iload_n hx hb d_L_warnAgain_20 rfl (lv_at hl 2 rfl) ?_
    refine lv_aload_n hx hb d_L_warnAgain_21 rfl (lv_at hl 1 rfl) ?_
    refine g_L_number hx hb hts hown hK hP hu mw_75 d_L_warnAgain_22 ?_
    refine lv_bipush (v := 6) hx hb d_L_warnAgain_25 (by decide) ?_
    refine lv_iconst (v := 0) hx hb d_L_warnAgain_27 (by decide) ?_
    have hA1 := hS.1
    refine va_callv (va_runV (As := [.int (nI a), .int (nI u), .int (6), .int (0)]) (rest := []) ⟨hx, hb, hml, hown, hts⟩ (c_O_add l D ad ka H.size (S_end t (12 * u + a) ) (OKX_end ho) (nI a) (nI u) 6 0) (cwV 4 hts (gv mw_447 mw_320 mw_321 mw_5 mw_322) rfl rfl rfl (by decide +kernel) ⟨Nat.le_of_ble_eq_true rfl, Nat.le_of_ble_eq_true rfl⟩) ⟨PX_blind, va_recv hK hP (ci := 1) (q0 := 3) rfl (at_O), fun U hU hW => ⟨rfl, PX_at hU hW hP hK hD⟩⟩ rfl rfl hl.1 rfl (lv_room (Nat.le_of_ble_eq_true rfl)) d_L_warnAgain_28 ⟨Nat.le_of_ble_eq_true rfl, Nat.le_of_ble_eq_true rfl⟩) hS (fun q _ h => AX_up hA1 q h) (AX_up hA1) (fun t10 tq H1 locs ht hvm hw9 hB hz1 hk1 hS => ?_)
    obtain ⟨hP, hD⟩ := BX_back ht hB (AX_up hA1)
    generalize H1 = H at hP hS ⊢
    rw [hw9] at hP hD
    refine lv_goto (tgt := 58) hx hb d_L_warnAgain_31 (by decide) ?_
    exact W.vret hx hb hr (fun t9 ht hW => ⟨⟨(O_add (S_end t (12 * u + a) ) (nI a) (nI u) 6 0), rfl, (by first | (simp [L_warn, gI_pI, c1]; done) | (exfalso; simp_all; done)), BX_at ht hW hP hK hD⟩, hS.F ht⟩) hS.2.2 d_L_warnAgain_58
set_option maxHeartbeats 4000000 in
set_option maxRecDepth 100000 in
theorem c_L_beginDayOf (l : Launch) (D : va_G) (ad : Nat → Nat) (ka : Nat → ClassId) (sz : Nat) (t : Mem) (u : Nat) (hu : u < 3) (a : Nat) (hlt : a < 12) (ho : OKX t) (d : Int32) : Met l y_L_beginDayOf (Cond.code y_L_beginDayOf b_L_beginDayOf 6 none :: big) ({ frames := 2, cells := 0, slots := 0, locals := 47 }) (va_Pc [.ref (ad (8 + u)), .int (nI a), .int (d), .ref (ad (3))] (PX D ad ka sz t)) (va_Qv (fun t' : Mem => t' = L_dayOf t u a d) (BX D ad ka sz) (AX ad sz)) 0 0 (AX ad sz) := by
  refine Met.ofW (cc := b_L_beginDayOf) (maxL := 6) (ret := none) (by decide) rfl ?_
  intro p e s m args below meth c s₁ B hml hv
  obtain ⟨rfl, hsz, hP, hK, hD0⟩ := hv
  have hx := B.exec
  have hb := B.bytes
  have hr := B.returns
  have hlocks := B.notSynchronized
  have hts := atoms_spec (ws := Cond.code y_L_beginDayOf b_L_beginDayOf 6 none :: big) B.pre
  have hown : s.vm.findClass "ListForge$MailingList" = some m.cls := findClass_of_methodNamed B.named
  subst hsz
  have hD : va_D (AX ad s.heap.size) (cw ad ka t) := AX_D hD0
  have hS : va_S (AX ad s.heap.size) s.heap s.heap [] := va_S.rf
  have hl := lv_entry ([.ref (ad (8 + u)), .int (nI a), .int (d), .ref (ad (3))]) (n := 6) (Nat.le_of_ble_eq_true rfl)
  rw [lg_entry_eq]
  generalize (lg_sl ([.ref (ad (8 + u)), .int (nI a), .int (d), .ref (ad (3))]) ++ List.replicate (6 - (lg_sl ([.ref (ad (8 + u)), .int (nI a), .int (d), .ref (ad (3))])).length) Slot.unset).toArray = ls at hl ⊢
  have hl : lv_has ls 6 [(0, .ref (ad (8 + u))), (1, .int (nI a)), (2, .int (d)), (3, .ref (ad (3)))] := hl

  refine lv_aload_n hx hb d_L_beginDayOf_0 rfl (lv_at hl 0 rfl) ?_
  refine g_L_subscriptions hx hb hts hown hK hP hu mw_76 d_L_beginDayOf_1 ?_
  refine lv_iload_n hx hb d_L_beginDayOf_4 rfl (lv_at hl 1 rfl) ?_
  refine a_subs hx hb hK hP hu (r := a) hlt rfl d_L_beginDayOf_5 ?_
  refine lv_astore (lv' := [(4, .ref (ad (60 + (12 * u + a)))), (0, .ref (ad (8 + u))), (1, .int (nI a)), (2, .int (d)), (3, .ref (ad (3)))]) hx hb d_L_beginDayOf_6 hl (by decide) rfl (fun ls hl => ?_)
  refine lv_iload_n hx hb d_L_beginDayOf_8 rfl (lv_at hl 3 rfl) ?_
  refine lv_aload hx hb d_L_beginDayOf_9 (lv_at hl 0 rfl) ?_
  refine g_S_since hx hb hts hown hK hP (by omega) mw_46 d_L_beginDayOf_11 ?_
  refine lv_isub hx hb d_L_beginDayOf_14 ?_
  refine lv_istore (lv' := [(5, .int (d - (gI t 3 (12 * u + a)))), (4, .ref (ad (60 + (12 * u + a)))), (0, .ref (ad (8 + u))), (1, .int (nI a)), (2, .int (d)), (3, .ref (ad (3)))]) hx hb d_L_beginDayOf_15 hl (by decide) rfl (fun ls hl => ?_)
  refine lv_aload hx hb d_L_beginDayOf_17 (lv_at hl 1 rfl) ?_
  refine g_S_state hx hb hts hown hK hP (by omega) mw_39 d_L_beginDayOf_19 ?_
  refine lv_iconst (v := 1) hx hb d_L_beginDayOf_22 (by decide) ?_
  refine lv_icmp_ne (tgt := 35) hx hb d_L_beginDayOf_23 (by decide) (fun c1 => ?_) (fun c1 => ?_)
  · have _u : True := trivial
    refine lv_aload hx hb d_L_beginDayOf_35 (lv_at hl 1 rfl) ?_
    refine g_S_state hx hb hts hown hK hP (by omega) mw_39 d_L_beginDayOf_37 ?_
    refine lv_iconst (v := 2) hx hb d_L_beginDayOf_40 (by decide) ?_
    refine lv_icmp_ne (tgt := 60) hx hb d_L_beginDayOf_41 (by decide) (fun c2 => ?_) (fun c2 => ?_)
    · have _u : True := trivial
      refine lv_aload hx hb d_L_beginDayOf_60 (lv_at hl 1 rfl) ?_
      refine g_S_state hx hb hts hown hK hP (by omega) mw_39 d_L_beginDayOf_62 ?_
      refine lv_if_ne (tgt := 79) hx hb d_L_beginDayOf_65 (by decide) (fun c3 => ?_) (fun c3 => ?_)
      · have _u : True := trivial
        exact W.vret hx hb hr (fun t9 ht hW => ⟨⟨t, rfl, (by first | (simp [L_dayOf, c1, c2, c3]; done) | (exfalso; simp_all; done)), BX_at ht hW hP hK hD⟩, hS.F ht⟩) hS.2.2 d_L_beginDayOf_79
      · have _u : True := trivial
        refine lv_iload hx hb d_L_beginDayOf_68 (lv_at hl 0 rfl) ?_
        refine lv_iconst (v := 5) hx hb d_L_beginDayOf_70 (by decide) ?_
        refine lv_icmp_lt (tgt := 79) hx hb d_L_beginDayOf_71 (by decide) (fun c4 => ?_) (fun c4 => ?_)
        · have _u : True := trivial
          exact W.vret hx hb hr (fun t9 ht hW => ⟨⟨t, rfl, (by first | (simp [L_dayOf, c1, c2, c3, c4]; done) | (exfalso; simp_all; done)), BX_at ht hW hP hK hD⟩, hS.F ht⟩) hS.2.2 d_L_beginDayOf_79
        · have _u : True := trivial
          refine lv_aload hx hb d_L_beginDayOf_74 (lv_at hl 1 rfl) ?_
          have hA1 := hS.1
          refine va_callv (va_runV (As := []) (rest := []) ⟨hx, hb, hml, hown, hts⟩ (c_S_end l D ad ka s.heap.size t (12 * u + a) (by omega)) (cwV 0 hts (gv mw_526 mw_364 mw_365 mw_3 mw_366) rfl rfl rfl (by decide +kernel) ⟨Nat.le_of_ble_eq_true rfl, Nat.le_of_ble_eq_true rfl⟩) ⟨PX_blind, va_recv hK hP (ci := 3) (q0 := 60 + (12 * u + a)) rfl (at_S (by omega)), fun U hU hW => ⟨rfl, PX_at hU hW hP hK hD⟩⟩ rfl rfl hl.1 rfl (lv_room (Nat.le_of_ble_eq_true rfl)) d_L_beginDayOf_76 ⟨Nat.le_of_ble_eq_true rfl, Nat.le_of_ble_eq_true rfl⟩) hS (fun q _ h => AX_up hA1 q h) (AX_up hA1) (fun t7 tq H1 locs ht hvm hw6 hB hz1 hk1 hS => ?_)
          obtain ⟨hP, hD⟩ := BX_back ht hB (AX_up hA1)
          generalize H1 = H at hP hS ⊢
          rw [hw6] at hP hD
          exact W.vret hx hb hr (fun t9 ht hW => ⟨⟨(S_end t (12 * u + a) ), rfl, (by first | (simp [L_dayOf, c1, c2, c3, c4]; done) | (exfalso; simp_all; done)), BX_at ht hW hP hK hD⟩, hS.F ht⟩) hS.2.2 d_L_beginDayOf_79
    · have _u : True := trivial
      refine lv_iload hx hb d_L_beginDayOf_44 (lv_at hl 0 rfl) ?_
      refine lv_iconst (v := 3) hx hb d_L_beginDayOf_46 (by decide) ?_
      refine lv_irem hx hb d_L_beginDayOf_47 (by decide) ?_
      refine lv_if_ne (tgt := 60) hx hb d_L_beginDayOf_48 (by decide) (fun c8 => ?_) (fun c8 => ?_)
      · have _u : True := trivial
        refine lv_aload hx hb d_L_beginDayOf_60 (lv_at hl 1 rfl) ?_
        refine g_S_state hx hb hts hown hK hP (by omega) mw_39 d_L_beginDayOf_62 ?_
        refine lv_if_ne (tgt := 79) hx hb d_L_beginDayOf_65 (by decide) (fun c9 => ?_) (fun c9 => ?_)
        · have _u : True := trivial
          exact W.vret hx hb hr (fun t9 ht hW => ⟨⟨t, rfl, (by first | (simp [L_dayOf, c1, c2, c8, c9]; done) | (exfalso; simp_all; done)), BX_at ht hW hP hK hD⟩, hS.F ht⟩) hS.2.2 d_L_beginDayOf_79
        · have _u : True := trivial
          refine lv_iload hx hb d_L_beginDayOf_68 (lv_at hl 0 rfl) ?_
          refine lv_iconst (v := 5) hx hb d_L_beginDayOf_70 (by decide) ?_
          refine lv_icmp_lt (tgt := 79) hx hb d_L_beginDayOf_71 (by decide) (fun c10 => ?_) (fun c10 => ?_)
          · have _u : True := trivial
            exact W.vret hx hb hr (fun t9 ht hW => ⟨⟨t, rfl, (by first | (simp [L_dayOf, c1, c2, c8, c9, c10]; done) | (exfalso; simp_all; done)), BX_at ht hW hP hK hD⟩, hS.F ht⟩) hS.2.2 d_L_beginDayOf_79
          · have _u : True := trivial
            refine lv_aload hx hb d_L_beginDayOf_74 (lv_at hl 1 rfl) ?_
            have hA1 := hS.1
            refine va_callv (va_runV (As := []) (rest := []) ⟨hx, hb, hml, hown, hts⟩ (c_S_end l D ad ka s.heap.size t (12 * u + a) (by omega)) (cwV 0 hts (gv mw_526 mw_364 mw_365 mw_3 mw_366) rfl rfl rfl (by decide +kernel) ⟨Nat.le_of_ble_eq_true rfl, Nat.le_of_ble_eq_true rfl⟩) ⟨PX_blind, va_recv hK hP (ci := 3) (q0 := 60 + (12 * u + a)) rfl (at_S (by omega)), fun U hU hW => ⟨rfl, PX_at hU hW hP hK hD⟩⟩ rfl rfl hl.1 rfl (lv_room (Nat.le_of_ble_eq_true rfl)) d_L_beginDayOf_76 ⟨Nat.le_of_ble_eq_true rfl, Nat.le_of_ble_eq_true rfl⟩) hS (fun q _ h => AX_up hA1 q h) (AX_up hA1) (fun t13 tq H1 locs ht hvm hw12 hB hz1 hk1 hS => ?_)
            obtain ⟨hP, hD⟩ := BX_back ht hB (AX_up hA1)
            generalize H1 = H at hP hS ⊢
            rw [hw12] at hP hD
            exact W.vret hx hb hr (fun t9 ht hW => ⟨⟨(S_end t (12 * u + a) ), rfl, (by first | (simp [L_dayOf, c1, c2, c8, c9, c10]; done) | (exfalso; simp_all; done)), BX_at ht hW hP hK hD⟩, hS.F ht⟩) hS.2.2 d_L_beginDayOf_79
      · have _u : True := trivial
        refine lv_aload_n hx hb d_L_beginDayOf_51 rfl (lv_at hl 2 rfl) ?_
        refine lv_iload_n hx hb d_L_beginDayOf_52 rfl (lv_at hl 3 rfl) ?_
        refine lv_aload_n hx hb d_L_beginDayOf_53 rfl (lv_at hl 5 rfl) ?_
        have hA1 := hS.1
        refine va_callv (va_runV (As := [.int (nI a), .ref (ad (3))]) (rest := []) ⟨hx, hb, hml, hown, hts⟩ (c_L_warnAgain l D ad ka s.heap.size t u hu a hlt ho) (cwV 2 hts (gv mw_522 mw_523 mw_524 mw_2 mw_525) rfl rfl rfl (by decide +kernel) ⟨Nat.le_of_ble_eq_true rfl, Nat.le_of_ble_eq_true rfl⟩) ⟨PX_blind, va_recv hK hP (ci := 0) (q0 := 8 + u) rfl (at_L hu), fun U hU hW => ⟨rfl, PX_at hU hW hP hK hD⟩⟩ rfl rfl hl.1 rfl (lv_room (Nat.le_of_ble_eq_true rfl)) d_L_beginDayOf_54 ⟨Nat.le_of_ble_eq_true rfl, Nat.le_of_ble_eq_true rfl⟩) hS (fun q _ h => AX_up hA1 q h) (AX_up hA1) (fun t16 tq H1 locs ht hvm hw15 hB hz1 hk1 hS => ?_)
        obtain ⟨hP, hD⟩ := BX_back ht hB (AX_up hA1)
        generalize H1 = H at hP hS ⊢
        rw [hw15] at hP hD
        refine lv_goto (tgt := 79) hx hb d_L_beginDayOf_57 (by decide) ?_
        exact W.vret hx hb hr (fun t9 ht hW => ⟨⟨(L_warn t u a), rfl, (by first | (simp [L_dayOf, c1, c2, c8]; done) | (exfalso; simp_all; done)), BX_at ht hW hP hK hD⟩, hS.F ht⟩) hS.2.2 d_L_beginDayOf_79
  · have _u : True := trivial
    refine lv_aload hx hb d_L_beginDayOf_26 (lv_at hl 1 rfl) ?_
    refine lv_iload_n hx hb d_L_beginDayOf_28 rfl (lv_at hl 4 rfl) ?_
    have hA1 := hS.1
    refine va_callv (va_runV (As := [.int (d)]) (rest := []) ⟨hx, hb, hml, hown, hts⟩ (c_S_fade l D ad ka s.heap.size t (12 * u + a) (by omega) ho d) (cwV 1 hts (gv mw_516 mw_517 mw_518 mw_3 mw_519) rfl rfl rfl (by decide +kernel) ⟨Nat.le_of_ble_eq_true rfl, Nat.le_of_ble_eq_true rfl⟩) ⟨PX_blind, va_recv hK hP (ci := 3) (q0 := 60 + (12 * u + a)) rfl (at_S (by omega)), fun U hU hW => ⟨rfl, PX_at hU hW hP hK hD⟩⟩ rfl rfl hl.1 rfl (lv_room (Nat.le_of_ble_eq_true rfl)) d_L_beginDayOf_29 ⟨Nat.le_of_ble_eq_true rfl, Nat.le_of_ble_eq_true rfl⟩) hS (fun q _ h => AX_up hA1 q h) (AX_up hA1) (fun t19 tq H1 locs ht hvm hw18 hB hz1 hk1 hS => ?_)
    obtain ⟨hP, hD⟩ := BX_back ht hB (AX_up hA1)
    generalize H1 = H at hP hS ⊢
    rw [hw18] at hP hD
    refine lv_goto (tgt := 79) hx hb d_L_beginDayOf_32 (by decide) ?_
    exact W.vret hx hb hr (fun t9 ht hW => ⟨⟨(S_fade t (12 * u + a) d), rfl, (by first | (simp [L_dayOf, c1]; done) | (exfalso; simp_all; done)), BX_at ht hW hP hK hD⟩, hS.F ht⟩) hS.2.2 d_L_beginDayOf_79
set_option maxHeartbeats 4000000 in
set_option maxRecDepth 100000 in
theorem c_L_beginDay (l : Launch) (D : va_G) (ad : Nat → Nat) (ka : Nat → ClassId) (sz : Nat) (t : Mem) (u : Nat) (hu : u < 3) (ho : OKX t) (d : Int32) : Met l y_L_beginDay (Cond.code y_L_beginDay b_L_beginDay 4 none :: big) ({ frames := 3, cells := 0, slots := 0, locals := 72 }) (va_Pc [.ref (ad (8 + u)), .int (d), .ref (ad (3))] (PX D ad ka sz t)) (va_Qv (fun t' : Mem => t' = L_day t u d) (BX D ad ka sz) (AX ad sz)) 0 0 (AX ad sz) := by
  refine Met.ofW (cc := b_L_beginDay) (maxL := 4) (ret := none) (by decide) rfl ?_
  intro p e s m args below meth c s₁ B hml hv
  obtain ⟨rfl, hsz, hP, hK, hD0⟩ := hv
  have hx := B.exec
  have hb := B.bytes
  have hr := B.returns
  have hlocks := B.notSynchronized
  have hts := atoms_spec (ws := Cond.code y_L_beginDay b_L_beginDay 4 none :: big) B.pre
  have hown : s.vm.findClass "ListForge$MailingList" = some m.cls := findClass_of_methodNamed B.named
  subst hsz
  have hD : va_D (AX ad s.heap.size) (cw ad ka t) := AX_D hD0
  have hS : va_S (AX ad s.heap.size) s.heap s.heap [] := va_S.rf
  have hl := lv_entry ([.ref (ad (8 + u)), .int (d), .ref (ad (3))]) (n := 4) (Nat.le_of_ble_eq_true rfl)
  rw [lg_entry_eq]
  generalize (lg_sl ([.ref (ad (8 + u)), .int (d), .ref (ad (3))]) ++ List.replicate (4 - (lg_sl ([.ref (ad (8 + u)), .int (d), .ref (ad (3))])).length) Slot.unset).toArray = ls at hl ⊢
  have hl : lv_has ls 4 [(0, .ref (ad (8 + u))), (1, .int (d)), (2, .ref (ad (3)))] := hl

  refine lv_iconst (v := 0) hx hb d_L_beginDay_0 (by decide) ?_
  refine lv_istore_n (lv' := [(3, .int (0)), (0, .ref (ad (8 + u))), (1, .int (d)), (2, .ref (ad (3)))]) hx hb d_L_beginDay_1 rfl hl (by decide) rfl (fun ls hl => ?_)
  have hloop : ∀ (n a : Nat) (t1 : Mem) (H : Heap) (locs : List Loc) (ls : Array Slot), a ≤ 12 → 12 + 1 ≤ a + n → OKX t1 → lp (fun a t => L_dayOf t u a d) (12 - a) a t1 = lp (fun a t => L_dayOf t u a d) 12 0 t → va_P D cls (cw ad ka t1) H → va_D (AX ad s.heap.size) (cw ad ka t1) → va_S (AX ad s.heap.size) s.heap H locs → lv_has ls 4 [(0, .ref (ad (8 + u))), (1, .int (d)), (2, .ref (ad (3))), (3, .int (nI a))] → W p l e ({ frames := 3, cells := 0, slots := 0, locals := 72 }) s m ([.ref (ad (8 + u)), .int (d), .ref (ad (3))] : List Value).toArray below meth c H locs 0 0 (MQ below (va_Qv (fun t' : Mem => t' = L_day t u d) (BX D ad ka s.heap.size) (AX ad s.heap.size)) ([.ref (ad (8 + u)), .int (d), .ref (ad (3))] : List Value).toArray s 0 0 (AX ad s.heap.size)) (F0 m 2 ls []) := by
    intro n
    induction n with
    | zero => intro a t1 H locs ls h1 h2; exact absurd h2 (by omega)
    | succ n ih =>
      intro a t1 H locs ls ha hn ho hF hP hD hS hl
      refine lv_iload_n hx hb d_L_beginDay_2 rfl (lv_at hl 3 rfl) ?_
      refine lv_bipush (v := 12) hx hb d_L_beginDay_3 (by decide) ?_
      refine lv_icmp_ge (tgt := 21) hx hb d_L_beginDay_5 (by decide) (fun c1 => ?_) (fun c1 => ?_)
      · have _u : True := trivial
        obtain rfl := nI_eq_of (x := 12) (N := 12) (rfl) (by decide) ha c1
        have hE := lp_end hF
        refine lv_aload_n hx hb d_L_beginDay_21 rfl (lv_at hl 0 rfl) ?_
        refine g_L_bundlePosts hx hb hts hown hK hP hu mw_87 d_L_beginDay_22 ?_
        refine lv_if_le (tgt := 43) hx hb d_L_beginDay_25 (by decide) (fun c2 => ?_) (fun c2 => ?_)
        · have _u : True := trivial
          exact W.vret hx hb hr (fun t9 ht hW => ⟨⟨t1, rfl, (by unfold L_day; rw [← hE]; simp [c2]), BX_at ht hW hP hK hD⟩, hS.F ht⟩) hS.2.2 d_L_beginDay_43
        · have _u : True := trivial
          refine lv_iload_n hx hb d_L_beginDay_28 rfl (lv_at hl 1 rfl) ?_
          refine lv_aload_n hx hb d_L_beginDay_29 rfl (lv_at hl 0 rfl) ?_
          refine g_L_bundleSince hx hb hts hown hK hP hu mw_91 d_L_beginDay_30 ?_
          refine lv_isub hx hb d_L_beginDay_33 ?_
          refine lv_iconst (v := 2) hx hb d_L_beginDay_34 (by decide) ?_
          refine lv_icmp_le (tgt := 43) hx hb d_L_beginDay_35 (by decide) (fun c3 => ?_) (fun c3 => ?_)
          · have _u : True := trivial
            exact W.vret hx hb hr (fun t9 ht hW => ⟨⟨t1, rfl, (by unfold L_day; rw [← hE]; simp [c2, c3]), BX_at ht hW hP hK hD⟩, hS.F ht⟩) hS.2.2 d_L_beginDay_43
          · have _u : True := trivial
            refine lv_aload_n hx hb d_L_beginDay_38 rfl (lv_at hl 0 rfl) ?_
            refine lv_aload_n hx hb d_L_beginDay_39 rfl (lv_at hl 2 rfl) ?_
            have hA1 := hS.1
            refine va_callv (va_runV (As := [.ref (ad (3))]) (rest := []) ⟨hx, hb, hml, hown, hts⟩ (c_L_sendBundle l D ad ka H.size t1 u hu ho) (cwV 1 hts (gv mw_464 mw_465 mw_466 mw_2 mw_467) rfl rfl rfl (by decide +kernel) ⟨Nat.le_of_ble_eq_true rfl, Nat.le_of_ble_eq_true rfl⟩) ⟨PX_blind, va_recv hK hP (ci := 0) (q0 := 8 + u) rfl (at_L hu), fun U hU hW => ⟨rfl, PX_at hU hW hP hK hD⟩⟩ rfl rfl hl.1 rfl (lv_room (Nat.le_of_ble_eq_true rfl)) d_L_beginDay_40 ⟨Nat.le_of_ble_eq_true rfl, Nat.le_of_ble_eq_true rfl⟩) hS (fun q _ h => AX_up hA1 q h) (AX_up hA1) (fun t6 tq H1 locs ht hvm hw5 hB hz1 hk1 hS => ?_)
            obtain ⟨hP, hD⟩ := BX_back ht hB (AX_up hA1)
            generalize H1 = H at hP hS ⊢
            rw [hw5] at hP hD
            exact W.vret hx hb hr (fun t9 ht hW => ⟨⟨(L_send t1 u), rfl, (by unfold L_day; rw [← hE]; simp [c2, c3]), BX_at ht hW hP hK hD⟩, hS.F ht⟩) hS.2.2 d_L_beginDay_43
      · have _u : True := trivial
        have hlt : a < 12 := nI_lt_of (x := 12) (N := 12) (rfl) ha c1
        refine lv_aload_n hx hb d_L_beginDay_8 rfl (lv_at hl 0 rfl) ?_
        refine lv_iload_n hx hb d_L_beginDay_9 rfl (lv_at hl 3 rfl) ?_
        refine lv_iload_n hx hb d_L_beginDay_10 rfl (lv_at hl 1 rfl) ?_
        refine lv_aload_n hx hb d_L_beginDay_11 rfl (lv_at hl 2 rfl) ?_
        have hA1 := hS.1
        refine va_callv (va_runV (As := [.int (nI a), .int (d), .ref (ad (3))]) (rest := []) ⟨hx, hb, hml, hown, hts⟩ (c_L_beginDayOf l D ad ka H.size t1 u hu a hlt ho d) (cwV 3 hts (gv mw_512 mw_513 mw_514 mw_2 mw_515) rfl rfl rfl (by decide +kernel) ⟨Nat.le_of_ble_eq_true rfl, Nat.le_of_ble_eq_true rfl⟩) ⟨PX_blind, va_recv hK hP (ci := 0) (q0 := 8 + u) rfl (at_L hu), fun U hU hW => ⟨rfl, PX_at hU hW hP hK hD⟩⟩ rfl rfl hl.1 rfl (lv_room (Nat.le_of_ble_eq_true rfl)) d_L_beginDay_12 ⟨Nat.le_of_ble_eq_true rfl, Nat.le_of_ble_eq_true rfl⟩) hS (fun q _ h => AX_up hA1 q h) (AX_up hA1) (fun t9 tq H1 locs ht hvm hw8 hB hz1 hk1 hS => ?_)
        obtain ⟨hP, hD⟩ := BX_back ht hB (AX_up hA1)
        generalize H1 = H at hP hS ⊢
        rw [hw8] at hP hD
        refine lv_iinc (v := nI (a + 1)) (lv' := [(3, .int (nI (a + 1))), (0, .ref (ad (8 + u))), (1, .int (d)), (2, .ref (ad (3)))]) hx hb d_L_beginDay_15 hl (k := 3) rfl (nI_1 _) (by decide) rfl (fun ls hl => ?_)
        refine lv_goto (tgt := 2) hx hb d_L_beginDay_18 (by decide) ?_
        exact ih (a + 1) (L_dayOf t1 u a d) H _ ls (by omega) (by omega) (OKX_dayOf ho) (lp_next hlt hF rfl) hP hD hS (lv_sub hl [1, 2, 3, 0] rfl)
  exact hloop (12 + 1) 0 t s.heap _ ls (by omega) (by omega) ho rfl hP hD hS (lv_sub hl [1, 2, 3, 0] rfl)
