def mFad (t : Mem) (j : Nat) : Mem := if 0 ≤ Op.cmpValue (FP.dcmp (FP.dmul (gD t 1009 j) 4606056518893174784) 4598175219545276416) .g then pD t 1009 j (FP.dmul (gD t 1009 j) 4606056518893174784) else pD (pD t 1009 j (FP.dmul (gD t 1009 j) 4606056518893174784)) 1009 j FP.dconst0
def mDayA (t : Mem) (j : Nat) : Mem := if gI t 1001 j = 1 then (if gI t 1006 j = gI t 1 0 - 1 then t else mFad t j) else t
def mDayB (t : Mem) (j : Nat) : Mem := if gI t 1001 j = 0 then (if gI t 1003 j = gI t 1 0 - 5 then pI t 1001 j (-1) else t) else t
def mDayC (t : Mem) (j : Nat) (a x : Int32) : Mem := if gI t 1001 j = 2 then (if (gI t 1 0 - gI t 1003 j) - (gI t 1 0 - gI t 1003 j) / 3 * 3 = 0 then (if gI t 1005 j = 3 then mSend (pI t 1001 j (-1)) a x 6 0 else mSend (pI t 1005 j (gI t 1005 j + 1)) a x 5 (gI t 1005 j + 1)) else t) else t
def mDay (t : Mem) (j : Nat) (a x : Int32) : Mem := mDayC (mDayB (mDayA t j) j) j a x
theorem SM_A {t : Mem} {B j : Nat} (h : SM t B) : SM (mDayA t j) B := by
  unfold mDayA mFad
  split
  · split
    · exact h
    · split <;> exact h
  · exact h
theorem SM_B {t : Mem} {B j : Nat} (h : SM t B) : SM (mDayB t j) B := by
  unfold mDayB
  split
  · split
    · exact SM_f h (by decide)
    · exact h
  · exact h
set_option maxHeartbeats 4000000 in
set_option maxRecDepth 100000 in
theorem c_M_confirm (l : Launch) (D : va_G) (ad : Nat → Nat) (ka : Nat → ClassId) (sz : Nat) (t : Mem) (k0 : Int32) : Met l y_M_confirm (Cond.code y_M_confirm b_M_confirm 3 (some .int) :: big) ({ frames := 1, cells := 0, slots := 0, locals := 21 }) (va_Pc [.ref (ad (0)), .int (k0)] (PM D ad ka sz t)) (va_Qi (fun (r : Int32) (t' : Mem) => (∃ j, j < 36 ∧ mMch t k0 j ∧ (∀ i, i < j → ¬ mMch t k0 i) ∧ r = nI (j % 12) ∧ t' = pD (pI (pI (pI t 0 0 0) 1001 j 1) 1003 j (gI t 1 0)) 1009 j FP.dconst0) ∨ ((∀ i, i < 36 → ¬ mMch t k0 i) ∧ r = 0 ∧ t' = pI t 0 0 1)) (BM D ad ka sz) (AM ad sz)) 0 0 (AM ad sz) := by
  refine Met.ofW (cc := b_M_confirm) (maxL := 3) (ret := (some .int)) (by decide) rfl ?_
  intro p e s m args below meth c s₁ B hml hv
  obtain ⟨rfl, hsz, hP, hK, hD0⟩ := hv
  have hx := B.exec
  have hb := B.bytes
  have hr := B.returns
  have hlocks := B.notSynchronized
  have hts := atoms_spec (ws := Cond.code y_M_confirm b_M_confirm 3 (some .int) :: big) B.pre
  have hown : s.vm.findClass "ListForgeModel" = some m.cls := findClass_of_methodNamed B.named
  subst hsz
  have hD : va_D (AM ad s.heap.size) (mw ad ka t) := AM_D hD0
  have hS : va_S (AM ad s.heap.size) s.heap s.heap [] := va_S.rf
  have hl := lv_entry ([.ref (ad (0)), .int (k0)]) (n := 3) (Nat.le_of_ble_eq_true rfl)
  rw [lg_entry_eq]
  generalize (lg_sl ([.ref (ad (0)), .int (k0)]) ++ List.replicate (3 - (lg_sl ([.ref (ad (0)), .int (k0)])).length) Slot.unset).toArray = ls at hl ⊢
  have hl : lv_has ls 3 [(0, .ref (ad (0))), (1, .int (k0))] := hl

  refine lv_iconst (v := 0) hx hb d_M_confirm_0 (by decide) ?_
  refine lv_istore_n (lv' := [(2, .int (0)), (0, .ref (ad (0))), (1, .int (k0))]) hx hb d_M_confirm_1 rfl hl (by decide) rfl (fun ls hl => ?_)
  have hloop1 : ∀ (n a1 : Nat) (t11 : Mem) (H : Heap) (locs : List Loc) (ls : Array Slot), a1 ≤ 36 → 36 + 1 ≤ a1 + n → (t11 = t ∧ (∀ i, i < a1 → ¬ mMch t k0 i)) → lp (fun _ (z : Unit) => z) (36 - a1) a1 () = lp (fun _ (z : Unit) => z) 36 0 () → va_P D clm (mw ad ka t11) H → va_D (AM ad s.heap.size) (mw ad ka t11) → va_S (AM ad s.heap.size) s.heap H locs → lv_has ls 3 [(0, .ref (ad (0))), (1, .int (k0)), (2, .int (nI a1))] → W p l e ({ frames := 1, cells := 0, slots := 0, locals := 21 }) s m ([.ref (ad (0)), .int (k0)] : List Value).toArray below meth c H locs 0 0 (MQ below (va_Qi (fun (r : Int32) (t' : Mem) => (∃ j, j < 36 ∧ mMch t k0 j ∧ (∀ i, i < j → ¬ mMch t k0 i) ∧ r = nI (j % 12) ∧ t' = pD (pI (pI (pI t 0 0 0) 1001 j 1) 1003 j (gI t 1 0)) 1009 j FP.dconst0) ∨ ((∀ i, i < 36 → ¬ mMch t k0 i) ∧ r = 0 ∧ t' = pI t 0 0 1)) (BM D ad ka s.heap.size) (AM ad s.heap.size)) ([.ref (ad (0)), .int (k0)] : List Value).toArray s 0 0 (AM ad s.heap.size)) (F0 m 2 ls []) := by
    intro n
    induction n with
    | zero => intro a1 t11 H locs ls h1 h2; exact absurd h2 (by omega)
    | succ n ih1 =>
      intro a1 t11 H locs ls ha1 hn1 ho1 hF1 hP hD hS hl
      refine lv_iload_n hx hb d_M_confirm_2 rfl (lv_at hl 2 rfl) ?_
      refine lv_bipush (v := 36) hx hb d_M_confirm_3 (by decide) ?_
      refine lv_icmp_ge (tgt := 70) hx hb d_M_confirm_5 (by decide) (fun c1 => ?_) (fun c1 => ?_)
      · have _u : True := trivial
        obtain rfl := nI_eq_of (x := 36) (N := 36) (rfl) (by decide) ha1 c1
        have hE1 := lp_end hF1
        refine lv_aload_n hx hb d_M_confirm_70 rfl (lv_at hl 0 rfl) ?_
        refine lv_iconst (v := 1) hx hb d_M_confirm_71 (by decide) ?_
        have hA1 := hS.1
        refine va_calli (va_runV (As := [.int (1)]) (rest := []) ⟨hx, hb, hml, hown, hts⟩ (c_M_refuse l D ad ka H.size t11 1) (cwV 1 hts (gv mw_699 mw_701 (big_sel (i := 4) (by decide +kernel) (by decide +kernel)) mw_6 mw_702) rfl rfl rfl (by decide +kernel) ⟨Nat.le_of_ble_eq_true rfl, Nat.le_of_ble_eq_true rfl⟩) ⟨PM_blind, va_recv hK hP (ci := 0) (q0 := 0) rfl (at_M), fun U hU hW => ⟨rfl, PM_at hU hW hP hK hD⟩⟩ rfl rfl hl.1 rfl (lv_room (Nat.le_of_ble_eq_true rfl)) d_M_confirm_72 ⟨Nat.le_of_ble_eq_true rfl, Nat.le_of_ble_eq_true rfl⟩) hS (fun q _ h => AM_up hA1 q h) (AM_up hA1) (fun r2 t4 tq H1 locs ht hvm hw3 hB hz1 hk1 hS => ?_)
        obtain ⟨hP, hD⟩ := BM_back ht hB (AM_up hA1)
        generalize H1 = H at hP hS ⊢
        obtain ⟨hwr, hwt⟩ := hw3
        rw [hwt] at hP hD
        rw [hwr]
        exact W.iret (v := 0) hx hb hr (fun t9 ht hW => ⟨⟨0, (pI t11 0 0 1), rfl, (Or.inr ⟨ho1.2, rfl, by rw [ho1.1]⟩), BM_at ht hW hP hK hD⟩, hS.F ht⟩) hS.2.2 d_M_confirm_75
      · have _u : True := trivial
        have hlt1 : a1 < 36 := nI_lt_of (x := 36) (N := 36) (rfl) ha1 c1
        refine lv_aload_n hx hb d_M_confirm_8 rfl (lv_at hl 0 rfl) ?_
        refine g_M_state hx hb hts hown hK hP mw_595 d_M_confirm_9 ?_
        refine lv_iload_n hx hb d_M_confirm_12 rfl (lv_at hl 2 rfl) ?_
        refine g_m_state hx hb hK hP (r := a1) hlt1 rfl d_M_confirm_13 ?_
        refine lv_if_ne (tgt := 64) hx hb d_M_confirm_14 (by decide) (fun c5 => ?_) (fun c5 => ?_)
        · have _u : True := trivial
          refine lv_iinc (v := nI (a1 + 1)) (lv' := [(2, .int (nI (a1 + 1))), (0, .ref (ad (0))), (1, .int (k0))]) hx hb d_M_confirm_64 hl (k := 2) rfl (nI_1 _) (by decide) rfl (fun ls hl => ?_)
          refine lv_goto (tgt := 2) hx hb d_M_confirm_67 (by decide) ?_
          exact ih1 (a1 + 1) t11 H _ ls (by omega) (by omega) ⟨ho1.1, fun i hi => (Nat.lt_or_ge i a1).elim (ho1.2 i) (fun z => by rw [show i = a1 by omega, mMch, ← ho1.1]; simp [c5])⟩ (lp_next hlt1 hF1 rfl) hP hD hS (lv_sub hl [1, 2, 0] rfl)
        · have _u : True := trivial
          refine lv_aload_n hx hb d_M_confirm_17 rfl (lv_at hl 0 rfl) ?_
          refine g_M_code hx hb hts hown hK hP mw_598 d_M_confirm_18 ?_
          refine lv_iload_n hx hb d_M_confirm_21 rfl (lv_at hl 2 rfl) ?_
          refine g_m_code hx hb hK hP (r := a1) hlt1 rfl d_M_confirm_22 ?_
          refine lv_iload_n hx hb d_M_confirm_23 rfl (lv_at hl 1 rfl) ?_
          refine lv_icmp_eq (tgt := 30) hx hb d_M_confirm_24 (by decide) (fun c6 => ?_) (fun c6 => ?_)
          · have _u : True := trivial
            refine lv_aload_n hx hb d_M_confirm_30 rfl (lv_at hl 0 rfl) ?_
            refine lv_iconst (v := 0) hx hb d_M_confirm_31 (by decide) ?_
            refine p_M_thrown hx hb hts hown hK hP hD hS mw_590 d_M_confirm_32 (fun H locs hP hD hS => ?_)
            refine lv_aload_n hx hb d_M_confirm_35 rfl (lv_at hl 0 rfl) ?_
            refine g_M_state hx hb hts hown hK hP mw_595 d_M_confirm_36 ?_
            refine lv_iload_n hx hb d_M_confirm_39 rfl (lv_at hl 2 rfl) ?_
            refine lv_iconst (v := 1) hx hb d_M_confirm_40 (by decide) ?_
            refine p_m_state hx hb hK hP hD hS (r := a1) hlt1 rfl d_M_confirm_41 (fun H locs hP hD hS => ?_)
            refine lv_aload_n hx hb d_M_confirm_42 rfl (lv_at hl 0 rfl) ?_
            refine g_M_since hx hb hts hown hK hP mw_597 d_M_confirm_43 ?_
            refine lv_iload_n hx hb d_M_confirm_46 rfl (lv_at hl 2 rfl) ?_
            refine lv_aload_n hx hb d_M_confirm_47 rfl (lv_at hl 0 rfl) ?_
            refine g_M_today hx hb hts hown hK hP mw_591 d_M_confirm_48 ?_
            refine p_m_since hx hb hK hP hD hS (r := a1) hlt1 rfl d_M_confirm_51 (fun H locs hP hD hS => ?_)
            refine lv_aload_n hx hb d_M_confirm_52 rfl (lv_at hl 0 rfl) ?_
            refine g_M_score hx hb hts hown hK hP mw_603 d_M_confirm_53 ?_
            refine lv_iload_n hx hb d_M_confirm_56 rfl (lv_at hl 2 rfl) ?_
            refine lv_dconst0 hx hb d_M_confirm_57 ?_
            refine p_m_score hx hb hK hP hD hS (r := a1) hlt1 rfl d_M_confirm_58 (fun H locs hP hD hS => ?_)
            refine lv_iload_n hx hb d_M_confirm_59 rfl (lv_at hl 2 rfl) ?_
            refine lv_bipush (v := 12) hx hb d_M_confirm_60 (by decide) ?_
            refine lv_irem hx hb d_M_confirm_62 (by decide) ?_
            exact W.iret (v := (nI a1) - (nI a1) / 12 * 12) hx hb hr (fun t9 ht hW => ⟨⟨(nI a1) - (nI a1) / 12 * 12, (pD (pI (pI (pI t11 0 0 0) 1001 a1 1) 1003 a1 (gI (pI (pI t11 0 0 0) 1001 a1 1) 1 0)) 1009 a1 FP.dconst0), rfl, (Or.inl ⟨a1, hlt1, by rw [mMch, ← ho1.1]; exact ⟨c5, c6⟩, ho1.2, pk_rem (d := 12) (by omega) (by decide) (by decide), by rw [← ho1.1]; simp [gI_pI]⟩), BM_at ht hW hP hK hD⟩, hS.F ht⟩) hS.2.2 d_M_confirm_63
          · have _u : True := trivial
            refine lv_goto (tgt := 64) hx hb d_M_confirm_27 (by decide) ?_
            refine lv_iinc (v := nI (a1 + 1)) (lv' := [(2, .int (nI (a1 + 1))), (0, .ref (ad (0))), (1, .int (k0))]) hx hb d_M_confirm_64 hl (k := 2) rfl (nI_1 _) (by decide) rfl (fun ls hl => ?_)
            refine lv_goto (tgt := 2) hx hb d_M_confirm_67 (by decide) ?_
            exact ih1 (a1 + 1) t11 H _ ls (by omega) (by omega) ⟨ho1.1, fun i hi => (Nat.lt_or_ge i a1).elim (ho1.2 i) (fun z => by rw [show i = a1 by omega, mMch, ← ho1.1]; simp [c5, c6])⟩ (lp_next hlt1 hF1 rfl) hP hD hS (lv_sub hl [1, 2, 0] rfl)
  exact hloop1 (36 + 1) 0 t s.heap _ ls (by omega) (by omega) ⟨rfl, fun i hi => absurd hi (by omega)⟩ rfl hP hD hS (lv_sub hl [1, 2, 0] rfl)
set_option maxHeartbeats 4000000 in
set_option maxRecDepth 100000 in
theorem c_M_sent (l : Launch) (D : va_G) (ad : Nat → Nat) (ka : Nat → ClassId) (sz : Nat) (t : Mem) (k w : Int32) : Met l y_M_sent (Cond.code y_M_sent b_M_sent 3 (some .int) :: big) ({ frames := 1, cells := 0, slots := 0, locals := 22 }) (va_Pc [.ref (ad (0)), .int (k), .int (w)] (PM D ad ka sz t)) (va_Qi (fun (r : Int32) (t' : Mem) => mSent t k w = (r, t')) (BM D ad ka sz) (AM ad sz)) 0 0 (AM ad sz) := by
  refine Met.ofW (cc := b_M_sent) (maxL := 3) (ret := (some .int)) (by decide) rfl ?_
  intro p e s m args below meth c s₁ B hml hv
  obtain ⟨rfl, hsz, hP, hK, hD0⟩ := hv
  have hx := B.exec
  have hb := B.bytes
  have hr := B.returns
  have hlocks := B.notSynchronized
  have hts := atoms_spec (ws := Cond.code y_M_sent b_M_sent 3 (some .int) :: big) B.pre
  have hown : s.vm.findClass "ListForgeModel" = some m.cls := findClass_of_methodNamed B.named
  subst hsz
  have hD : va_D (AM ad s.heap.size) (mw ad ka t) := AM_D hD0
  have hS : va_S (AM ad s.heap.size) s.heap s.heap [] := va_S.rf
  have hl := lv_entry ([.ref (ad (0)), .int (k), .int (w)]) (n := 3) (Nat.le_of_ble_eq_true rfl)
  rw [lg_entry_eq]
  generalize (lg_sl ([.ref (ad (0)), .int (k), .int (w)]) ++ List.replicate (3 - (lg_sl ([.ref (ad (0)), .int (k), .int (w)])).length) Slot.unset).toArray = ls at hl ⊢
  have hl : lv_has ls 3 [(0, .ref (ad (0))), (1, .int (k)), (2, .int (w))] := hl

  refine lv_iload_n hx hb d_M_sent_0 rfl (lv_at hl 2 rfl) ?_
  refine lv_iconst (v := 0) hx hb d_M_sent_1 (by decide) ?_
  refine lv_iconst (v := 3) hx hb d_M_sent_2 (by decide) ?_
  have hA1 := hS.1
  refine va_calli (va_runS (As := [.int (w), .int (0), .int (3)]) (rest := []) ⟨hx, hb, hml, hown, hts⟩ (c_M_in l D ad ka s.heap.size t w 0 3) (cwS 3 hts (gs mw_696 mw_697 mw_6 mw_698) rfl rfl rfl (by decide +kernel) ⟨Nat.le_of_ble_eq_true rfl, Nat.le_of_ble_eq_true rfl⟩) ⟨PM_blind, fun U hU hW => ⟨rfl, PM_at hU hW hP hK hD⟩⟩ rfl rfl hl.1 rfl (lv_room (Nat.le_of_ble_eq_true rfl)) d_M_sent_3 ⟨Nat.le_of_ble_eq_true rfl, Nat.le_of_ble_eq_true rfl⟩) hS (fun q _ h => AM_up hA1 q h) (AM_up hA1) (fun r1 t3 tq H1 locs ht hvm hw2 hB hz1 hk1 hS => ?_)
  obtain ⟨hP, hD⟩ := BM_back ht hB (AM_up hA1)
  generalize H1 = H at hP hS ⊢
  obtain ⟨hwr, hwt⟩ := hw2
  rw [hwt] at hP hD
  rw [hwr]
  refine lv_if_ne (tgt := 15) hx hb d_M_sent_6 (by decide) (fun c4 => ?_) (fun c4 => ?_)
  · have _u : True := trivial
    refine lv_iload_n hx hb d_M_sent_15 rfl (lv_at hl 1 rfl) ?_
    refine lv_iconst (v := 0) hx hb d_M_sent_16 (by decide) ?_
    refine lv_bipush (v := 59) hx hb d_M_sent_17 (by decide) ?_
    have hA1 := hS.1
    refine va_calli (va_runS (As := [.int (k), .int (0), .int (59)]) (rest := []) ⟨hx, hb, hml, hown, hts⟩ (c_M_in l D ad ka H.size t k 0 59) (cwS 3 hts (gs mw_696 mw_697 mw_6 mw_698) rfl rfl rfl (by decide +kernel) ⟨Nat.le_of_ble_eq_true rfl, Nat.le_of_ble_eq_true rfl⟩) ⟨PM_blind, fun U hU hW => ⟨rfl, PM_at hU hW hP hK hD⟩⟩ rfl rfl hl.1 rfl (lv_room (Nat.le_of_ble_eq_true rfl)) d_M_sent_19 ⟨Nat.le_of_ble_eq_true rfl, Nat.le_of_ble_eq_true rfl⟩) hS (fun q _ h => AM_up hA1 q h) (AM_up hA1) (fun r5 t7 tq H1 locs ht hvm hw6 hB hz1 hk1 hS => ?_)
    obtain ⟨hP, hD⟩ := BM_back ht hB (AM_up hA1)
    generalize H1 = H at hP hS ⊢
    obtain ⟨hwr, hwt⟩ := hw6
    rw [hwt] at hP hD
    rw [hwr]
    refine lv_if_eq (tgt := 33) hx hb d_M_sent_22 (by decide) (fun c8 => ?_) (fun c8 => ?_)
    · have _u : True := trivial
      refine lv_aload_n hx hb d_M_sent_33 rfl (lv_at hl 0 rfl) ?_
      refine lv_iconst (v := 2) hx hb d_M_sent_34 (by decide) ?_
      have hA1 := hS.1
      refine va_calli (va_runV (As := [.int (2)]) (rest := []) ⟨hx, hb, hml, hown, hts⟩ (c_M_refuse l D ad ka H.size t 2) (cwV 1 hts (gv mw_699 mw_701 (big_sel (i := 4) (by decide +kernel) (by decide +kernel)) mw_6 mw_702) rfl rfl rfl (by decide +kernel) ⟨Nat.le_of_ble_eq_true rfl, Nat.le_of_ble_eq_true rfl⟩) ⟨PM_blind, va_recv hK hP (ci := 0) (q0 := 0) rfl (at_M), fun U hU hW => ⟨rfl, PM_at hU hW hP hK hD⟩⟩ rfl rfl hl.1 rfl (lv_room (Nat.le_of_ble_eq_true rfl)) d_M_sent_35 ⟨Nat.le_of_ble_eq_true rfl, Nat.le_of_ble_eq_true rfl⟩) hS (fun q _ h => AM_up hA1 q h) (AM_up hA1) (fun r9 t11 tq H1 locs ht hvm hw10 hB hz1 hk1 hS => ?_)
      obtain ⟨hP, hD⟩ := BM_back ht hB (AM_up hA1)
      generalize H1 = H at hP hS ⊢
      obtain ⟨hwr, hwt⟩ := hw10
      rw [hwt] at hP hD
      rw [hwr]
      exact W.iret (v := 0) hx hb hr (fun t9 ht hW => ⟨⟨0, (pI t 0 0 2), rfl, (by first | (simp [mSent, gI_pI, c4, c8]; done) | (simp [mSent, gI_pI, hcq, c4, c8] <;> decide) | (unfold mSent; rw [if_neg c4, if_neg c8, if_pos c8]; simp [gI_pI, hcq, hcq]; done)), BM_at ht hW hP hK hD⟩, hS.F ht⟩) hS.2.2 d_M_sent_38
    · have _u : True := trivial
      obtain ⟨q, hq, hkq⟩ := isW_n (n := 59) (by decide) c8
      have hcq : cl k = q := cl_of hkq (by omega)
      refine lv_iload_n hx hb d_M_sent_25 rfl (lv_at hl 1 rfl) ?_
      refine lv_aload_n hx hb d_M_sent_26 rfl (lv_at hl 0 rfl) ?_
      refine g_M_sentMany hx hb hts hown hK hP mw_594 d_M_sent_27 ?_
      refine lv_icmp_lt (tgt := 39) hx hb d_M_sent_30 (by decide) (fun c12 => ?_) (fun c12 => ?_)
      · have _u : True := trivial
        refine lv_aload_n hx hb d_M_sent_39 rfl (lv_at hl 0 rfl) ?_
        refine lv_iconst (v := 0) hx hb d_M_sent_40 (by decide) ?_
        refine p_M_thrown hx hb hts hown hK hP hD hS mw_590 d_M_sent_41 (fun H locs hP hD hS => ?_)
        refine lv_iload_n hx hb d_M_sent_44 rfl (lv_at hl 2 rfl) ?_
        refine lv_if_ne (tgt := 57) hx hb d_M_sent_45 (by decide) (fun c13 => ?_) (fun c13 => ?_)
        · have _u : True := trivial
          refine lv_iload_n hx hb d_M_sent_57 rfl (lv_at hl 2 rfl) ?_
          refine lv_iconst (v := 1) hx hb d_M_sent_58 (by decide) ?_
          refine lv_icmp_ne (tgt := 71) hx hb d_M_sent_59 (by decide) (fun c14 => ?_) (fun c14 => ?_)
          · have _u : True := trivial
            refine lv_iload_n hx hb d_M_sent_71 rfl (lv_at hl 2 rfl) ?_
            refine lv_iconst (v := 2) hx hb d_M_sent_72 (by decide) ?_
            refine lv_icmp_ne (tgt := 85) hx hb d_M_sent_73 (by decide) (fun c15 => ?_) (fun c15 => ?_)
            · have _u : True := trivial
              refine lv_aload_n hx hb d_M_sent_85 rfl (lv_at hl 0 rfl) ?_
              refine g_M_outNumber hx hb hts hown hK hP mw_620 d_M_sent_86 ?_
              refine lv_iload_n hx hb d_M_sent_89 rfl (lv_at hl 1 rfl) ?_
              refine g_m_outNumber hx hb hK hP (r := q) hq hkq d_M_sent_90 ?_
              exact W.iret (v := gI (pI t 0 0 0) 1026 q) hx hb hr (fun t9 ht hW => ⟨⟨gI (pI t 0 0 0) 1026 q, (pI t 0 0 0), rfl, (by first | (simp [mSent, gI_pI, c4, c8, c12, c13, c14, c15]; done) | (simp [mSent, gI_pI, hcq, c4, c8, c12, c13, c14, c15] <;> decide) | (unfold mSent; rw [if_neg c4, if_neg c8, if_pos c12]; simp [gI_pI, hcq, c13, c14, c15]; done)), BM_at ht hW hP hK hD⟩, hS.F ht⟩) hS.2.2 d_M_sent_91
            · have _u : True := trivial
              refine lv_aload_n hx hb d_M_sent_76 rfl (lv_at hl 0 rfl) ?_
              refine g_M_outSort hx hb hts hown hK hP mw_619 d_M_sent_77 ?_
              refine lv_iload_n hx hb d_M_sent_80 rfl (lv_at hl 1 rfl) ?_
              refine g_m_outSort hx hb hK hP (r := q) hq hkq d_M_sent_81 ?_
              refine lv_goto (tgt := 91) hx hb d_M_sent_82 (by decide) ?_
              exact W.iret (v := gI (pI t 0 0 0) 1025 q) hx hb hr (fun t9 ht hW => ⟨⟨gI (pI t 0 0 0) 1025 q, (pI t 0 0 0), rfl, (by first | (simp [mSent, gI_pI, c4, c8, c12, c13, c14, c15]; done) | (simp [mSent, gI_pI, hcq, c4, c8, c12, c13, c14, c15] <;> decide) | (unfold mSent; rw [if_neg c4, if_neg c8, if_pos c12]; simp [gI_pI, hcq, c13, c14, c15]; done)), BM_at ht hW hP hK hD⟩, hS.F ht⟩) hS.2.2 d_M_sent_91
          · have _u : True := trivial
            refine lv_aload_n hx hb d_M_sent_62 rfl (lv_at hl 0 rfl) ?_
            refine g_M_outList hx hb hts hown hK hP mw_618 d_M_sent_63 ?_
            refine lv_iload_n hx hb d_M_sent_66 rfl (lv_at hl 1 rfl) ?_
            refine g_m_outList hx hb hK hP (r := q) hq hkq d_M_sent_67 ?_
            refine lv_goto (tgt := 91) hx hb d_M_sent_68 (by decide) ?_
            exact W.iret (v := gI (pI t 0 0 0) 1024 q) hx hb hr (fun t9 ht hW => ⟨⟨gI (pI t 0 0 0) 1024 q, (pI t 0 0 0), rfl, (by first | (simp [mSent, gI_pI, c4, c8, c12, c13, c14]; done) | (simp [mSent, gI_pI, hcq, c4, c8, c12, c13, c14] <;> decide) | (unfold mSent; rw [if_neg c4, if_neg c8, if_pos c12]; simp [gI_pI, hcq, c13, c14]; done)), BM_at ht hW hP hK hD⟩, hS.F ht⟩) hS.2.2 d_M_sent_91
        · have _u : True := trivial
          refine lv_aload_n hx hb d_M_sent_48 rfl (lv_at hl 0 rfl) ?_
          refine g_M_outTo hx hb hts hown hK hP mw_617 d_M_sent_49 ?_
          refine lv_iload_n hx hb d_M_sent_52 rfl (lv_at hl 1 rfl) ?_
          refine g_m_outTo hx hb hK hP (r := q) hq hkq d_M_sent_53 ?_
          refine lv_goto (tgt := 91) hx hb d_M_sent_54 (by decide) ?_
          exact W.iret (v := gI (pI t 0 0 0) 1023 q) hx hb hr (fun t9 ht hW => ⟨⟨gI (pI t 0 0 0) 1023 q, (pI t 0 0 0), rfl, (by first | (simp [mSent, gI_pI, c4, c8, c12, c13]; done) | (simp [mSent, gI_pI, hcq, c4, c8, c12, c13] <;> decide) | (unfold mSent; rw [if_neg c4, if_neg c8, if_pos c12]; simp [gI_pI, hcq, c13]; done)), BM_at ht hW hP hK hD⟩, hS.F ht⟩) hS.2.2 d_M_sent_91
      · have _u : True := trivial
        refine lv_aload_n hx hb d_M_sent_33 rfl (lv_at hl 0 rfl) ?_
        refine lv_iconst (v := 2) hx hb d_M_sent_34 (by decide) ?_
        have hA1 := hS.1
        refine va_calli (va_runV (As := [.int (2)]) (rest := []) ⟨hx, hb, hml, hown, hts⟩ (c_M_refuse l D ad ka H.size t 2) (cwV 1 hts (gv mw_699 mw_701 (big_sel (i := 4) (by decide +kernel) (by decide +kernel)) mw_6 mw_702) rfl rfl rfl (by decide +kernel) ⟨Nat.le_of_ble_eq_true rfl, Nat.le_of_ble_eq_true rfl⟩) ⟨PM_blind, va_recv hK hP (ci := 0) (q0 := 0) rfl (at_M), fun U hU hW => ⟨rfl, PM_at hU hW hP hK hD⟩⟩ rfl rfl hl.1 rfl (lv_room (Nat.le_of_ble_eq_true rfl)) d_M_sent_35 ⟨Nat.le_of_ble_eq_true rfl, Nat.le_of_ble_eq_true rfl⟩) hS (fun q _ h => AM_up hA1 q h) (AM_up hA1) (fun r16 t18 tq H1 locs ht hvm hw17 hB hz1 hk1 hS => ?_)
        obtain ⟨hP, hD⟩ := BM_back ht hB (AM_up hA1)
        generalize H1 = H at hP hS ⊢
        obtain ⟨hwr, hwt⟩ := hw17
        rw [hwt] at hP hD
        rw [hwr]
        exact W.iret (v := 0) hx hb hr (fun t9 ht hW => ⟨⟨0, (pI t 0 0 2), rfl, (by first | (simp [mSent, gI_pI, c4, c8, c12]; done) | (simp [mSent, gI_pI, hcq, c4, c8, c12] <;> decide) | (unfold mSent; rw [if_neg c4, if_neg c8, if_pos c12]; simp [gI_pI, hcq, hcq]; done)), BM_at ht hW hP hK hD⟩, hS.F ht⟩) hS.2.2 d_M_sent_38
  · have _u : True := trivial
    refine lv_aload_n hx hb d_M_sent_9 rfl (lv_at hl 0 rfl) ?_
    refine lv_iconst (v := 1) hx hb d_M_sent_10 (by decide) ?_
    have hA1 := hS.1
    refine va_calli (va_runV (As := [.int (1)]) (rest := []) ⟨hx, hb, hml, hown, hts⟩ (c_M_refuse l D ad ka H.size t 1) (cwV 1 hts (gv mw_699 mw_701 (big_sel (i := 4) (by decide +kernel) (by decide +kernel)) mw_6 mw_702) rfl rfl rfl (by decide +kernel) ⟨Nat.le_of_ble_eq_true rfl, Nat.le_of_ble_eq_true rfl⟩) ⟨PM_blind, va_recv hK hP (ci := 0) (q0 := 0) rfl (at_M), fun U hU hW => ⟨rfl, PM_at hU hW hP hK hD⟩⟩ rfl rfl hl.1 rfl (lv_room (Nat.le_of_ble_eq_true rfl)) d_M_sent_11 ⟨Nat.le_of_ble_eq_true rfl, Nat.le_of_ble_eq_true rfl⟩) hS (fun q _ h => AM_up hA1 q h) (AM_up hA1) (fun r19 t21 tq H1 locs ht hvm hw20 hB hz1 hk1 hS => ?_)
    obtain ⟨hP, hD⟩ := BM_back ht hB (AM_up hA1)
    generalize H1 = H at hP hS ⊢
    obtain ⟨hwr, hwt⟩ := hw20
    rw [hwt] at hP hD
    rw [hwr]
    exact W.iret (v := 0) hx hb hr (fun t9 ht hW => ⟨⟨0, (pI t 0 0 1), rfl, (by first | (simp [mSent, gI_pI, c4]; done) | (simp [mSent, gI_pI, hcq, c4] <;> decide) | (unfold mSent; rw [if_neg c4, if_neg c4, if_pos c4]; simp [gI_pI, hcq, hcq]; done)), BM_at ht hW hP hK hD⟩, hS.F ht⟩) hS.2.2 d_M_sent_14
set_option maxHeartbeats 4000000 in
set_option maxRecDepth 100000 in
theorem c_M_day (l : Launch) (D : va_G) (ad : Nat → Nat) (ka : Nat → ClassId) (sz : Nat) (t : Mem) (Bd : Nat) (hBd : Bd < 1000000000) (hm : SM t Bd) (hnn : ∀ j, NN (gD t 1009 j)) (u : Nat) (hu : u < 3) (x : Int32) (hxu : x = nI u) (a0 : Nat) (ha0 : a0 < 12) (a : Int32) (hau : a = nI a0) : Met l y_M_day (Cond.code y_M_day b_M_day 4 none :: big) ({ frames := 1, cells := 0, slots := 0, locals := 24 }) (va_Pc [.ref (ad (0)), .int (x), .int (a)] (PM D ad ka sz t)) (va_Qv (fun t' : Mem => t' = mDay t (12 * u + a0) a x) (BM D ad ka sz) (AM ad sz)) 0 0 (AM ad sz) := by
  refine Met.ofW (cc := b_M_day) (maxL := 4) (ret := none) (by decide) rfl ?_
  intro p e s m args below meth c s₁ B hml hv
  obtain ⟨rfl, hsz, hP, hK, hD0⟩ := hv
  have hx := B.exec
  have hb := B.bytes
  have hr := B.returns
  have hlocks := B.notSynchronized
  have hts := atoms_spec (ws := Cond.code y_M_day b_M_day 4 none :: big) B.pre
  have hown : s.vm.findClass "ListForgeModel" = some m.cls := findClass_of_methodNamed B.named
  subst hsz
  have hD : va_D (AM ad s.heap.size) (mw ad ka t) := AM_D hD0
  have hS : va_S (AM ad s.heap.size) s.heap s.heap [] := va_S.rf
  have hl := lv_entry ([.ref (ad (0)), .int (x), .int (a)]) (n := 4) (Nat.le_of_ble_eq_true rfl)
  rw [lg_entry_eq]
  generalize (lg_sl ([.ref (ad (0)), .int (x), .int (a)]) ++ List.replicate (4 - (lg_sl ([.ref (ad (0)), .int (x), .int (a)])).length) Slot.unset).toArray = ls at hl ⊢
  have hl : lv_has ls 4 [(0, .ref (ad (0))), (1, .int (x)), (2, .int (a))] := hl

  have hs9 := s_of hxu hau
  have hJ95 : ∀ (t95 : Mem) (H : Heap) (locs : List Loc) (ls : Array Slot), t95 = mDayB (mDayA t (12 * u + a0)) (12 * u + a0) → va_P D clm (mw ad ka t95) H → va_D (AM ad s.heap.size) (mw ad ka t95) → va_S (AM ad s.heap.size) s.heap H locs → lv_has ls 4 [(0, .ref (ad (0))), (1, .int (x)), (2, .int (a)), (3, .int ((12 * x) + a))] → W p l e ({ frames := 1, cells := 0, slots := 0, locals := 24 }) s m ([.ref (ad (0)), .int (x), .int (a)] : List Value).toArray below meth c H locs 0 0 (MQ below (va_Qv (fun t' : Mem => t' = mDay t (12 * u + a0) a x) (BM D ad ka s.heap.size) (AM ad s.heap.size)) ([.ref (ad (0)), .int (x), .int (a)] : List Value).toArray s 0 0 (AM ad s.heap.size)) (F0 m 95 ls []) := by
    intro t95 H locs ls hC95 hP hD hS hl
    refine lv_aload_n hx hb d_M_day_95 rfl (lv_at hl 0 rfl) ?_
    refine g_M_state hx hb hts hown hK hP mw_595 d_M_day_96 ?_
    refine lv_iload_n hx hb d_M_day_99 rfl (lv_at hl 3 rfl) ?_
    refine g_m_state hx hb hK hP (r := (12 * u + a0)) (by omega) hs9 d_M_day_100 ?_
    refine lv_iconst (v := 2) hx hb d_M_day_101 (by decide) ?_
    refine lv_icmp_ne (tgt := 121) hx hb d_M_day_102 (by decide) (fun c1 => ?_) (fun c1 => ?_)
    · have _u : True := trivial
      exact W.vret hx hb hr (fun t9 ht hW => ⟨⟨t95, rfl, (by unfold mDay; rw [← hC95]; (try simp [gI_pI, gI_pD, gD_pI, gD_pD] at c1); simp [mDayC, gI_pI, gI_pD, gD_pI, gD_pD, c1]), BM_at ht hW hP hK hD⟩, hS.F ht⟩) hS.2.2 d_M_day_121
    · have _u : True := trivial
      refine lv_aload_n hx hb d_M_day_105 rfl (lv_at hl 0 rfl) ?_
      refine g_M_today hx hb hts hown hK hP mw_591 d_M_day_106 ?_
      refine lv_aload_n hx hb d_M_day_109 rfl (lv_at hl 0 rfl) ?_
      refine g_M_since hx hb hts hown hK hP mw_597 d_M_day_110 ?_
      refine lv_iload_n hx hb d_M_day_113 rfl (lv_at hl 3 rfl) ?_
      refine g_m_since hx hb hK hP (r := (12 * u + a0)) (by omega) hs9 d_M_day_114 ?_
      refine lv_isub hx hb d_M_day_115 ?_
      refine lv_iconst (v := 3) hx hb d_M_day_116 (by decide) ?_
      refine lv_irem hx hb d_M_day_117 (by decide) ?_
      refine lv_if_eq (tgt := 122) hx hb d_M_day_118 (by decide) (fun c2 => ?_) (fun c2 => ?_)
      · have _u : True := trivial
        refine lv_aload_n hx hb d_M_day_122 rfl (lv_at hl 0 rfl) ?_
        refine g_M_warning hx hb hts hown hK hP mw_599 d_M_day_123 ?_
        refine lv_iload_n hx hb d_M_day_126 rfl (lv_at hl 3 rfl) ?_
        refine g_m_warning hx hb hK hP (r := (12 * u + a0)) (by omega) hs9 d_M_day_127 ?_
        refine lv_iconst (v := 3) hx hb d_M_day_128 (by decide) ?_
        refine lv_icmp_ne (tgt := 151) hx hb d_M_day_129 (by decide) (fun c3 => ?_) (fun c3 => ?_)
        · have _u : True := trivial
          refine lv_aload_n hx hb d_M_day_151 rfl (lv_at hl 0 rfl) ?_
          refine g_M_warning hx hb hts hown hK hP mw_599 d_M_day_152 ?_
          refine lv_iload_n hx hb d_M_day_155 rfl (lv_at hl 3 rfl) ?_
          refine lv_dup2_11 hx hb d_M_day_156 rfl rfl ?_
          refine g_m_warning hx hb hK hP (r := (12 * u + a0)) (by omega) hs9 d_M_day_157 ?_
          refine lv_iconst (v := 1) hx hb d_M_day_158 (by decide) ?_
          refine lv_iadd hx hb d_M_day_159 ?_
          refine p_m_warning hx hb hK hP hD hS (r := (12 * u + a0)) (by omega) hs9 d_M_day_160 (fun H locs hP hD hS => ?_)
          refine lv_aload_n hx hb d_M_day_161 rfl (lv_at hl 0 rfl) ?_
          refine lv_iload_n hx hb d_M_day_162 rfl (lv_at hl 2 rfl) ?_
          refine lv_iload_n hx hb d_M_day_163 rfl (lv_at hl 1 rfl) ?_
          refine lv_iconst (v := 5) hx hb d_M_day_164 (by decide) ?_
          refine lv_aload_n hx hb d_M_day_165 rfl (lv_at hl 0 rfl) ?_
          refine g_M_warning hx hb hts hown hK hP mw_599 d_M_day_166 ?_
          refine lv_iload_n hx hb d_M_day_169 rfl (lv_at hl 3 rfl) ?_
          refine g_m_warning hx hb hK hP (r := (12 * u + a0)) (by omega) hs9 d_M_day_170 ?_
          have hA1 := hS.1
          refine va_callv (va_runV (As := [.int (a), .int (x), .int (5), .int (gI (pI t95 1005 (12 * u + a0) ((gI t95 1005 (12 * u + a0)) + 1)) 1005 (12 * u + a0))]) (rest := []) ⟨hx, hb, hml, hown, hts⟩ (c_M_send l D ad ka H.size (pI t95 1005 (12 * u + a0) ((gI t95 1005 (12 * u + a0)) + 1)) Bd hBd (SM_f (by rw [hC95]; exact SM_B (SM_A hm)) (by decide)) a x 5 (gI (pI t95 1005 (12 * u + a0) ((gI t95 1005 (12 * u + a0)) + 1)) 1005 (12 * u + a0))) (cwV 4 hts (gv mw_703 mw_705 (big_sel (i := 5) (by decide +kernel) (by decide +kernel)) mw_6 mw_706) rfl rfl rfl (by decide +kernel) ⟨Nat.le_of_ble_eq_true rfl, Nat.le_of_ble_eq_true rfl⟩) ⟨PM_blind, va_recv hK hP (ci := 0) (q0 := 0) rfl (at_M), fun U hU hW => ⟨rfl, PM_at hU hW hP hK hD⟩⟩ rfl rfl hl.1 rfl (lv_room (Nat.le_of_ble_eq_true rfl)) d_M_day_171 ⟨Nat.le_of_ble_eq_true rfl, Nat.le_of_ble_eq_true rfl⟩) hS (fun q _ h => AM_up hA1 q h) (AM_up hA1) (fun t6 tq H1 locs ht hvm hw5 hB hz1 hk1 hS => ?_)
          obtain ⟨hP, hD⟩ := BM_back ht hB (AM_up hA1)
          generalize H1 = H at hP hS ⊢
          rw [hw5] at hP hD
          exact W.vret hx hb hr (fun t9 ht hW => ⟨⟨(mSend (pI t95 1005 (12 * u + a0) ((gI t95 1005 (12 * u + a0)) + 1)) a x 5 (gI (pI t95 1005 (12 * u + a0) ((gI t95 1005 (12 * u + a0)) + 1)) 1005 (12 * u + a0))), rfl, (by unfold mDay; rw [← hC95]; (try simp [gI_pI, gI_pD, gD_pI, gD_pD] at c1); (try simp [gI_pI, gI_pD, gD_pI, gD_pD] at c2); (try simp [gI_pI, gI_pD, gD_pI, gD_pD] at c3); simp [mDayC, gI_pI, gI_pD, gD_pI, gD_pD, c1, c2, c3]), BM_at ht hW hP hK hD⟩, hS.F ht⟩) hS.2.2 d_M_day_174
        · have _u : True := trivial
          refine lv_aload_n hx hb d_M_day_132 rfl (lv_at hl 0 rfl) ?_
          refine g_M_state hx hb hts hown hK hP mw_595 d_M_day_133 ?_
          refine lv_iload_n hx hb d_M_day_136 rfl (lv_at hl 3 rfl) ?_
          refine lv_iconst (v := -1) hx hb d_M_day_137 (by decide) ?_
          refine p_m_state hx hb hK hP hD hS (r := (12 * u + a0)) (by omega) hs9 d_M_day_138 (fun H locs hP hD hS => ?_)
          refine lv_aload_n hx hb d_M_day_139 rfl (lv_at hl 0 rfl) ?_
          refine lv_iload_n hx hb d_M_day_140 rfl (lv_at hl 2 rfl) ?_
          refine lv_iload_n hx hb d_M_day_141 rfl (lv_at hl 1 rfl) ?_
          refine lv_bipush (v := 6) hx hb d_M_day_142 (by decide) ?_
          refine lv_iconst (v := 0) hx hb d_M_day_144 (by decide) ?_
          have hA1 := hS.1
          refine va_callv (va_runV (As := [.int (a), .int (x), .int (6), .int (0)]) (rest := []) ⟨hx, hb, hml, hown, hts⟩ (c_M_send l D ad ka H.size (pI t95 1001 (12 * u + a0) (-1)) Bd hBd (SM_f (by rw [hC95]; exact SM_B (SM_A hm)) (by decide)) a x 6 0) (cwV 4 hts (gv mw_703 mw_705 (big_sel (i := 5) (by decide +kernel) (by decide +kernel)) mw_6 mw_706) rfl rfl rfl (by decide +kernel) ⟨Nat.le_of_ble_eq_true rfl, Nat.le_of_ble_eq_true rfl⟩) ⟨PM_blind, va_recv hK hP (ci := 0) (q0 := 0) rfl (at_M), fun U hU hW => ⟨rfl, PM_at hU hW hP hK hD⟩⟩ rfl rfl hl.1 rfl (lv_room (Nat.le_of_ble_eq_true rfl)) d_M_day_145 ⟨Nat.le_of_ble_eq_true rfl, Nat.le_of_ble_eq_true rfl⟩) hS (fun q _ h => AM_up hA1 q h) (AM_up hA1) (fun t9 tq H1 locs ht hvm hw8 hB hz1 hk1 hS => ?_)
          obtain ⟨hP, hD⟩ := BM_back ht hB (AM_up hA1)
          generalize H1 = H at hP hS ⊢
          rw [hw8] at hP hD
          refine lv_goto (tgt := 174) hx hb d_M_day_148 (by decide) ?_
          exact W.vret hx hb hr (fun t9 ht hW => ⟨⟨(mSend (pI t95 1001 (12 * u + a0) (-1)) a x 6 0), rfl, (by unfold mDay; rw [← hC95]; (try simp [gI_pI, gI_pD, gD_pI, gD_pD] at c1); (try simp [gI_pI, gI_pD, gD_pI, gD_pD] at c2); (try simp [gI_pI, gI_pD, gD_pI, gD_pD] at c3); simp [mDayC, gI_pI, gI_pD, gD_pI, gD_pD, c1, c2, c3]), BM_at ht hW hP hK hD⟩, hS.F ht⟩) hS.2.2 d_M_day_174
      · have _u : True := trivial
        exact W.vret hx hb hr (fun t9 ht hW => ⟨⟨t95, rfl, (by unfold mDay; rw [← hC95]; (try simp [gI_pI, gI_pD, gD_pI, gD_pD] at c1); (try simp [gI_pI, gI_pD, gD_pI, gD_pD] at c2); simp [mDayC, gI_pI, gI_pD, gD_pI, gD_pD, c1, c2]), BM_at ht hW hP hK hD⟩, hS.F ht⟩) hS.2.2 d_M_day_121
  have hJ64 : ∀ (t64 : Mem) (H : Heap) (locs : List Loc) (ls : Array Slot), t64 = mDayA t (12 * u + a0) → va_P D clm (mw ad ka t64) H → va_D (AM ad s.heap.size) (mw ad ka t64) → va_S (AM ad s.heap.size) s.heap H locs → lv_has ls 4 [(0, .ref (ad (0))), (1, .int (x)), (2, .int (a)), (3, .int ((12 * x) + a))] → W p l e ({ frames := 1, cells := 0, slots := 0, locals := 24 }) s m ([.ref (ad (0)), .int (x), .int (a)] : List Value).toArray below meth c H locs 0 0 (MQ below (va_Qv (fun t' : Mem => t' = mDay t (12 * u + a0) a x) (BM D ad ka s.heap.size) (AM ad s.heap.size)) ([.ref (ad (0)), .int (x), .int (a)] : List Value).toArray s 0 0 (AM ad s.heap.size)) (F0 m 64 ls []) := by
    intro t64 H locs ls hC64 hP hD hS hl
    refine lv_aload_n hx hb d_M_day_64 rfl (lv_at hl 0 rfl) ?_
    refine g_M_state hx hb hts hown hK hP mw_595 d_M_day_65 ?_
    refine lv_iload_n hx hb d_M_day_68 rfl (lv_at hl 3 rfl) ?_
    refine g_m_state hx hb hK hP (r := (12 * u + a0)) (by omega) hs9 d_M_day_69 ?_
    refine lv_if_ne (tgt := 95) hx hb d_M_day_70 (by decide) (fun c10 => ?_) (fun c10 => ?_)
    · have _u : True := trivial
      exact hJ95 t64  _ _ ls (by rw [← hC64]; (try simp [gI_pI, gI_pD, gD_pI, gD_pD] at c10); simp [mDayB, gI_pI, gI_pD, gD_pI, gD_pD, c10]) hP hD hS (lv_sub hl [0, 1, 2, 3] rfl)
    · have _u : True := trivial
      refine lv_aload_n hx hb d_M_day_73 rfl (lv_at hl 0 rfl) ?_
      refine g_M_since hx hb hts hown hK hP mw_597 d_M_day_74 ?_
      refine lv_iload_n hx hb d_M_day_77 rfl (lv_at hl 3 rfl) ?_
      refine g_m_since hx hb hK hP (r := (12 * u + a0)) (by omega) hs9 d_M_day_78 ?_
      refine lv_aload_n hx hb d_M_day_79 rfl (lv_at hl 0 rfl) ?_
      refine g_M_today hx hb hts hown hK hP mw_591 d_M_day_80 ?_
      refine lv_iconst (v := 5) hx hb d_M_day_83 (by decide) ?_
      refine lv_isub hx hb d_M_day_84 ?_
      refine lv_icmp_ne (tgt := 95) hx hb d_M_day_85 (by decide) (fun c11 => ?_) (fun c11 => ?_)
      · have _u : True := trivial
        exact hJ95 t64  _ _ ls (by rw [← hC64]; (try simp [gI_pI, gI_pD, gD_pI, gD_pD] at c10); (try simp [gI_pI, gI_pD, gD_pI, gD_pD] at c11); simp [mDayB, gI_pI, gI_pD, gD_pI, gD_pD, c10, c11]) hP hD hS (lv_sub hl [0, 1, 2, 3] rfl)
      · have _u : True := trivial
        refine lv_aload_n hx hb d_M_day_88 rfl (lv_at hl 0 rfl) ?_
        refine g_M_state hx hb hts hown hK hP mw_595 d_M_day_89 ?_
        refine lv_iload_n hx hb d_M_day_92 rfl (lv_at hl 3 rfl) ?_
        refine lv_iconst (v := -1) hx hb d_M_day_93 (by decide) ?_
        refine p_m_state hx hb hK hP hD hS (r := (12 * u + a0)) (by omega) hs9 d_M_day_94 (fun H locs hP hD hS => ?_)
        exact hJ95 (pI t64 1001 (12 * u + a0) (-1))  _ _ ls (by rw [← hC64]; (try simp [gI_pI, gI_pD, gD_pI, gD_pD] at c10); (try simp [gI_pI, gI_pD, gD_pI, gD_pD] at c11); simp [mDayB, gI_pI, gI_pD, gD_pI, gD_pD, c10, c11]) hP hD hS (lv_sub hl [0, 1, 2, 3] rfl)
  refine lv_bipush (v := 12) hx hb d_M_day_0 (by decide) ?_
  refine lv_iload_n hx hb d_M_day_2 rfl (lv_at hl 1 rfl) ?_
  refine lv_imul hx hb d_M_day_3 ?_
  refine lv_iload_n hx hb d_M_day_4 rfl (lv_at hl 2 rfl) ?_
  refine lv_iadd hx hb d_M_day_5 ?_
  refine lv_istore_n (lv' := [(3, .int ((12 * x) + a)), (0, .ref (ad (0))), (1, .int (x)), (2, .int (a))]) hx hb d_M_day_6 rfl hl (by decide) rfl (fun ls hl => ?_)
  refine lv_aload_n hx hb d_M_day_7 rfl (lv_at hl 1 rfl) ?_
  refine g_M_state hx hb hts hown hK hP mw_595 d_M_day_8 ?_
  refine lv_iload_n hx hb d_M_day_11 rfl (lv_at hl 0 rfl) ?_
  refine g_m_state hx hb hK hP (r := (12 * u + a0)) (by omega) hs9 d_M_day_12 ?_
  refine lv_iconst (v := 1) hx hb d_M_day_13 (by decide) ?_
  refine lv_icmp_ne (tgt := 64) hx hb d_M_day_14 (by decide) (fun c12 => ?_) (fun c12 => ?_)
  · have _u : True := trivial
    exact hJ64 t  _ _ ls (by (try simp [gI_pI, gI_pD, gD_pI, gD_pD] at c12); first | (simp [mDayA, mFad, gI_pI, gI_pD, gD_pI, gD_pD, c12]; done) | (simp [mDayA, mFad, gI_pI, gI_pD, gD_pI, gD_pD, c12]; intro q9; exact absurd q9 (Int32.not_le.mpr c12))) hP hD hS (lv_sub hl [1, 2, 3, 0] rfl)
  · have _u : True := trivial
    refine lv_aload_n hx hb d_M_day_17 rfl (lv_at hl 1 rfl) ?_
    refine g_M_bounced hx hb hts hown hK hP mw_600 d_M_day_18 ?_
    refine lv_iload_n hx hb d_M_day_21 rfl (lv_at hl 0 rfl) ?_
    refine g_m_bounced hx hb hK hP (r := (12 * u + a0)) (by omega) hs9 d_M_day_22 ?_
    refine lv_aload_n hx hb d_M_day_23 rfl (lv_at hl 1 rfl) ?_
    refine g_M_today hx hb hts hown hK hP mw_591 d_M_day_24 ?_
    refine lv_iconst (v := 1) hx hb d_M_day_27 (by decide) ?_
    refine lv_isub hx hb d_M_day_28 ?_
    refine lv_icmp_eq (tgt := 64) hx hb d_M_day_29 (by decide) (fun c13 => ?_) (fun c13 => ?_)
    · have _u : True := trivial
      exact hJ64 t  _ _ ls (by (try simp [gI_pI, gI_pD, gD_pI, gD_pD] at c12); (try simp [gI_pI, gI_pD, gD_pI, gD_pD] at c13); first | (simp [mDayA, mFad, gI_pI, gI_pD, gD_pI, gD_pD, c12, c13]; done) | (simp [mDayA, mFad, gI_pI, gI_pD, gD_pI, gD_pD, c12, c13]; intro q9; exact absurd q9 (Int32.not_le.mpr c13))) hP hD hS (lv_sub hl [1, 2, 3, 0] rfl)
    · have _u : True := trivial
      refine lv_aload_n hx hb d_M_day_32 rfl (lv_at hl 1 rfl) ?_
      refine g_M_score hx hb hts hown hK hP mw_603 d_M_day_33 ?_
      refine lv_iload_n hx hb d_M_day_36 rfl (lv_at hl 0 rfl) ?_
      refine lv_dup2_11 hx hb d_M_day_37 rfl rfl ?_
      refine g_m_score hx hb hK hP (r := (12 * u + a0)) (by omega) hs9 d_M_day_38 ?_
      refine lv_ldc2d (own := "ListForgeModel") (v := 4606056518893174784) hx hb hown (bg hts mw_773) d_M_day_39 ?_
      refine lv_dmul hx hb d_M_day_42 (NN_nan (NN_875 (hnn _))) ?_
      refine p_m_score hx hb hK hP hD hS (r := (12 * u + a0)) (by omega) hs9 d_M_day_43 (fun H locs hP hD hS => ?_)
      refine lv_aload_n hx hb d_M_day_44 rfl (lv_at hl 1 rfl) ?_
      refine g_M_score hx hb hts hown hK hP mw_603 d_M_day_45 ?_
      refine lv_iload_n hx hb d_M_day_48 rfl (lv_at hl 0 rfl) ?_
      refine g_m_score hx hb hK hP (r := (12 * u + a0)) (by omega) hs9 d_M_day_49 ?_
      refine lv_ldc2d (own := "ListForgeModel") (v := 4598175219545276416) hx hb hown (bg hts mw_774) d_M_day_50 ?_
      refine lv_dcmp hx hb d_M_day_53 ?_
      refine lv_if_ge (tgt := 64) hx hb d_M_day_54 (by decide) (fun c14 => ?_) (fun c14 => ?_)
      · have _u : True := trivial
        exact hJ64 (pD t 1009 (12 * u + a0) (FP.dmul (gD t 1009 (12 * u + a0)) 4606056518893174784))  _ _ ls (by (try simp [gI_pI, gI_pD, gD_pI, gD_pD] at c12); (try simp [gI_pI, gI_pD, gD_pI, gD_pD] at c13); (try simp [gI_pI, gI_pD, gD_pI, gD_pD] at c14); first | (simp [mDayA, mFad, gI_pI, gI_pD, gD_pI, gD_pD, c12, c13, c14]; done) | (simp [mDayA, mFad, gI_pI, gI_pD, gD_pI, gD_pD, c12, c13, c14]; intro q9; exact absurd q9 (Int32.not_le.mpr c14))) hP hD hS (lv_sub hl [1, 2, 3, 0] rfl)
      · have _u : True := trivial
        refine lv_aload_n hx hb d_M_day_57 rfl (lv_at hl 1 rfl) ?_
        refine g_M_score hx hb hts hown hK hP mw_603 d_M_day_58 ?_
        refine lv_iload_n hx hb d_M_day_61 rfl (lv_at hl 0 rfl) ?_
        refine lv_dconst0 hx hb d_M_day_62 ?_
        refine p_m_score hx hb hK hP hD hS (r := (12 * u + a0)) (by omega) hs9 d_M_day_63 (fun H locs hP hD hS => ?_)
        exact hJ64 (pD (pD t 1009 (12 * u + a0) (FP.dmul (gD t 1009 (12 * u + a0)) 4606056518893174784)) 1009 (12 * u + a0) FP.dconst0)  _ _ ls (by (try simp [gI_pI, gI_pD, gD_pI, gD_pD] at c12); (try simp [gI_pI, gI_pD, gD_pI, gD_pD] at c13); (try simp [gI_pI, gI_pD, gD_pI, gD_pD] at c14); first | (simp [mDayA, mFad, gI_pI, gI_pD, gD_pI, gD_pD, c12, c13, c14]; done) | (simp [mDayA, mFad, gI_pI, gI_pD, gD_pI, gD_pD, c12, c13, c14]; intro q9; exact absurd q9 (Int32.not_le.mpr c14))) hP hD hS (lv_sub hl [1, 2, 3, 0] rfl)
