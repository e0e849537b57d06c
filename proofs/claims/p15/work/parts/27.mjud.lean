theorem isW2 : ¬ isW 0 0 2 = 0 ∧ ¬ isW 1 0 2 = 0 := by decide
theorem gI_dig {t : Mem} {u : Nat} {x : Int32} {k j : Nat} (h : k ≠ 4 ∧ k ≠ 1023 ∧ k ≠ 1024 ∧ k ≠ 1025 ∧ k ≠ 1026) (h2 : k ≠ 1020) : gI (mDig t u x) k j = gI t k j := by
  unfold mDig
  rw [gI_pI, if_neg (by omega)]
  refine lp_inv (fun s => gI s k j = gI t k j) (fun a s hs => ?_) _ _ _ rfl
  unfold mDigF
  split
  · exact hs
  · rw [gI_send h]; exact hs
theorem gI_mPass {t : Mem} {r : Nat} {p : Int32} {k j : Nat} (h : k ≠ 4 ∧ k ≠ 1023 ∧ k ≠ 1024 ∧ k ≠ 1025 ∧ k ≠ 1026) (h2 : k ≠ 1020 ∧ k ≠ 1021 ∧ k ≠ 1022) : gI (mPass t r p) k j = gI t k j := by
  have h1 : gI (lp (mPasF (cl (gI t 1016 r)) r p (gI t 1016 r)) 12 0 (t, 0)).1 k j = gI t k j := by
    refine lp_inv (fun s : Mem × Int32 => gI s.1 k j = gI t k j) (fun a s hs => ?_) _ _ _ rfl
    show gI (mPasA _ _ _ _ a s.1) k j = _
    rw [gI_pasA h]; exact hs
  have h3 : ∀ (s : Mem) (u r b : Nat), gI (mPasT s u r b) k j = gI s k j := by
    intro s u r b
    unfold mPasT
    rw [gI_pI, if_neg (by omega), gI_pI, if_neg (by omega), gI_pI, if_neg (by omega)]
  unfold mPass
  split
  · exact h1
  · unfold mPasB
    split
    · rw [h3]; exact h1
    · rw [gI_dig h h2.1, h3]; exact h1
def mJudS (t : Mem) (p h : Int32) : Mem := if h = 0 then pI (pI t 0 0 0) 1019 (cl p) 1 else pI (pI t 0 0 0) 1019 (cl p) 2
def mJudT (t : Mem) (p h : Int32) : Mem := if h = 0 then mPass (mJudS t p h) (cl p) p else mJudS t p h
def mJudU (t : Mem) (p h : Int32) : Mem := if h = 1 then mSend (mJudT t p h) (gI t 1017 (cl p)) (gI t 1016 (cl p)) 4 p else mJudT t p h
def mJud (t : Mem) (m p h : Int32) : Int32 × Mem := if isW m 0 11 = 0 then (0, pI t 0 0 1) else if isW h 0 2 = 0 then (0, pI t 0 0 1) else if isW p 0 (gI t 3 0 - 1) = 0 then (0, pI t 0 0 2) else if gI t 1019 (cl p) = 0 then (if gI t 1001 (12 * cl (gI t 1016 (cl p)) + cl m) = -1 then (0, pI t 0 0 3) else if gI t 1007 (12 * cl (gI t 1016 (cl p)) + cl m) = 0 then (0, pI t 0 0 3) else (mCnt (mJudU t p h) 0, mJudU t p h)) else (0, pI t 0 0 2)
set_option maxHeartbeats 4000000 in
set_option maxRecDepth 100000 in
theorem c_M_judge (l : Launch) (D : va_G) (ad : Nat → Nat) (ka : Nat → ClassId) (sz : Nat) (t : Mem) (Bd : Nat) (hBd : Bd < 700000000) (hm : SM t Bd) (n0 : Nat) (hn0 : n0 ≤ 40) (hn : gI t 3 0 = nI n0) (hls : ∀ j, ∃ v, v < 3 ∧ gI t 1016 j = nI v) (hbs : ∀ r, r < n0 → gI t 1019 r = 0 → ∀ v, v < 3 → ∃ b, b < 40 ∧ gI t 1020 v = nI b) (m0 p0 h0 : Int32) : Met l y_M_judge (Cond.code y_M_judge b_M_judge 5 (some .int) :: big) ({ frames := 3, cells := 0, slots := 0, locals := 71 }) (va_Pc [.ref (ad (0)), .int (m0), .int (p0), .int (h0)] (PM D ad ka sz t)) (va_Qi (fun (r : Int32) (t' : Mem) => mJud t m0 p0 h0 = (r, t')) (BM D ad ka sz) (AM ad sz)) 0 0 (AM ad sz) := by
  refine Met.ofW (cc := b_M_judge) (maxL := 5) (ret := (some .int)) (by decide) rfl ?_
  intro p e s m args below meth c s₁ B hml hv
  obtain ⟨rfl, hsz, hP, hK, hD0⟩ := hv
  have hx := B.exec
  have hb := B.bytes
  have hr := B.returns
  have hlocks := B.notSynchronized
  have hts := atoms_spec (ws := Cond.code y_M_judge b_M_judge 5 (some .int) :: big) B.pre
  have hown : s.vm.findClass "ListForgeModel" = some m.cls := findClass_of_methodNamed B.named
  subst hsz
  have hD : va_D (AM ad s.heap.size) (mw ad ka t) := AM_D hD0
  have hS : va_S (AM ad s.heap.size) s.heap s.heap [] := va_S.rf
  have hl := lv_entry ([.ref (ad (0)), .int (m0), .int (p0), .int (h0)]) (n := 5) (Nat.le_of_ble_eq_true rfl)
  rw [lg_entry_eq]
  generalize (lg_sl ([.ref (ad (0)), .int (m0), .int (p0), .int (h0)]) ++ List.replicate (5 - (lg_sl ([.ref (ad (0)), .int (m0), .int (p0), .int (h0)])).length) Slot.unset).toArray = ls at hl ⊢
  have hl : lv_has ls 5 [(0, .ref (ad (0))), (1, .int (m0)), (2, .int (p0)), (3, .int (h0))] := hl

  refine lv_iload_n hx hb d_M_judge_0 rfl (lv_at hl 1 rfl) ?_
  refine lv_iconst (v := 0) hx hb d_M_judge_1 (by decide) ?_
  refine lv_bipush (v := 11) hx hb d_M_judge_2 (by decide) ?_
  have hA1 := hS.1
  refine va_calli (va_runS (As := [.int (m0), .int (0), .int (11)]) (rest := []) ⟨hx, hb, hml, hown, hts⟩ (c_M_in l D ad ka s.heap.size t m0 0 11) (cwS 3 hts (gs mw_696 mw_697 mw_6 mw_698) rfl rfl rfl (by decide +kernel) ⟨Nat.le_of_ble_eq_true rfl, Nat.le_of_ble_eq_true rfl⟩) ⟨PM_blind, fun U hU hW => ⟨rfl, PM_at hU hW hP hK hD⟩⟩ rfl rfl hl.1 rfl (lv_room (Nat.le_of_ble_eq_true rfl)) d_M_judge_4 ⟨Nat.le_of_ble_eq_true rfl, Nat.le_of_ble_eq_true rfl⟩) hS (fun q _ h => AM_up hA1 q h) (AM_up hA1) (fun r1 t3 tq H1 locs ht hvm hw2 hB hz1 hk1 hS => ?_)
  obtain ⟨hP, hD⟩ := BM_back ht hB (AM_up hA1)
  generalize H1 = H at hP hS ⊢
  obtain ⟨hwr, hwt⟩ := hw2
  rw [hwt] at hP hD
  rw [hwr]
  refine lv_if_eq (tgt := 19) hx hb d_M_judge_7 (by decide) (fun c4 => ?_) (fun c4 => ?_)
  · have _u : True := trivial
    refine lv_aload_n hx hb d_M_judge_19 rfl (lv_at hl 0 rfl) ?_
    refine lv_iconst (v := 1) hx hb d_M_judge_20 (by decide) ?_
    have hA1 := hS.1
    refine va_calli (va_runV (As := [.int (1)]) (rest := []) ⟨hx, hb, hml, hown, hts⟩ (c_M_refuse l D ad ka H.size t 1) (cwV 1 hts (gv mw_699 mw_701 (big_sel (i := 4) (by decide +kernel) (by decide +kernel)) mw_6 mw_702) rfl rfl rfl (by decide +kernel) ⟨Nat.le_of_ble_eq_true rfl, Nat.le_of_ble_eq_true rfl⟩) ⟨PM_blind, va_recv hK hP (ci := 0) (q0 := 0) rfl (at_M), fun U hU hW => ⟨rfl, PM_at hU hW hP hK hD⟩⟩ rfl rfl hl.1 rfl (lv_room (Nat.le_of_ble_eq_true rfl)) d_M_judge_21 ⟨Nat.le_of_ble_eq_true rfl, Nat.le_of_ble_eq_true rfl⟩) hS (fun q _ h => AM_up hA1 q h) (AM_up hA1) (fun r5 t7 tq H1 locs ht hvm hw6 hB hz1 hk1 hS => ?_)
    obtain ⟨hP, hD⟩ := BM_back ht hB (AM_up hA1)
    generalize H1 = H at hP hS ⊢
    obtain ⟨hwr, hwt⟩ := hw6
    rw [hwt] at hP hD
    rw [hwr]
    exact W.iret (v := 0) hx hb hr (fun t9 ht hW => ⟨⟨0, (pI t 0 0 1), rfl, (by first | (simp [mJud, c4]; done) | (simp [mJud, hcp, hca, hcv, c4]; done) | (simp [mJud, mJudU, mJudT, mJudS, gI_pI, hcp, hca, hcv, isW2.1, isW2.2, c4]; done) | (unfold mJud; simp [mJudU, mJudT, mJudS, gI_pI, hcp, hca, hcv, c4] <;> decide)), BM_at ht hW hP hK hD⟩, hS.F ht⟩) hS.2.2 d_M_judge_24
  · have _u : True := trivial
    obtain ⟨a0, ha0, hau⟩ := isW_n (n := 11) (by decide) c4
    have hca : cl m0 = a0 := cl_of hau (by omega)
    refine lv_iload_n hx hb d_M_judge_10 rfl (lv_at hl 3 rfl) ?_
    refine lv_iconst (v := 0) hx hb d_M_judge_11 (by decide) ?_
    refine lv_iconst (v := 2) hx hb d_M_judge_12 (by decide) ?_
    have hA1 := hS.1
    refine va_calli (va_runS (As := [.int (h0), .int (0), .int (2)]) (rest := []) ⟨hx, hb, hml, hown, hts⟩ (c_M_in l D ad ka H.size t h0 0 2) (cwS 3 hts (gs mw_696 mw_697 mw_6 mw_698) rfl rfl rfl (by decide +kernel) ⟨Nat.le_of_ble_eq_true rfl, Nat.le_of_ble_eq_true rfl⟩) ⟨PM_blind, fun U hU hW => ⟨rfl, PM_at hU hW hP hK hD⟩⟩ rfl rfl hl.1 rfl (lv_room (Nat.le_of_ble_eq_true rfl)) d_M_judge_13 ⟨Nat.le_of_ble_eq_true rfl, Nat.le_of_ble_eq_true rfl⟩) hS (fun q _ h => AM_up hA1 q h) (AM_up hA1) (fun r8 t10 tq H1 locs ht hvm hw9 hB hz1 hk1 hS => ?_)
    obtain ⟨hP, hD⟩ := BM_back ht hB (AM_up hA1)
    generalize H1 = H at hP hS ⊢
    obtain ⟨hwr, hwt⟩ := hw9
    rw [hwt] at hP hD
    rw [hwr]
    refine lv_if_ne (tgt := 25) hx hb d_M_judge_16 (by decide) (fun c11 => ?_) (fun c11 => ?_)
    · have _u : True := trivial
      refine lv_iload_n hx hb d_M_judge_25 rfl (lv_at hl 2 rfl) ?_
      refine lv_iconst (v := 0) hx hb d_M_judge_26 (by decide) ?_
      refine lv_aload_n hx hb d_M_judge_27 rfl (lv_at hl 0 rfl) ?_
      refine g_M_posts hx hb hts hown hK hP mw_593 d_M_judge_28 ?_
      refine lv_iconst (v := 1) hx hb d_M_judge_31 (by decide) ?_
      refine lv_isub hx hb d_M_judge_32 ?_
      have hA1 := hS.1
      refine va_calli (va_runS (As := [.int (p0), .int (0), .int ((gI t 3 0) - 1)]) (rest := []) ⟨hx, hb, hml, hown, hts⟩ (c_M_in l D ad ka H.size t p0 0 ((gI t 3 0) - 1)) (cwS 3 hts (gs mw_696 mw_697 mw_6 mw_698) rfl rfl rfl (by decide +kernel) ⟨Nat.le_of_ble_eq_true rfl, Nat.le_of_ble_eq_true rfl⟩) ⟨PM_blind, fun U hU hW => ⟨rfl, PM_at hU hW hP hK hD⟩⟩ rfl rfl hl.1 rfl (lv_room (Nat.le_of_ble_eq_true rfl)) d_M_judge_33 ⟨Nat.le_of_ble_eq_true rfl, Nat.le_of_ble_eq_true rfl⟩) hS (fun q _ h => AM_up hA1 q h) (AM_up hA1) (fun r12 t14 tq H1 locs ht hvm hw13 hB hz1 hk1 hS => ?_)
      obtain ⟨hP, hD⟩ := BM_back ht hB (AM_up hA1)
      generalize H1 = H at hP hS ⊢
      obtain ⟨hwr, hwt⟩ := hw13
      rw [hwt] at hP hD
      rw [hwr]
      refine lv_if_eq (tgt := 48) hx hb d_M_judge_36 (by decide) (fun c15 => ?_) (fun c15 => ?_)
      · have _u : True := trivial
        refine lv_aload_n hx hb d_M_judge_48 rfl (lv_at hl 0 rfl) ?_
        refine lv_iconst (v := 2) hx hb d_M_judge_49 (by decide) ?_
        have hA1 := hS.1
        refine va_calli (va_runV (As := [.int (2)]) (rest := []) ⟨hx, hb, hml, hown, hts⟩ (c_M_refuse l D ad ka H.size t 2) (cwV 1 hts (gv mw_699 mw_701 (big_sel (i := 4) (by decide +kernel) (by decide +kernel)) mw_6 mw_702) rfl rfl rfl (by decide +kernel) ⟨Nat.le_of_ble_eq_true rfl, Nat.le_of_ble_eq_true rfl⟩) ⟨PM_blind, va_recv hK hP (ci := 0) (q0 := 0) rfl (at_M), fun U hU hW => ⟨rfl, PM_at hU hW hP hK hD⟩⟩ rfl rfl hl.1 rfl (lv_room (Nat.le_of_ble_eq_true rfl)) d_M_judge_50 ⟨Nat.le_of_ble_eq_true rfl, Nat.le_of_ble_eq_true rfl⟩) hS (fun q _ h => AM_up hA1 q h) (AM_up hA1) (fun r16 t18 tq H1 locs ht hvm hw17 hB hz1 hk1 hS => ?_)
        obtain ⟨hP, hD⟩ := BM_back ht hB (AM_up hA1)
        generalize H1 = H at hP hS ⊢
        obtain ⟨hwr, hwt⟩ := hw17
        rw [hwt] at hP hD
        rw [hwr]
        exact W.iret (v := 0) hx hb hr (fun t9 ht hW => ⟨⟨0, (pI t 0 0 2), rfl, (by first | (simp [mJud, c4, c11, c15]; done) | (simp [mJud, hcp, hca, hcv, c4, c11, c15]; done) | (simp [mJud, mJudU, mJudT, mJudS, gI_pI, hcp, hca, hcv, isW2.1, isW2.2, c4, c11, c15]; done) | (unfold mJud; simp [mJudU, mJudT, mJudS, gI_pI, hcp, hca, hcv, c4, c11, c15] <;> decide)), BM_at ht hW hP hK hD⟩, hS.F ht⟩) hS.2.2 d_M_judge_53
      · have _u : True := trivial
        obtain ⟨r, hr0, hpr⟩ := isW_k (n := n0) (by omega) (by rw [← hn]; exact c15)
        have hcp : cl p0 = r := cl_of hpr (by omega)
        obtain ⟨v, hv, hve⟩ := hls r
        have hcv : cl (gI t 1016 r) = v := cl_of hve (by omega)
        have hs9 := s_of hve hau
        refine lv_aload_n hx hb d_M_judge_39 rfl (lv_at hl 0 rfl) ?_
        refine g_M_pState hx hb hts hown hK hP mw_613 d_M_judge_40 ?_
        refine lv_iload_n hx hb d_M_judge_43 rfl (lv_at hl 2 rfl) ?_
        refine g_m_pState hx hb hK hP (r := r) (by omega) hpr d_M_judge_44 ?_
        refine lv_if_eq (tgt := 54) hx hb d_M_judge_45 (by decide) (fun c19 => ?_) (fun c19 => ?_)
        · have _u : True := trivial
          have hpw := c19
          refine lv_bipush (v := 12) hx hb d_M_judge_54 (by decide) ?_
          refine lv_aload_n hx hb d_M_judge_56 rfl (lv_at hl 0 rfl) ?_
          refine g_M_pList hx hb hts hown hK hP mw_610 d_M_judge_57 ?_
          refine lv_iload_n hx hb d_M_judge_60 rfl (lv_at hl 2 rfl) ?_
          refine g_m_pList hx hb hK hP (r := r) (by omega) hpr d_M_judge_61 ?_
          refine lv_imul hx hb d_M_judge_62 ?_
          refine lv_iload_n hx hb d_M_judge_63 rfl (lv_at hl 1 rfl) ?_
          refine lv_iadd hx hb d_M_judge_64 ?_
          refine lv_istore (lv' := [(4, .int ((12 * (gI t 1016 r)) + m0)), (0, .ref (ad (0))), (1, .int (m0)), (2, .int (p0)), (3, .int (h0))]) hx hb d_M_judge_65 hl (by decide) rfl (fun ls hl => ?_)
          refine lv_aload_n hx hb d_M_judge_67 rfl (lv_at hl 1 rfl) ?_
          refine g_M_state hx hb hts hown hK hP mw_595 d_M_judge_68 ?_
          refine lv_iload hx hb d_M_judge_71 (lv_at hl 0 rfl) ?_
          refine g_m_state hx hb hK hP (r := (12 * v + a0)) (by omega) hs9 d_M_judge_73 ?_
          refine lv_iconst (v := -1) hx hb d_M_judge_74 (by decide) ?_
          refine lv_icmp_eq (tgt := 88) hx hb d_M_judge_75 (by decide) (fun c20 => ?_) (fun c20 => ?_)
          · have _u : True := trivial
            refine lv_aload_n hx hb d_M_judge_88 rfl (lv_at hl 1 rfl) ?_
            refine lv_iconst (v := 3) hx hb d_M_judge_89 (by decide) ?_
            have hA1 := hS.1
            refine va_calli (va_runV (As := [.int (3)]) (rest := []) ⟨hx, hb, hml, hown, hts⟩ (c_M_refuse l D ad ka H.size t 3) (cwV 1 hts (gv mw_699 mw_701 (big_sel (i := 4) (by decide +kernel) (by decide +kernel)) mw_6 mw_702) rfl rfl rfl (by decide +kernel) ⟨Nat.le_of_ble_eq_true rfl, Nat.le_of_ble_eq_true rfl⟩) ⟨PM_blind, va_recv hK hP (ci := 0) (q0 := 0) rfl (at_M), fun U hU hW => ⟨rfl, PM_at hU hW hP hK hD⟩⟩ rfl rfl hl.1 rfl (lv_room (Nat.le_of_ble_eq_true rfl)) d_M_judge_90 ⟨Nat.le_of_ble_eq_true rfl, Nat.le_of_ble_eq_true rfl⟩) hS (fun q _ h => AM_up hA1 q h) (AM_up hA1) (fun r21 t23 tq H1 locs ht hvm hw22 hB hz1 hk1 hS => ?_)
            obtain ⟨hP, hD⟩ := BM_back ht hB (AM_up hA1)
            generalize H1 = H at hP hS ⊢
            obtain ⟨hwr, hwt⟩ := hw22
            rw [hwt] at hP hD
            rw [hwr]
            exact W.iret (v := 0) hx hb hr (fun t9 ht hW => ⟨⟨0, (pI t 0 0 3), rfl, (by first | (simp [mJud, c4, c11, c15, c19, c20]; done) | (simp [mJud, hcp, hca, hcv, c4, c11, c15, c19, c20]; done) | (simp [mJud, mJudU, mJudT, mJudS, gI_pI, hcp, hca, hcv, isW2.1, isW2.2, c4, c11, c15, c19, c20]; done) | (unfold mJud; simp [mJudU, mJudT, mJudS, gI_pI, hcp, hca, hcv, c4, c11, c15, c19, c20] <;> decide)), BM_at ht hW hP hK hD⟩, hS.F ht⟩) hS.2.2 d_M_judge_93
          · have _u : True := trivial
            refine lv_aload_n hx hb d_M_judge_78 rfl (lv_at hl 1 rfl) ?_
            refine g_M_moderates hx hb hts hown hK hP mw_601 d_M_judge_79 ?_
            refine lv_iload hx hb d_M_judge_82 (lv_at hl 0 rfl) ?_
            refine g_m_moderates hx hb hK hP (r := (12 * v + a0)) (by omega) hs9 d_M_judge_84 ?_
            refine lv_if_ne (tgt := 94) hx hb d_M_judge_85 (by decide) (fun c24 => ?_) (fun c24 => ?_)
            · have _u : True := trivial
              refine lv_aload_n hx hb d_M_judge_94 rfl (lv_at hl 1 rfl) ?_
              refine lv_iconst (v := 0) hx hb d_M_judge_95 (by decide) ?_
              refine p_M_thrown hx hb hts hown hK hP hD hS mw_590 d_M_judge_96 (fun H locs hP hD hS => ?_)
              refine lv_aload_n hx hb d_M_judge_99 rfl (lv_at hl 1 rfl) ?_
              refine g_M_pState hx hb hts hown hK hP mw_613 d_M_judge_100 ?_
              refine lv_iload_n hx hb d_M_judge_103 rfl (lv_at hl 3 rfl) ?_
              refine lv_iload_n hx hb d_M_judge_104 rfl (lv_at hl 4 rfl) ?_
              refine lv_if_ne (tgt := 112) hx hb d_M_judge_105 (by decide) (fun c25 => ?_) (fun c25 => ?_)
              · have _u : True := trivial
                refine lv_iconst (v := 2) hx hb d_M_judge_112 (by decide) ?_
                refine p_m_pState hx hb hK hP hD hS (r := r) (by omega) hpr d_M_judge_113 (fun H locs hP hD hS => ?_)
                refine lv_iload_n hx hb d_M_judge_114 rfl (lv_at hl 4 rfl) ?_
                refine lv_if_ne (tgt := 123) hx hb d_M_judge_115 (by decide) (fun c26 => ?_) (fun c26 => ?_)
                · have _u : True := trivial
                  refine lv_iload_n hx hb d_M_judge_123 rfl (lv_at hl 4 rfl) ?_
                  refine lv_iconst (v := 1) hx hb d_M_judge_124 (by decide) ?_
                  refine lv_icmp_ne (tgt := 146) hx hb d_M_judge_125 (by decide) (fun c27 => ?_) (fun c27 => ?_)
                  · have _u : True := trivial
                    refine lv_aload_n hx hb d_M_judge_146 rfl (lv_at hl 1 rfl) ?_
                    refine lv_iconst (v := 0) hx hb d_M_judge_147 (by decide) ?_
                    have hA1 := hS.1
                    refine va_calli (va_runV (As := [.int (0)]) (rest := []) ⟨hx, hb, hml, hown, hts⟩ (c_M_waiting l D ad ka H.size (pI (pI t 0 0 0) 1019 r 2) n0 hn0 (by simpa [gI_pI] using hn) 0) (cwV 1 hts (gv mw_753 mw_755 (big_sel (i := 9) (by decide +kernel) (by decide +kernel)) mw_6 mw_756) rfl rfl rfl (by decide +kernel) ⟨Nat.le_of_ble_eq_true rfl, Nat.le_of_ble_eq_true rfl⟩) ⟨PM_blind, va_recv hK hP (ci := 0) (q0 := 0) rfl (at_M), fun U hU hW => ⟨rfl, PM_at hU hW hP hK hD⟩⟩ rfl rfl hl.1 rfl (lv_room (Nat.le_of_ble_eq_true rfl)) d_M_judge_148 ⟨Nat.le_of_ble_eq_true rfl, Nat.le_of_ble_eq_true rfl⟩) hS (fun q _ h => AM_up hA1 q h) (AM_up hA1) (fun r28 t30 tq H1 locs ht hvm hw29 hB hz1 hk1 hS => ?_)
                    obtain ⟨hP, hD⟩ := BM_back ht hB (AM_up hA1)
                    generalize H1 = H at hP hS ⊢
                    obtain ⟨hwr, hwt⟩ := hw29
                    rw [hwt] at hP hD
                    rw [hwr]
                    exact W.iret (v := mCnt (pI (pI t 0 0 0) 1019 r 2) 0) hx hb hr (fun t9 ht hW => ⟨⟨mCnt (pI (pI t 0 0 0) 1019 r 2) 0, (pI (pI t 0 0 0) 1019 r 2), rfl, (by first | (simp [mJud, c4, c11, c15, c19, c20, c24, c25, c26, c27]; done) | (simp [mJud, hcp, hca, hcv, c4, c11, c15, c19, c20, c24, c25, c26, c27]; done) | (simp [mJud, mJudU, mJudT, mJudS, gI_pI, hcp, hca, hcv, isW2.1, isW2.2, c4, c11, c15, c19, c20, c24, c25, c26, c27]; done) | (unfold mJud; simp [mJudU, mJudT, mJudS, gI_pI, hcp, hca, hcv, c4, c11, c15, c19, c20, c24, c25, c26, c27] <;> decide)), BM_at ht hW hP hK hD⟩, hS.F ht⟩) hS.2.2 d_M_judge_151
                  · have _u : True := trivial
                    refine lv_aload_n hx hb d_M_judge_128 rfl (lv_at hl 1 rfl) ?_
                    refine lv_aload_n hx hb d_M_judge_129 rfl (lv_at hl 1 rfl) ?_
                    refine g_M_pFrom hx hb hts hown hK hP mw_611 d_M_judge_130 ?_
                    refine lv_iload_n hx hb d_M_judge_133 rfl (lv_at hl 3 rfl) ?_
                    refine g_m_pFrom hx hb hK hP (r := r) (by omega) hpr d_M_judge_134 ?_
                    refine lv_aload_n hx hb d_M_judge_135 rfl (lv_at hl 1 rfl) ?_
                    refine g_M_pList hx hb hts hown hK hP mw_610 d_M_judge_136 ?_
                    refine lv_iload_n hx hb d_M_judge_139 rfl (lv_at hl 3 rfl) ?_
                    refine g_m_pList hx hb hK hP (r := r) (by omega) hpr d_M_judge_140 ?_
                    refine lv_iconst (v := 4) hx hb d_M_judge_141 (by decide) ?_
                    refine lv_iload_n hx hb d_M_judge_142 rfl (lv_at hl 3 rfl) ?_
                    have hA1 := hS.1
                    refine va_callv (va_runV (As := [.int (gI (pI (pI t 0 0 0) 1019 r 2) 1017 r), .int (gI (pI (pI t 0 0 0) 1019 r 2) 1016 r), .int (4), .int (p0)]) (rest := []) ⟨hx, hb, hml, hown, hts⟩ (c_M_send l D ad ka H.size (pI (pI t 0 0 0) 1019 r 2) Bd (by omega) (SM_f (SM_f hm (by decide)) (by decide)) (gI (pI (pI t 0 0 0) 1019 r 2) 1017 r) (gI (pI (pI t 0 0 0) 1019 r 2) 1016 r) 4 p0) (cwV 4 hts (gv mw_703 mw_705 (big_sel (i := 5) (by decide +kernel) (by decide +kernel)) mw_6 mw_706) rfl rfl rfl (by decide +kernel) ⟨Nat.le_of_ble_eq_true rfl, Nat.le_of_ble_eq_true rfl⟩) ⟨PM_blind, va_recv hK hP (ci := 0) (q0 := 0) rfl (at_M), fun U hU hW => ⟨rfl, PM_at hU hW hP hK hD⟩⟩ rfl rfl hl.1 rfl (lv_room (Nat.le_of_ble_eq_true rfl)) d_M_judge_143 ⟨Nat.le_of_ble_eq_true rfl, Nat.le_of_ble_eq_true rfl⟩) hS (fun q _ h => AM_up hA1 q h) (AM_up hA1) (fun t33 tq H1 locs ht hvm hw32 hB hz1 hk1 hS => ?_)
                    obtain ⟨hP, hD⟩ := BM_back ht hB (AM_up hA1)
                    generalize H1 = H at hP hS ⊢
                    rw [hw32] at hP hD
                    refine lv_aload_n hx hb d_M_judge_146 rfl (lv_at hl 1 rfl) ?_
                    refine lv_iconst (v := 0) hx hb d_M_judge_147 (by decide) ?_
                    have hA1 := hS.1
                    refine va_calli (va_runV (As := [.int (0)]) (rest := []) ⟨hx, hb, hml, hown, hts⟩ (c_M_waiting l D ad ka H.size (mSend (pI (pI t 0 0 0) 1019 r 2) (gI (pI (pI t 0 0 0) 1019 r 2) 1017 r) (gI (pI (pI t 0 0 0) 1019 r 2) 1016 r) 4 p0) n0 hn0 (by rw [gI_send (by decide)]; simpa [gI_pI] using hn) 0) (cwV 1 hts (gv mw_753 mw_755 (big_sel (i := 9) (by decide +kernel) (by decide +kernel)) mw_6 mw_756) rfl rfl rfl (by decide +kernel) ⟨Nat.le_of_ble_eq_true rfl, Nat.le_of_ble_eq_true rfl⟩) ⟨PM_blind, va_recv hK hP (ci := 0) (q0 := 0) rfl (at_M), fun U hU hW => ⟨rfl, PM_at hU hW hP hK hD⟩⟩ rfl rfl hl.1 rfl (lv_room (Nat.le_of_ble_eq_true rfl)) d_M_judge_148 ⟨Nat.le_of_ble_eq_true rfl, Nat.le_of_ble_eq_true rfl⟩) hS (fun q _ h => AM_up hA1 q h) (AM_up hA1) (fun r34 t36 tq H1 locs ht hvm hw35 hB hz1 hk1 hS => ?_)
                    obtain ⟨hP, hD⟩ := BM_back ht hB (AM_up hA1)
                    generalize H1 = H at hP hS ⊢
                    obtain ⟨hwr, hwt⟩ := hw35
                    rw [hwt] at hP hD
                    rw [hwr]
                    exact W.iret (v := mCnt (mSend (pI (pI t 0 0 0) 1019 r 2) (gI (pI (pI t 0 0 0) 1019 r 2) 1017 r) (gI (pI (pI t 0 0 0) 1019 r 2) 1016 r) 4 p0) 0) hx hb hr (fun t9 ht hW => ⟨⟨mCnt (mSend (pI (pI t 0 0 0) 1019 r 2) (gI (pI (pI t 0 0 0) 1019 r 2) 1017 r) (gI (pI (pI t 0 0 0) 1019 r 2) 1016 r) 4 p0) 0, (mSend (pI (pI t 0 0 0) 1019 r 2) (gI (pI (pI t 0 0 0) 1019 r 2) 1017 r) (gI (pI (pI t 0 0 0) 1019 r 2) 1016 r) 4 p0), rfl, (by first | (simp [mJud, c4, c11, c15, c19, c20, c24, c25, c26, c27]; done) | (simp [mJud, hcp, hca, hcv, c4, c11, c15, c19, c20, c24, c25, c26, c27]; done) | (simp [mJud, mJudU, mJudT, mJudS, gI_pI, hcp, hca, hcv, isW2.1, isW2.2, c4, c11, c15, c19, c20, c24, c25, c26, c27]; done) | (unfold mJud; simp [mJudU, mJudT, mJudS, gI_pI, hcp, hca, hcv, c4, c11, c15, c19, c20, c24, c25, c26, c27] <;> decide)), BM_at ht hW hP hK hD⟩, hS.F ht⟩) hS.2.2 d_M_judge_151
                · have _u : True := trivial
                  exact absurd c26 c25
              · have _u : True := trivial
                refine lv_iconst (v := 1) hx hb d_M_judge_108 (by decide) ?_
                refine lv_goto (tgt := 113) hx hb d_M_judge_109 (by decide) ?_
                refine p_m_pState hx hb hK hP hD hS (r := r) (by omega) hpr d_M_judge_113 (fun H locs hP hD hS => ?_)
                refine lv_iload_n hx hb d_M_judge_114 rfl (lv_at hl 4 rfl) ?_
                refine lv_if_ne (tgt := 123) hx hb d_M_judge_115 (by decide) (fun c37 => ?_) (fun c37 => ?_)
                · have _u : True := trivial
                  exact absurd c25 c37
                · have _u : True := trivial
                  refine lv_aload_n hx hb d_M_judge_118 rfl (lv_at hl 1 rfl) ?_
                  refine lv_iload_n hx hb d_M_judge_119 rfl (lv_at hl 3 rfl) ?_
                  have hA1 := hS.1
                  refine va_callv (va_runV (As := [.int (p0)]) (rest := []) ⟨hx, hb, hml, hown, hts⟩ (c_M_pass l D ad ka H.size (pI (pI t 0 0 0) 1019 r 1) Bd (by omega) (SM_f (SM_f hm (by decide)) (by decide)) r (by omega) p0 hpr v hv (by simpa [gI_pI] using hve) (hbs r hr0 hpw v hv).choose (hbs r hr0 hpw v hv).choose_spec.1 (by simpa [gI_pI] using (hbs r hr0 hpw v hv).choose_spec.2)) (cwV 1 hts (gv mw_737 mw_739 (big_sel (i := 6) (by decide +kernel) (by decide +kernel)) mw_6 mw_740) rfl rfl rfl (by decide +kernel) ⟨Nat.le_of_ble_eq_true rfl, Nat.le_of_ble_eq_true rfl⟩) ⟨PM_blind, va_recv hK hP (ci := 0) (q0 := 0) rfl (at_M), fun U hU hW => ⟨rfl, PM_at hU hW hP hK hD⟩⟩ rfl rfl hl.1 rfl (lv_room (Nat.le_of_ble_eq_true rfl)) d_M_judge_120 ⟨Nat.le_of_ble_eq_true rfl, Nat.le_of_ble_eq_true rfl⟩) hS (fun q _ h => AM_up hA1 q h) (AM_up hA1) (fun t40 tq H1 locs ht hvm hw39 hB hz1 hk1 hS => ?_)
                  obtain ⟨hP, hD⟩ := BM_back ht hB (AM_up hA1)
                  generalize H1 = H at hP hS ⊢
                  rw [hw39] at hP hD
                  refine lv_iload_n hx hb d_M_judge_123 rfl (lv_at hl 4 rfl) ?_
                  refine lv_iconst (v := 1) hx hb d_M_judge_124 (by decide) ?_
                  refine lv_icmp_ne (tgt := 146) hx hb d_M_judge_125 (by decide) (fun c41 => ?_) (fun c41 => ?_)
                  · have _u : True := trivial
                    refine lv_aload_n hx hb d_M_judge_146 rfl (lv_at hl 1 rfl) ?_
                    refine lv_iconst (v := 0) hx hb d_M_judge_147 (by decide) ?_
                    have hA1 := hS.1
                    refine va_calli (va_runV (As := [.int (0)]) (rest := []) ⟨hx, hb, hml, hown, hts⟩ (c_M_waiting l D ad ka H.size (mPass (pI (pI t 0 0 0) 1019 r 1) r p0) n0 hn0 (by rw [gI_mPass (by decide) (by decide)]; simpa [gI_pI] using hn) 0) (cwV 1 hts (gv mw_753 mw_755 (big_sel (i := 9) (by decide +kernel) (by decide +kernel)) mw_6 mw_756) rfl rfl rfl (by decide +kernel) ⟨Nat.le_of_ble_eq_true rfl, Nat.le_of_ble_eq_true rfl⟩) ⟨PM_blind, va_recv hK hP (ci := 0) (q0 := 0) rfl (at_M), fun U hU hW => ⟨rfl, PM_at hU hW hP hK hD⟩⟩ rfl rfl hl.1 rfl (lv_room (Nat.le_of_ble_eq_true rfl)) d_M_judge_148 ⟨Nat.le_of_ble_eq_true rfl, Nat.le_of_ble_eq_true rfl⟩) hS (fun q _ h => AM_up hA1 q h) (AM_up hA1) (fun r42 t44 tq H1 locs ht hvm hw43 hB hz1 hk1 hS => ?_)
                    obtain ⟨hP, hD⟩ := BM_back ht hB (AM_up hA1)
                    generalize H1 = H at hP hS ⊢
                    obtain ⟨hwr, hwt⟩ := hw43
                    rw [hwt] at hP hD
                    rw [hwr]
                    exact W.iret (v := mCnt (mPass (pI (pI t 0 0 0) 1019 r 1) r p0) 0) hx hb hr (fun t9 ht hW => ⟨⟨mCnt (mPass (pI (pI t 0 0 0) 1019 r 1) r p0) 0, (mPass (pI (pI t 0 0 0) 1019 r 1) r p0), rfl, (by first | (simp [mJud, c4, c11, c15, c19, c20, c24, c25, c37, c41]; done) | (simp [mJud, hcp, hca, hcv, c4, c11, c15, c19, c20, c24, c25, c37, c41]; done) | (simp [mJud, mJudU, mJudT, mJudS, gI_pI, hcp, hca, hcv, isW2.1, isW2.2, c4, c11, c15, c19, c20, c24, c25, c37, c41]; done) | (unfold mJud; simp [mJudU, mJudT, mJudS, gI_pI, hcp, hca, hcv, c4, c11, c15, c19, c20, c24, c25, c37, c41] <;> decide)), BM_at ht hW hP hK hD⟩, hS.F ht⟩) hS.2.2 d_M_judge_151
                  · have _u : True := trivial
                    exact absurd (c37.symm.trans c41) (by decide)
            · have _u : True := trivial
              refine lv_aload_n hx hb d_M_judge_88 rfl (lv_at hl 1 rfl) ?_
              refine lv_iconst (v := 3) hx hb d_M_judge_89 (by decide) ?_
              have hA1 := hS.1
              refine va_calli (va_runV (As := [.int (3)]) (rest := []) ⟨hx, hb, hml, hown, hts⟩ (c_M_refuse l D ad ka H.size t 3) (cwV 1 hts (gv mw_699 mw_701 (big_sel (i := 4) (by decide +kernel) (by decide +kernel)) mw_6 mw_702) rfl rfl rfl (by decide +kernel) ⟨Nat.le_of_ble_eq_true rfl, Nat.le_of_ble_eq_true rfl⟩) ⟨PM_blind, va_recv hK hP (ci := 0) (q0 := 0) rfl (at_M), fun U hU hW => ⟨rfl, PM_at hU hW hP hK hD⟩⟩ rfl rfl hl.1 rfl (lv_room (Nat.le_of_ble_eq_true rfl)) d_M_judge_90 ⟨Nat.le_of_ble_eq_true rfl, Nat.le_of_ble_eq_true rfl⟩) hS (fun q _ h => AM_up hA1 q h) (AM_up hA1) (fun r45 t47 tq H1 locs ht hvm hw46 hB hz1 hk1 hS => ?_)
              obtain ⟨hP, hD⟩ := BM_back ht hB (AM_up hA1)
              generalize H1 = H at hP hS ⊢
              obtain ⟨hwr, hwt⟩ := hw46
              rw [hwt] at hP hD
              rw [hwr]
              exact W.iret (v := 0) hx hb hr (fun t9 ht hW => ⟨⟨0, (pI t 0 0 3), rfl, (by first | (simp [mJud, c4, c11, c15, c19, c20, c24]; done) | (simp [mJud, hcp, hca, hcv, c4, c11, c15, c19, c20, c24]; done) | (simp [mJud, mJudU, mJudT, mJudS, gI_pI, hcp, hca, hcv, isW2.1, isW2.2, c4, c11, c15, c19, c20, c24]; done) | (unfold mJud; simp [mJudU, mJudT, mJudS, gI_pI, hcp, hca, hcv, c4, c11, c15, c19, c20, c24] <;> decide)), BM_at ht hW hP hK hD⟩, hS.F ht⟩) hS.2.2 d_M_judge_93
        · have _u : True := trivial
          refine lv_aload_n hx hb d_M_judge_48 rfl (lv_at hl 0 rfl) ?_
          refine lv_iconst (v := 2) hx hb d_M_judge_49 (by decide) ?_
          have hA1 := hS.1
          refine va_calli (va_runV (As := [.int (2)]) (rest := []) ⟨hx, hb, hml, hown, hts⟩ (c_M_refuse l D ad ka H.size t 2) (cwV 1 hts (gv mw_699 mw_701 (big_sel (i := 4) (by decide +kernel) (by decide +kernel)) mw_6 mw_702) rfl rfl rfl (by decide +kernel) ⟨Nat.le_of_ble_eq_true rfl, Nat.le_of_ble_eq_true rfl⟩) ⟨PM_blind, va_recv hK hP (ci := 0) (q0 := 0) rfl (at_M), fun U hU hW => ⟨rfl, PM_at hU hW hP hK hD⟩⟩ rfl rfl hl.1 rfl (lv_room (Nat.le_of_ble_eq_true rfl)) d_M_judge_50 ⟨Nat.le_of_ble_eq_true rfl, Nat.le_of_ble_eq_true rfl⟩) hS (fun q _ h => AM_up hA1 q h) (AM_up hA1) (fun r48 t50 tq H1 locs ht hvm hw49 hB hz1 hk1 hS => ?_)
          obtain ⟨hP, hD⟩ := BM_back ht hB (AM_up hA1)
          generalize H1 = H at hP hS ⊢
          obtain ⟨hwr, hwt⟩ := hw49
          rw [hwt] at hP hD
          rw [hwr]
          exact W.iret (v := 0) hx hb hr (fun t9 ht hW => ⟨⟨0, (pI t 0 0 2), rfl, (by first | (simp [mJud, c4, c11, c15, c19]; done) | (simp [mJud, hcp, hca, hcv, c4, c11, c15, c19]; done) | (simp [mJud, mJudU, mJudT, mJudS, gI_pI, hcp, hca, hcv, isW2.1, isW2.2, c4, c11, c15, c19]; done) | (unfold mJud; simp [mJudU, mJudT, mJudS, gI_pI, hcp, hca, hcv, c4, c11, c15, c19] <;> decide)), BM_at ht hW hP hK hD⟩, hS.F ht⟩) hS.2.2 d_M_judge_53
    · have _u : True := trivial
      refine lv_aload_n hx hb d_M_judge_19 rfl (lv_at hl 0 rfl) ?_
      refine lv_iconst (v := 1) hx hb d_M_judge_20 (by decide) ?_
      have hA1 := hS.1
      refine va_calli (va_runV (As := [.int (1)]) (rest := []) ⟨hx, hb, hml, hown, hts⟩ (c_M_refuse l D ad ka H.size t 1) (cwV 1 hts (gv mw_699 mw_701 (big_sel (i := 4) (by decide +kernel) (by decide +kernel)) mw_6 mw_702) rfl rfl rfl (by decide +kernel) ⟨Nat.le_of_ble_eq_true rfl, Nat.le_of_ble_eq_true rfl⟩) ⟨PM_blind, va_recv hK hP (ci := 0) (q0 := 0) rfl (at_M), fun U hU hW => ⟨rfl, PM_at hU hW hP hK hD⟩⟩ rfl rfl hl.1 rfl (lv_room (Nat.le_of_ble_eq_true rfl)) d_M_judge_21 ⟨Nat.le_of_ble_eq_true rfl, Nat.le_of_ble_eq_true rfl⟩) hS (fun q _ h => AM_up hA1 q h) (AM_up hA1) (fun r51 t53 tq H1 locs ht hvm hw52 hB hz1 hk1 hS => ?_)
      obtain ⟨hP, hD⟩ := BM_back ht hB (AM_up hA1)
      generalize H1 = H at hP hS ⊢
      obtain ⟨hwr, hwt⟩ := hw52
      rw [hwt] at hP hD
      rw [hwr]
      exact W.iret (v := 0) hx hb hr (fun t9 ht hW => ⟨⟨0, (pI t 0 0 1), rfl, (by first | (simp [mJud, c4, c11]; done) | (simp [mJud, hcp, hca, hcv, c4, c11]; done) | (simp [mJud, mJudU, mJudT, mJudS, gI_pI, hcp, hca, hcv, isW2.1, isW2.2, c4, c11]; done) | (unfold mJud; simp [mJudU, mJudT, mJudS, gI_pI, hcp, hca, hcv, c4, c11] <;> decide)), BM_at ht hW hP hK hD⟩, hS.F ht⟩) hS.2.2 d_M_judge_24
