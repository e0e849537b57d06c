section LCS
variable {p : Program} {l : Launch} {e : Env} {s : State} {m : MethodId} {below : List Frame} {meth : Method} {c : Code} {Q : State → Prop} {b L : Nat} {xs : Nat → Int32} {D DM : va_G} {ad bd : Nat → Nat} {ka kb : Nat → ClassId} {sa : Nat → Nat} {qo qd : Nat} {kl kd : ClassId}
set_option maxHeartbeats 4000000 in
set_option maxRecDepth 100000 in
theorem k_told (C : LC p l s m meth c b L xs D DM ad bd ka kb sa qo qd kl kd) {i : Nat} (hi : i + 5 ≤ L) {t u : Mem} (ho : OKX t) (hu : MOK u)
    (kk : ∀ (n : Nat) (r : Int32) (t2 : Mem) (r2 : Int32) (u2 : Mem), toldR t (xs (nI i + 1).toNatClampNeg) (xs (nI i + 2).toNatClampNeg) (xs (nI i + 3).toNatClampNeg) = (n, r, t2) → mTold u (xs (nI i + 1).toNatClampNeg) (xs (nI i + 2).toNatClampNeg) (xs (nI i + 3).toNatClampNeg) = (r2, u2) → ∀ (f : Nat → Int64) (g : Nat → UInt64) (H : Heap) (locs : List Loc) (ls : Array Slot), LW D DM ad bd ka kb qo qd kl kd t2 u2 f g H → va_S (fun q => s.heap.size ≤ q) s.heap H locs → lv_has ls 9 (lvL b ad bd qo qd (i + 5)) → W p l e room_1 s m #[Value.ref b] below meth c H locs (200 + (i + 5)) (3000 + 4 * (i + 5)) Q (F0 m 28 ls [])) :
    ∀ (f : Nat → Int64) (g : Nat → UInt64) (H : Heap) (locs : List Loc) (ls : Array Slot), LW D DM ad bd ka kb qo qd kl kd t u f g H → va_S (fun q => s.heap.size ≤ q) s.heap H locs → lv_has ls 9 (lvL b ad bd qo qd i) → W p l e room_1 s m #[Value.ref b] below meth c H locs (200 + i) (3000 + 4 * i) Q (F0 m 748 ls []) := by
  intro f g H locs ls hw hS hl
  obtain ⟨C0, hL, hl0, hJ, hK, hZ⟩ := C
  obtain ⟨hx, hb, hr, hml, hown, hts0, hX, hbl, hlocks, hgv⟩ := C0
  have hts := lts hts0
  have hbA : ¬ s.heap.size ≤ b := Nat.not_le.mpr hbl
  obtain ⟨Bd, n0, hBd, hOD, hn0, hn, hls, hb1, hb2, hb3, hm7, hm8⟩ := hu
  have hl : lv_has ls 9 [(0, .ref b), (1, .ref (ad 0)), (2, .ref (bd 0)), (3, .ref qo), (4, .ref qd), (5, .int (nI i))] := hl
  refine lv_aload_n hx hb d_W_law_748 rfl (lv_at hl 1 rfl) ?_
  refine lv_aload_n hx hb d_W_law_749 rfl (lv_at hl 0 rfl) ?_
  refine lv_iload hx hb d_W_law_750 (lv_at hl 5 rfl) ?_
  refine lv_iconst (v := 1) hx hb d_W_law_752 (by decide) ?_
  refine lv_iadd hx hb d_W_law_753 ?_
  refine va_sld (A := fun q => s.heap.size ≤ q) hx hb hX hbl hbA hS (vi_in (k := 1) rfl (by omega) hL) d_W_law_754 ?_
  refine lv_aload_n hx hb d_W_law_755 rfl (lv_at hl 0 rfl) ?_
  refine lv_iload hx hb d_W_law_756 (lv_at hl 5 rfl) ?_
  refine lv_iconst (v := 2) hx hb d_W_law_758 (by decide) ?_
  refine lv_iadd hx hb d_W_law_759 ?_
  refine va_sld (A := fun q => s.heap.size ≤ q) hx hb hX hbl hbA hS (vi_in (k := 2) rfl (by omega) hL) d_W_law_760 ?_
  refine lv_aload_n hx hb d_W_law_761 rfl (lv_at hl 0 rfl) ?_
  refine lv_iload hx hb d_W_law_762 (lv_at hl 5 rfl) ?_
  refine lv_iconst (v := 3) hx hb d_W_law_764 (by decide) ?_
  refine lv_iadd hx hb d_W_law_765 ?_
  refine va_sld (A := fun q => s.heap.size ≤ q) hx hb hX hbl hbA hS (vi_in (k := 3) rfl (by omega) hL) d_W_law_766 ?_
  refine lv_aload_n hx hb d_W_law_767 rfl (lv_at hl 3 rfl) ?_
  refine va_calli (vx_runSW (As := [.ref (ad 0), .int (xs (nI i + 1).toNatClampNeg), .int (xs (nI i + 2).toNatClampNeg), .int (xs (nI i + 3).toNatClampNeg), .ref qo]) (rest := []) ⟨hx, hb, hml, hown, hts⟩ (c_W_told l hl0 D ad ka sa H.size t (xs (nI i + 1).toNatClampNeg) (xs (nI i + 2).toNatClampNeg) (xs (nI i + 3).toNatClampNeg) qo kl f) (vx_cwSW 5 hts (gsw mw_527 mw_528 mw_0 mw_529) rfl rfl rfl (by decide +kernel) ⟨Nat.le_of_ble_eq_true rfl, Nat.le_of_ble_eq_true rfl⟩) ⟨PH_blind, fun U hU hW => ⟨rfl, PH_mk hJ hw hK hZ hS hU hW⟩⟩ rfl rfl hl.1 rfl (lv_room (Nat.le_of_ble_eq_true rfl)) d_W_law_768 ⟨(show _ ≤ 601024 by omega), (show _ ≤ 7293034 by omega)⟩) hS (fun q _ h => hJ.ao hS.1 h) (fun q h => hJ.ao hS.1 h) (fun kr zz tq H1 locs ht hvm hq hB hz1 hk1 hS => ?_)
  obtain ⟨t2, f2⟩ := zz
  obtain ⟨n, r, hkn, hn4, hR, hf2⟩ := hq
  have hw : LW D DM ad bd ka kb qo qd kl kd t2 u f2 g H1 := LW_h hJ hw ht hB hk1
  refine lv_istore (lv' := [(6, .int kr), (0, .ref b), (1, .ref (ad 0)), (2, .ref (bd 0)), (3, .ref qo), (4, .ref qd), (5, .int (nI i))]) hx hb d_W_law_771 hl (by decide) rfl (fun ls hl => ?_)
  refine lv_aload_n hx hb d_W_law_773 rfl (lv_at hl 3 rfl) ?_
  refine lv_aload_n hx hb d_W_law_774 rfl (lv_at hl 1 rfl) ?_
  refine lv_iload hx hb d_W_law_775 (lv_at hl 6 rfl) ?_
  refine lv_iconst (v := 1) hx hb d_W_law_777 (by decide) ?_
  refine lv_iadd hx hb d_W_law_778 ?_
  refine va_sld (A := fun q => s.heap.size ≤ q) hx hb hX hbl hbA hS (vi_in (k := 1) rfl (by omega) hL) d_W_law_779 ?_
  refine lv_aload_n hx hb d_W_law_780 rfl (lv_at hl 1 rfl) ?_
  refine lv_iload hx hb d_W_law_781 (lv_at hl 6 rfl) ?_
  refine lv_iconst (v := 2) hx hb d_W_law_783 (by decide) ?_
  refine lv_iadd hx hb d_W_law_784 ?_
  refine va_sld (A := fun q => s.heap.size ≤ q) hx hb hX hbl hbA hS (vi_in (k := 2) rfl (by omega) hL) d_W_law_785 ?_
  refine lv_aload_n hx hb d_W_law_786 rfl (lv_at hl 1 rfl) ?_
  refine lv_iload hx hb d_W_law_787 (lv_at hl 6 rfl) ?_
  refine lv_iconst (v := 3) hx hb d_W_law_789 (by decide) ?_
  refine lv_iadd hx hb d_W_law_790 ?_
  refine va_sld (A := fun q => s.heap.size ≤ q) hx hb hX hbl hbA hS (vi_in (k := 3) rfl (by omega) hL) d_W_law_791 ?_
  refine va_calli (va_runV (As := [.int (xs (nI i + 1).toNatClampNeg), .int (xs (nI i + 2).toNatClampNeg), .int (xs (nI i + 3).toNatClampNeg)]) (rest := []) ⟨hx, hb, hml, hown, hts⟩ (c_M_told l DM bd kb H1.size u (xs (nI i + 1).toNatClampNeg) (xs (nI i + 2).toNatClampNeg) (xs (nI i + 3).toNatClampNeg)) (cwV 3 hts (gv mw_775 mw_776 mw_777 mw_6 mw_778) rfl rfl rfl (by decide +kernel) ⟨Nat.le_of_ble_eq_true rfl, Nat.le_of_ble_eq_true rfl⟩) ⟨PM_blind, va_recv hK.2.1 hw.2.1 (ci := 0) (q0 := 0) rfl at_M, fun U hU hW => ⟨rfl, LW_pm hJ hw hK hU hW⟩⟩ rfl rfl hl.1 rfl (lv_room (Nat.le_of_ble_eq_true rfl)) d_W_law_792 ⟨(show _ ≤ 601024 by omega), (show _ ≤ 7293034 by omega)⟩) hS (fun q _ h => hJ.am hS.1 h) (fun q h => hJ.am hS.1 h) (fun r2 u2 tq2 H2 locs ht2 hvm2 hR2 hB2 hz2 hk2 hS => ?_)
  have hw := LW_m hJ hw ht2 hB2 hk2
  refine lv_istore (lv' := [(7, .int r2), (6, .int kr), (0, .ref b), (1, .ref (ad 0)), (2, .ref (bd 0)), (3, .ref qo), (4, .ref qd), (5, .int (nI i))]) hx hb d_W_law_795 hl (by decide) rfl (fun ls hl => ?_)
  refine lv_goto (tgt := 957) hx hb d_W_law_797 (by decide) ?_
  refine W.widen (k := 200 + (i + 5)) (n := 3000 + 4 * (i + 5)) (by omega) (by omega) ?_
  exact l_back hx hb (fun ls hl => kk n r t2 r2 u2 hR hR2 _ _ _ _ ls hw hS hl) (lv_sub hl [2, 3, 4, 5, 6, 7] rfl)
set_option maxHeartbeats 4000000 in
set_option maxRecDepth 100000 in
theorem k_score (C : LC p l s m meth c b L xs D DM ad bd ka kb sa qo qd kl kd) {i : Nat} (hi : i + 5 ≤ L) {t u : Mem} (ho : OKX t) (hu : MOK u)
    (hag : ∀ (n : Nat) (r : UInt64) (t2 : Mem) (r2 : UInt64) (u2 : Mem), scoreR t (xs (nI i + 1).toNatClampNeg) (xs (nI i + 2).toNatClampNeg) = (n, r, t2) → mScore u (xs (nI i + 1).toNatClampNeg) (xs (nI i + 2).toNatClampNeg) = (r2, u2) → gI u2 0 0 = nI n ∧ (n = 0 → r = r2))
    (kk : ∀ (n : Nat) (r : UInt64) (t2 : Mem) (r2 : UInt64) (u2 : Mem), scoreR t (xs (nI i + 1).toNatClampNeg) (xs (nI i + 2).toNatClampNeg) = (n, r, t2) → mScore u (xs (nI i + 1).toNatClampNeg) (xs (nI i + 2).toNatClampNeg) = (r2, u2) → ∀ (f : Nat → Int64) (g : Nat → UInt64) (H : Heap) (locs : List Loc) (ls : Array Slot), LW D DM ad bd ka kb qo qd kl kd t2 u2 f g H → va_S (fun q => s.heap.size ≤ q) s.heap H locs → lv_has ls 9 (lvL b ad bd qo qd (i + 5)) → W p l e room_1 s m #[Value.ref b] below meth c H locs (200 + (i + 5)) (3000 + 4 * (i + 5)) Q (F0 m 28 ls [])) :
    ∀ (f : Nat → Int64) (g : Nat → UInt64) (H : Heap) (locs : List Loc) (ls : Array Slot), LW D DM ad bd ka kb qo qd kl kd t u f g H → va_S (fun q => s.heap.size ≤ q) s.heap H locs → lv_has ls 9 (lvL b ad bd qo qd i) → W p l e room_1 s m #[Value.ref b] below meth c H locs (200 + i) (3000 + 4 * i) Q (F0 m 800 ls []) := by
  intro f g H locs ls hw hS hl
  obtain ⟨C0, hL, hl0, hJ, hK, hZ⟩ := C
  obtain ⟨hx, hb, hr, hml, hown, hts0, hX, hbl, hlocks, hgv⟩ := C0
  have hts := lts hts0
  have hbA : ¬ s.heap.size ≤ b := Nat.not_le.mpr hbl
  obtain ⟨Bd, n0, hBd, hOD, hn0, hn, hls, hb1, hb2, hb3, hm7, hm8⟩ := hu
  have hl : lv_has ls 9 [(0, .ref b), (1, .ref (ad 0)), (2, .ref (bd 0)), (3, .ref qo), (4, .ref qd), (5, .int (nI i))] := hl
  refine lv_aload_n hx hb d_W_law_800 rfl (lv_at hl 1 rfl) ?_
  refine lv_aload_n hx hb d_W_law_801 rfl (lv_at hl 0 rfl) ?_
  refine lv_iload hx hb d_W_law_802 (lv_at hl 5 rfl) ?_
  refine lv_iconst (v := 1) hx hb d_W_law_804 (by decide) ?_
  refine lv_iadd hx hb d_W_law_805 ?_
  refine va_sld (A := fun q => s.heap.size ≤ q) hx hb hX hbl hbA hS (vi_in (k := 1) rfl (by omega) hL) d_W_law_806 ?_
  refine lv_aload_n hx hb d_W_law_807 rfl (lv_at hl 0 rfl) ?_
  refine lv_iload hx hb d_W_law_808 (lv_at hl 5 rfl) ?_
  refine lv_iconst (v := 2) hx hb d_W_law_810 (by decide) ?_
  refine lv_iadd hx hb d_W_law_811 ?_
  refine va_sld (A := fun q => s.heap.size ≤ q) hx hb hX hbl hbA hS (vi_in (k := 2) rfl (by omega) hL) d_W_law_812 ?_
  refine lv_aload hx hb d_W_law_813 (lv_at hl 4 rfl) ?_
  refine va_calli (vx_runSW (As := [.ref (ad 0), .int (xs (nI i + 1).toNatClampNeg), .int (xs (nI i + 2).toNatClampNeg), .ref qd]) (rest := []) ⟨hx, hb, hml, hown, hts⟩ (c_W_score l hl0 D ad ka sa H.size t (xs (nI i + 1).toNatClampNeg) (xs (nI i + 2).toNatClampNeg) qd kd g) (vx_cwSW 4 hts (gsw mw_534 mw_535 mw_0 mw_536) rfl rfl rfl (by decide +kernel) ⟨Nat.le_of_ble_eq_true rfl, Nat.le_of_ble_eq_true rfl⟩) ⟨PH_blind, fun U hU hW => ⟨rfl, PHd_mk hJ hw hK hZ hS hU hW⟩⟩ rfl rfl hl.1 rfl (lv_room (Nat.le_of_ble_eq_true rfl)) d_W_law_815 ⟨(show _ ≤ 601024 by omega), (show _ ≤ 7293034 by omega)⟩) hS (fun q _ h => hJ.aod hS.1 h) (fun q h => hJ.aod hS.1 h) (fun kr zz tq H1 locs ht hvm hq hB hz1 hk1 hS => ?_)
  obtain ⟨t2, g2⟩ := zz
  obtain ⟨n, r, hkn, hn4, hR, hf2⟩ := hq
  have hw : LW D DM ad bd ka kb qo qd kl kd t2 u f g2 H1 := LW_hd hJ hw ht hB hk1
  refine lv_istore (lv' := [(6, .int kr), (0, .ref b), (1, .ref (ad 0)), (2, .ref (bd 0)), (3, .ref qo), (4, .ref qd), (5, .int (nI i))]) hx hb d_W_law_818 hl (by decide) rfl (fun ls hl => ?_)
  refine lv_aload_n hx hb d_W_law_820 rfl (lv_at hl 3 rfl) ?_
  refine lv_aload_n hx hb d_W_law_821 rfl (lv_at hl 1 rfl) ?_
  refine lv_iload hx hb d_W_law_822 (lv_at hl 6 rfl) ?_
  refine lv_iconst (v := 1) hx hb d_W_law_824 (by decide) ?_
  refine lv_iadd hx hb d_W_law_825 ?_
  refine va_sld (A := fun q => s.heap.size ≤ q) hx hb hX hbl hbA hS (vi_in (k := 1) rfl (by omega) hL) d_W_law_826 ?_
  refine lv_aload_n hx hb d_W_law_827 rfl (lv_at hl 1 rfl) ?_
  refine lv_iload hx hb d_W_law_828 (lv_at hl 6 rfl) ?_
  refine lv_iconst (v := 2) hx hb d_W_law_830 (by decide) ?_
  refine lv_iadd hx hb d_W_law_831 ?_
  refine va_sld (A := fun q => s.heap.size ≤ q) hx hb hX hbl hbA hS (vi_in (k := 2) rfl (by omega) hL) d_W_law_832 ?_
  refine va_calld (va_runV (As := [.int (xs (nI i + 1).toNatClampNeg), .int (xs (nI i + 2).toNatClampNeg)]) (rest := []) ⟨hx, hb, hml, hown, hts⟩ (c_M_score l DM bd kb H1.size u (xs (nI i + 1).toNatClampNeg) (xs (nI i + 2).toNatClampNeg)) (cwV 2 hts (gv mw_779 mw_780 mw_781 mw_6 mw_782) rfl rfl rfl (by decide +kernel) ⟨Nat.le_of_ble_eq_true rfl, Nat.le_of_ble_eq_true rfl⟩) ⟨PM_blind, va_recv hK.2.1 hw.2.1 (ci := 0) (q0 := 0) rfl at_M, fun U hU hW => ⟨rfl, LW_pm hJ hw hK hU hW⟩⟩ rfl rfl hl.1 rfl (lv_room (Nat.le_of_ble_eq_true rfl)) d_W_law_833 ⟨(show _ ≤ 601024 by omega), (show _ ≤ 7293034 by omega)⟩) hS (fun q _ h => hJ.am hS.1 h) (fun q h => hJ.am hS.1 h) (fun r2 u2 tq2 H2 locs ht2 hvm2 hR2 hB2 hz2 hk2 hS => ?_)
  have hw := LW_m hJ hw ht2 hB2 hk2
  refine lv_dstore (lv' := [(7, .double r2), (6, .int kr), (0, .ref b), (1, .ref (ad 0)), (2, .ref (bd 0)), (3, .ref qo), (4, .ref qd), (5, .int (nI i))]) hx hb d_W_law_836 hl (by decide) rfl (fun ls hl => ?_)
  obtain ⟨ha1, ha2⟩ := hag n r t2 r2 u2 hR hR2
  refine lv_aload_n hx hb d_W_law_838 rfl (lv_at hl 4 rfl) ?_
  refine va_calli (va_runV (As := []) (rest := []) ⟨hx, hb, hml, hown, hts⟩ (c_M_thrown l DM bd kb H2.size u2) (cwV 0 hts (gv mw_685 mw_686 mw_687 mw_6 mw_688) rfl rfl rfl (by decide +kernel) ⟨Nat.le_of_ble_eq_true rfl, Nat.le_of_ble_eq_true rfl⟩) ⟨PM_blind, va_recv hK.2.1 hw.2.1 (ci := 0) (q0 := 0) rfl at_M, fun U hU hW => ⟨rfl, LW_pm hJ hw hK hU hW⟩⟩ rfl rfl hl.1 rfl (lv_room (Nat.le_of_ble_eq_true rfl)) d_W_law_839 ⟨(show _ ≤ 601024 by omega), (show _ ≤ 7293034 by omega)⟩) hS (fun q _ h => hJ.am hS.1 h) (fun q h => hJ.am hS.1 h) (fun r3 u3 tq3 H3 locs ht3 hvm3 hR3 hB3 hz3 hk3 hS => ?_)
  obtain ⟨hr3, hu3⟩ := hR3
  rw [hu3] at hB3
  have hw := LW_m hJ hw ht3 hB3 hk3
  refine lv_iload hx hb d_W_law_842 (lv_at hl 1 rfl) ?_
  refine lv_icmp_eq (tgt := 849) hx hb d_W_law_844 (by decide) (fun c1 => ?_) (fun c1 => absurd (hr3.trans (ha1.trans hkn.symm)) c1)
  refine lv_iload hx hb d_W_law_849 (lv_at hl 1 rfl) ?_
  refine lv_if_ne (tgt := 886) hx hb d_W_law_851 (by decide) (fun c2 => ?_) (fun c2 => ?_)
  ·
    refine lv_goto (tgt := 957) hx hb d_W_law_886 (by decide) ?_
    refine W.widen (k := 200 + (i + 5)) (n := 3000 + 4 * (i + 5)) (by omega) (by omega) ?_
    exact l_back hx hb (fun ls hl => kk n r t2 r2 u2 hR hR2 _ _ _ _ ls hw hS hl) (lv_sub hl [2, 3, 4, 5, 6, 7] rfl)
  · have hn0 : n = 0 := nI_zero (hkn.symm.trans c2) hn4
    have ha3 := ha2 hn0
    have hf3 : g2 0 = r := hf2 hn0
    refine lv_aload hx hb d_W_law_854 (lv_at hl 6 rfl) ?_
    refine lv_iconst (v := 0) hx hb d_W_law_856 (by decide) ?_
    refine va_dald (D := D) hx hb hK.2.2.2 hw.2.2.2 0 0 rfl rfl (by unfold vp_in; decide) d_W_law_857 ?_
    refine lv_dload hx hb d_W_law_858 (lv_at hl 0 rfl) ?_
    refine lv_dcmp hx hb d_W_law_860 ?_
    have hf4 : g2 (0 : Int32).toNatClampNeg = r2 := hf3.trans ha3
    refine lv_if_eq (tgt := 886) hx hb d_W_law_861 (by decide) (fun c3 => ?_) (fun c3 => ?_)
    ·
      refine lv_goto (tgt := 957) hx hb d_W_law_886 (by decide) ?_
      refine W.widen (k := 200 + (i + 5)) (n := 3000 + 4 * (i + 5)) (by omega) (by omega) ?_
      exact l_back hx hb (fun ls hl => kk n r t2 r2 u2 hR hR2 _ _ _ _ ls hw hS hl) (lv_sub hl [2, 3, 4, 5, 6, 7] rfl)
    · rw [hf4] at c3
      refine lv_aload hx hb d_W_law_864 (lv_at hl 6 rfl) ?_
      refine lv_iconst (v := 0) hx hb d_W_law_866 (by decide) ?_
      refine va_dald (D := D) hx hb hK.2.2.2 hw.2.2.2 0 0 rfl rfl (by unfold vp_in; decide) d_W_law_867 ?_
      refine lv_aload hx hb d_W_law_868 (lv_at hl 6 rfl) ?_
      refine lv_iconst (v := 0) hx hb d_W_law_870 (by decide) ?_
      refine va_dald (D := D) hx hb hK.2.2.2 hw.2.2.2 0 0 rfl rfl (by unfold vp_in; decide) d_W_law_871 ?_
      refine lv_dcmp hx hb d_W_law_872 ?_
      refine lv_if_eq (tgt := 884) hx hb d_W_law_873 (by decide) (fun c4 => absurd c4 (by rw [hf4]; exact c3)) (fun c4 => ?_)
      refine lv_dload hx hb d_W_law_876 (lv_at hl 0 rfl) ?_
      refine lv_dload hx hb d_W_law_878 (lv_at hl 0 rfl) ?_
      refine lv_dcmp hx hb d_W_law_880 ?_
      refine lv_if_ne (tgt := 886) hx hb d_W_law_881 (by decide) (fun c5 => ?_) (fun c5 => absurd c5 c3)
      refine lv_goto (tgt := 957) hx hb d_W_law_886 (by decide) ?_
      refine W.widen (k := 200 + (i + 5)) (n := 3000 + 4 * (i + 5)) (by omega) (by omega) ?_
      exact l_back hx hb (fun ls hl => kk n r t2 r2 u2 hR hR2 _ _ _ _ ls hw hS hl) (lv_sub hl [2, 3, 4, 5, 6, 7] rfl)
set_option maxHeartbeats 4000000 in
set_option maxRecDepth 100000 in
theorem k_sent (C : LC p l s m meth c b L xs D DM ad bd ka kb sa qo qd kl kd) {i : Nat} (hi : i + 5 ≤ L) {t u : Mem} (ho : OKX t) (hu : MOK u)
    (kk : ∀ (n : Nat) (r : Int32) (t2 : Mem) (r2 : Int32) (u2 : Mem), sentR t (xs (nI i + 1).toNatClampNeg) (xs (nI i + 2).toNatClampNeg) = (n, r, t2) → mSent u (xs (nI i + 1).toNatClampNeg) (xs (nI i + 2).toNatClampNeg) = (r2, u2) → ∀ (f : Nat → Int64) (g : Nat → UInt64) (H : Heap) (locs : List Loc) (ls : Array Slot), LW D DM ad bd ka kb qo qd kl kd t2 u2 f g H → va_S (fun q => s.heap.size ≤ q) s.heap H locs → lv_has ls 9 (lvL b ad bd qo qd (i + 5)) → W p l e room_1 s m #[Value.ref b] below meth c H locs (200 + (i + 5)) (3000 + 4 * (i + 5)) Q (F0 m 28 ls [])) :
    ∀ (f : Nat → Int64) (g : Nat → UInt64) (H : Heap) (locs : List Loc) (ls : Array Slot), LW D DM ad bd ka kb qo qd kl kd t u f g H → va_S (fun q => s.heap.size ≤ q) s.heap H locs → lv_has ls 9 (lvL b ad bd qo qd i) → W p l e room_1 s m #[Value.ref b] below meth c H locs (200 + i) (3000 + 4 * i) Q (F0 m 889 ls []) := by
  intro f g H locs ls hw hS hl
  obtain ⟨C0, hL, hl0, hJ, hK, hZ⟩ := C
  obtain ⟨hx, hb, hr, hml, hown, hts0, hX, hbl, hlocks, hgv⟩ := C0
  have hts := lts hts0
  have hbA : ¬ s.heap.size ≤ b := Nat.not_le.mpr hbl
  obtain ⟨Bd, n0, hBd, hOD, hn0, hn, hls, hb1, hb2, hb3, hm7, hm8⟩ := hu
  have hl : lv_has ls 9 [(0, .ref b), (1, .ref (ad 0)), (2, .ref (bd 0)), (3, .ref qo), (4, .ref qd), (5, .int (nI i))] := hl
  refine lv_aload_n hx hb d_W_law_889 rfl (lv_at hl 1 rfl) ?_
  refine lv_aload_n hx hb d_W_law_890 rfl (lv_at hl 0 rfl) ?_
  refine lv_iload hx hb d_W_law_891 (lv_at hl 5 rfl) ?_
  refine lv_iconst (v := 1) hx hb d_W_law_893 (by decide) ?_
  refine lv_iadd hx hb d_W_law_894 ?_
  refine va_sld (A := fun q => s.heap.size ≤ q) hx hb hX hbl hbA hS (vi_in (k := 1) rfl (by omega) hL) d_W_law_895 ?_
  refine lv_aload_n hx hb d_W_law_896 rfl (lv_at hl 0 rfl) ?_
  refine lv_iload hx hb d_W_law_897 (lv_at hl 5 rfl) ?_
  refine lv_iconst (v := 2) hx hb d_W_law_899 (by decide) ?_
  refine lv_iadd hx hb d_W_law_900 ?_
  refine va_sld (A := fun q => s.heap.size ≤ q) hx hb hX hbl hbA hS (vi_in (k := 2) rfl (by omega) hL) d_W_law_901 ?_
  refine lv_aload_n hx hb d_W_law_902 rfl (lv_at hl 3 rfl) ?_
  refine va_calli (vx_runSW (As := [.ref (ad 0), .int (xs (nI i + 1).toNatClampNeg), .int (xs (nI i + 2).toNatClampNeg), .ref qo]) (rest := []) ⟨hx, hb, hml, hown, hts⟩ (c_W_sent l hl0 D ad ka sa H.size t ho (xs (nI i + 1).toNatClampNeg) (xs (nI i + 2).toNatClampNeg) qo kl f) (vx_cwSW 4 hts (gsw mw_541 mw_542 mw_0 mw_543) rfl rfl rfl (by decide +kernel) ⟨Nat.le_of_ble_eq_true rfl, Nat.le_of_ble_eq_true rfl⟩) ⟨PH_blind, fun U hU hW => ⟨rfl, PH_mk hJ hw hK hZ hS hU hW⟩⟩ rfl rfl hl.1 rfl (lv_room (Nat.le_of_ble_eq_true rfl)) d_W_law_903 ⟨(show _ ≤ 601024 by omega), (show _ ≤ 7293034 by omega)⟩) hS (fun q _ h => hJ.ao hS.1 h) (fun q h => hJ.ao hS.1 h) (fun kr zz tq H1 locs ht hvm hq hB hz1 hk1 hS => ?_)
  obtain ⟨t2, f2⟩ := zz
  obtain ⟨n, r, hkn, hn4, hR, hf2⟩ := hq
  have hw : LW D DM ad bd ka kb qo qd kl kd t2 u f2 g H1 := LW_h hJ hw ht hB hk1
  refine lv_istore (lv' := [(6, .int kr), (0, .ref b), (1, .ref (ad 0)), (2, .ref (bd 0)), (3, .ref qo), (4, .ref qd), (5, .int (nI i))]) hx hb d_W_law_906 hl (by decide) rfl (fun ls hl => ?_)
  refine lv_aload_n hx hb d_W_law_908 rfl (lv_at hl 3 rfl) ?_
  refine lv_aload_n hx hb d_W_law_909 rfl (lv_at hl 1 rfl) ?_
  refine lv_iload hx hb d_W_law_910 (lv_at hl 6 rfl) ?_
  refine lv_iconst (v := 1) hx hb d_W_law_912 (by decide) ?_
  refine lv_iadd hx hb d_W_law_913 ?_
  refine va_sld (A := fun q => s.heap.size ≤ q) hx hb hX hbl hbA hS (vi_in (k := 1) rfl (by omega) hL) d_W_law_914 ?_
  refine lv_aload_n hx hb d_W_law_915 rfl (lv_at hl 1 rfl) ?_
  refine lv_iload hx hb d_W_law_916 (lv_at hl 6 rfl) ?_
  refine lv_iconst (v := 2) hx hb d_W_law_918 (by decide) ?_
  refine lv_iadd hx hb d_W_law_919 ?_
  refine va_sld (A := fun q => s.heap.size ≤ q) hx hb hX hbl hbA hS (vi_in (k := 2) rfl (by omega) hL) d_W_law_920 ?_
  refine va_calli (va_runV (As := [.int (xs (nI i + 1).toNatClampNeg), .int (xs (nI i + 2).toNatClampNeg)]) (rest := []) ⟨hx, hb, hml, hown, hts⟩ (c_M_sent l DM bd kb H1.size u (xs (nI i + 1).toNatClampNeg) (xs (nI i + 2).toNatClampNeg)) (cwV 2 hts (gv mw_783 mw_784 mw_785 mw_6 mw_786) rfl rfl rfl (by decide +kernel) ⟨Nat.le_of_ble_eq_true rfl, Nat.le_of_ble_eq_true rfl⟩) ⟨PM_blind, va_recv hK.2.1 hw.2.1 (ci := 0) (q0 := 0) rfl at_M, fun U hU hW => ⟨rfl, LW_pm hJ hw hK hU hW⟩⟩ rfl rfl hl.1 rfl (lv_room (Nat.le_of_ble_eq_true rfl)) d_W_law_921 ⟨(show _ ≤ 601024 by omega), (show _ ≤ 7293034 by omega)⟩) hS (fun q _ h => hJ.am hS.1 h) (fun q h => hJ.am hS.1 h) (fun r2 u2 tq2 H2 locs ht2 hvm2 hR2 hB2 hz2 hk2 hS => ?_)
  have hw := LW_m hJ hw ht2 hB2 hk2
  refine lv_istore (lv' := [(7, .int r2), (6, .int kr), (0, .ref b), (1, .ref (ad 0)), (2, .ref (bd 0)), (3, .ref qo), (4, .ref qd), (5, .int (nI i))]) hx hb d_W_law_924 hl (by decide) rfl (fun ls hl => ?_)
  refine lv_goto (tgt := 957) hx hb d_W_law_926 (by decide) ?_
  refine W.widen (k := 200 + (i + 5)) (n := 3000 + 4 * (i + 5)) (by omega) (by omega) ?_
  exact l_back hx hb (fun ls hl => kk n r t2 r2 u2 hR hR2 _ _ _ _ ls hw hS hl) (lv_sub hl [2, 3, 4, 5, 6, 7] rfl)
set_option maxHeartbeats 4000000 in
set_option maxRecDepth 100000 in
theorem k_count (C : LC p l s m meth c b L xs D DM ad bd ka kb sa qo qd kl kd) {i : Nat} (hi : i + 5 ≤ L) {t u : Mem} (ho : OKX t) (hu : MOK u)
    (kk : ∀ (n : Nat) (r : Int32) (t2 : Mem) (r2 : Int32) (u2 : Mem), countR t (xs (nI i + 1).toNatClampNeg) = (n, r, t2) → mCount u (xs (nI i + 1).toNatClampNeg) = (r2, u2) → ∀ (f : Nat → Int64) (g : Nat → UInt64) (H : Heap) (locs : List Loc) (ls : Array Slot), LW D DM ad bd ka kb qo qd kl kd t2 u2 f g H → va_S (fun q => s.heap.size ≤ q) s.heap H locs → lv_has ls 9 (lvL b ad bd qo qd (i + 5)) → W p l e room_1 s m #[Value.ref b] below meth c H locs (200 + (i + 5)) (3000 + 4 * (i + 5)) Q (F0 m 28 ls [])) :
    ∀ (f : Nat → Int64) (g : Nat → UInt64) (H : Heap) (locs : List Loc) (ls : Array Slot), LW D DM ad bd ka kb qo qd kl kd t u f g H → va_S (fun q => s.heap.size ≤ q) s.heap H locs → lv_has ls 9 (lvL b ad bd qo qd i) → W p l e room_1 s m #[Value.ref b] below meth c H locs (200 + i) (3000 + 4 * i) Q (F0 m 929 ls []) := by
  intro f g H locs ls hw hS hl
  obtain ⟨C0, hL, hl0, hJ, hK, hZ⟩ := C
  obtain ⟨hx, hb, hr, hml, hown, hts0, hX, hbl, hlocks, hgv⟩ := C0
  have hts := lts hts0
  have hbA : ¬ s.heap.size ≤ b := Nat.not_le.mpr hbl
  obtain ⟨Bd, n0, hBd, hOD, hn0, hn, hls, hb1, hb2, hb3, hm7, hm8⟩ := hu
  have hl : lv_has ls 9 [(0, .ref b), (1, .ref (ad 0)), (2, .ref (bd 0)), (3, .ref qo), (4, .ref qd), (5, .int (nI i))] := hl
  refine lv_aload_n hx hb d_W_law_929 rfl (lv_at hl 1 rfl) ?_
  refine lv_aload_n hx hb d_W_law_930 rfl (lv_at hl 0 rfl) ?_
  refine lv_iload hx hb d_W_law_931 (lv_at hl 5 rfl) ?_
  refine lv_iconst (v := 1) hx hb d_W_law_933 (by decide) ?_
  refine lv_iadd hx hb d_W_law_934 ?_
  refine va_sld (A := fun q => s.heap.size ≤ q) hx hb hX hbl hbA hS (vi_in (k := 1) rfl (by omega) hL) d_W_law_935 ?_
  refine lv_aload_n hx hb d_W_law_936 rfl (lv_at hl 3 rfl) ?_
  refine va_calli (vx_runSW (As := [.ref (ad 0), .int (xs (nI i + 1).toNatClampNeg), .ref qo]) (rest := []) ⟨hx, hb, hml, hown, hts⟩ (c_W_count l hl0 D ad ka sa H.size t ho (xs (nI i + 1).toNatClampNeg) qo kl f) (vx_cwSW 3 hts (gsw mw_565 mw_566 mw_0 mw_567) rfl rfl rfl (by decide +kernel) ⟨Nat.le_of_ble_eq_true rfl, Nat.le_of_ble_eq_true rfl⟩) ⟨PH_blind, fun U hU hW => ⟨rfl, PH_mk hJ hw hK hZ hS hU hW⟩⟩ rfl rfl hl.1 rfl (lv_room (Nat.le_of_ble_eq_true rfl)) d_W_law_937 ⟨(show _ ≤ 601024 by omega), (show _ ≤ 7293034 by omega)⟩) hS (fun q _ h => hJ.ao hS.1 h) (fun q h => hJ.ao hS.1 h) (fun kr zz tq H1 locs ht hvm hq hB hz1 hk1 hS => ?_)
  obtain ⟨t2, f2⟩ := zz
  obtain ⟨n, r, hkn, hn4, hR, hf2⟩ := hq
  have hw : LW D DM ad bd ka kb qo qd kl kd t2 u f2 g H1 := LW_h hJ hw ht hB hk1
  refine lv_istore (lv' := [(6, .int kr), (0, .ref b), (1, .ref (ad 0)), (2, .ref (bd 0)), (3, .ref qo), (4, .ref qd), (5, .int (nI i))]) hx hb d_W_law_940 hl (by decide) rfl (fun ls hl => ?_)
  refine lv_aload_n hx hb d_W_law_942 rfl (lv_at hl 3 rfl) ?_
  refine lv_aload_n hx hb d_W_law_943 rfl (lv_at hl 1 rfl) ?_
  refine lv_iload hx hb d_W_law_944 (lv_at hl 6 rfl) ?_
  refine lv_iconst (v := 1) hx hb d_W_law_946 (by decide) ?_
  refine lv_iadd hx hb d_W_law_947 ?_
  refine va_sld (A := fun q => s.heap.size ≤ q) hx hb hX hbl hbA hS (vi_in (k := 1) rfl (by omega) hL) d_W_law_948 ?_
  refine va_calli (va_runV (As := [.int (xs (nI i + 1).toNatClampNeg)]) (rest := []) ⟨hx, hb, hml, hown, hts⟩ (c_M_count l DM bd kb H1.size u n0 hn0 hn hb3 (xs (nI i + 1).toNatClampNeg)) (cwV 1 hts (gv mw_787 mw_788 mw_789 mw_6 mw_790) rfl rfl rfl (by decide +kernel) ⟨Nat.le_of_ble_eq_true rfl, Nat.le_of_ble_eq_true rfl⟩) ⟨PM_blind, va_recv hK.2.1 hw.2.1 (ci := 0) (q0 := 0) rfl at_M, fun U hU hW => ⟨rfl, LW_pm hJ hw hK hU hW⟩⟩ rfl rfl hl.1 rfl (lv_room (Nat.le_of_ble_eq_true rfl)) d_W_law_949 ⟨(show _ ≤ 601024 by omega), (show _ ≤ 7293034 by omega)⟩) hS (fun q _ h => hJ.am hS.1 h) (fun q h => hJ.am hS.1 h) (fun r2 u2 tq2 H2 locs ht2 hvm2 hR2 hB2 hz2 hk2 hS => ?_)
  have hw := LW_m hJ hw ht2 hB2 hk2
  refine lv_istore (lv' := [(7, .int r2), (6, .int kr), (0, .ref b), (1, .ref (ad 0)), (2, .ref (bd 0)), (3, .ref qo), (4, .ref qd), (5, .int (nI i))]) hx hb d_W_law_952 hl (by decide) rfl (fun ls hl => ?_)
  refine lv_goto (tgt := 957) hx hb d_W_law_954 (by decide) ?_
  refine W.widen (k := 200 + (i + 5)) (n := 3000 + 4 * (i + 5)) (by omega) (by omega) ?_
  exact l_back hx hb (fun ls hl => kk n r t2 r2 u2 hR hR2 _ _ _ _ ls hw hS hl) (lv_sub hl [2, 3, 4, 5, 6, 7] rfl)
end LCS
