section LCS
variable {p : Program} {l : Launch} {e : Env} {s : State} {m : MethodId} {below : List Frame} {meth : Method} {c : Code} {Q : State → Prop} {b L : Nat} {xs : Nat → Int32} {D DM : va_G} {ad bd : Nat → Nat} {ka kb : Nat → ClassId} {sa : Nat → Nat} {qo qd : Nat} {kl kd : ClassId}
set_option maxHeartbeats 4000000 in
set_option maxRecDepth 100000 in
theorem k_judge (C : LC p l s m meth c b L xs D DM ad bd ka kb sa qo qd kl kd) {i : Nat} (hi : i + 5 ≤ L) {t u : Mem} (ho : OKX t) (hu : MOK u)
    (hag : ∀ (n : Nat) (r : Int32) (t2 : Mem) (r2 : Int32) (u2 : Mem), judR t (xs (nI i + 1).toNatClampNeg) (xs (nI i + 2).toNatClampNeg) (xs (nI i + 3).toNatClampNeg) = (n, r, t2) → mJud u (xs (nI i + 1).toNatClampNeg) (xs (nI i + 2).toNatClampNeg) (xs (nI i + 3).toNatClampNeg) = (r2, u2) → gI u2 0 0 = nI n ∧ (n = 0 → r = r2))
    (kk : ∀ (n : Nat) (r : Int32) (t2 : Mem) (r2 : Int32) (u2 : Mem), judR t (xs (nI i + 1).toNatClampNeg) (xs (nI i + 2).toNatClampNeg) (xs (nI i + 3).toNatClampNeg) = (n, r, t2) → mJud u (xs (nI i + 1).toNatClampNeg) (xs (nI i + 2).toNatClampNeg) (xs (nI i + 3).toNatClampNeg) = (r2, u2) → ∀ (f : Nat → Int64) (g : Nat → UInt64) (H : Heap) (locs : List Loc) (ls : Array Slot), LW D DM ad bd ka kb qo qd kl kd t2 u2 f g H → va_S (fun q => s.heap.size ≤ q) s.heap H locs → lv_has ls 9 (lvL b ad bd qo qd (i + 5)) → W p l e room_1 s m #[Value.ref b] below meth c H locs (200 + (i + 5)) (3000 + 4 * (i + 5)) Q (F0 m 28 ls [])) :
    ∀ (f : Nat → Int64) (g : Nat → UInt64) (H : Heap) (locs : List Loc) (ls : Array Slot), LW D DM ad bd ka kb qo qd kl kd t u f g H → va_S (fun q => s.heap.size ≤ q) s.heap H locs → lv_has ls 9 (lvL b ad bd qo qd i) → W p l e room_1 s m #[Value.ref b] below meth c H locs (200 + i) (3000 + 4 * i) Q (F0 m 817 ls []) := by
  intro f g H locs ls hw hS hl
  obtain ⟨C0, hL, hl0, hJ, hK, hZ⟩ := C
  obtain ⟨hx, hb, hr, hml, hown, hts0, hX, hbl, hlocks, hgv⟩ := C0
  have hts := lts hts0
  have hbA : ¬ s.heap.size ≤ b := Nat.not_le.mpr hbl
  obtain ⟨Bd, n0, hBd, hOD, hn0, hn, hls, hb1, hb2, hb3, hm7, hm8⟩ := hu
  have hl : lv_has ls 9 [(0, .ref b), (1, .ref (ad 0)), (2, .ref (bd 0)), (3, .ref qo), (4, .ref qd), (5, .int (nI i))] := hl
  refine lv_aload_n hx hb d_W_law_817 rfl (lv_at hl 1 rfl) ?_
  refine lv_aload_n hx hb d_W_law_818 rfl (lv_at hl 0 rfl) ?_
  refine lv_iload hx hb d_W_law_819 (lv_at hl 5 rfl) ?_
  refine lv_iconst (v := 1) hx hb d_W_law_821 (by decide) ?_
  refine lv_iadd hx hb d_W_law_822 ?_
  refine va_sld (A := fun q => s.heap.size ≤ q) hx hb hX hbl hbA hS (vi_in (k := 1) rfl (by omega) hL) d_W_law_823 ?_
  refine lv_aload_n hx hb d_W_law_824 rfl (lv_at hl 0 rfl) ?_
  refine lv_iload hx hb d_W_law_825 (lv_at hl 5 rfl) ?_
  refine lv_iconst (v := 2) hx hb d_W_law_827 (by decide) ?_
  refine lv_iadd hx hb d_W_law_828 ?_
  refine va_sld (A := fun q => s.heap.size ≤ q) hx hb hX hbl hbA hS (vi_in (k := 2) rfl (by omega) hL) d_W_law_829 ?_
  refine lv_aload_n hx hb d_W_law_830 rfl (lv_at hl 0 rfl) ?_
  refine lv_iload hx hb d_W_law_831 (lv_at hl 5 rfl) ?_
  refine lv_iconst (v := 3) hx hb d_W_law_833 (by decide) ?_
  refine lv_iadd hx hb d_W_law_834 ?_
  refine va_sld (A := fun q => s.heap.size ≤ q) hx hb hX hbl hbA hS (vi_in (k := 3) rfl (by omega) hL) d_W_law_835 ?_
  refine lv_aload_n hx hb d_W_law_836 rfl (lv_at hl 3 rfl) ?_
  refine va_calli (vx_runSW (As := [.ref (ad 0), .int (xs (nI i + 1).toNatClampNeg), .int (xs (nI i + 2).toNatClampNeg), .int (xs (nI i + 3).toNatClampNeg), .ref qo]) (rest := []) ⟨hx, hb, hml, hown, hts⟩ (c_W_judge l hl0 D ad ka sa H.size t ho (xs (nI i + 1).toNatClampNeg) (xs (nI i + 2).toNatClampNeg) (xs (nI i + 3).toNatClampNeg) qo kl f) (vx_cwSW 5 hts (gsw mw_468 mw_469 mw_0 mw_470) rfl rfl rfl (by decide +kernel) ⟨Nat.le_of_ble_eq_true rfl, Nat.le_of_ble_eq_true rfl⟩) ⟨PH_blind, fun U hU hW => ⟨rfl, PH_mk hJ hw hK hZ hS hU hW⟩⟩ rfl rfl hl.1 rfl (lv_room (Nat.le_of_ble_eq_true rfl)) d_W_law_837 ⟨(show _ ≤ 600002 by omega), (show _ ≤ 7302232 by omega)⟩) hS (fun q _ h => hJ.ao hS.1 h) (fun q h => hJ.ao hS.1 h) (fun kr zz tq H1 locs ht hvm hq hB hz1 hk1 hS => ?_)
  obtain ⟨t2, f2⟩ := zz
  obtain ⟨n, r, hkn, hn4, hR, hf2⟩ := hq
  have hw : LW D DM ad bd ka kb qo qd kl kd t2 u f2 g H1 := LW_h hJ hw ht hB hk1
  refine lv_istore (lv' := [(6, .int kr), (0, .ref b), (1, .ref (ad 0)), (2, .ref (bd 0)), (3, .ref qo), (4, .ref qd), (5, .int (nI i))]) hx hb d_W_law_840 hl (by decide) rfl (fun ls hl => ?_)
  refine lv_aload_n hx hb d_W_law_842 rfl (lv_at hl 3 rfl) ?_
  refine lv_aload_n hx hb d_W_law_843 rfl (lv_at hl 1 rfl) ?_
  refine lv_iload hx hb d_W_law_844 (lv_at hl 6 rfl) ?_
  refine lv_iconst (v := 1) hx hb d_W_law_846 (by decide) ?_
  refine lv_iadd hx hb d_W_law_847 ?_
  refine va_sld (A := fun q => s.heap.size ≤ q) hx hb hX hbl hbA hS (vi_in (k := 1) rfl (by omega) hL) d_W_law_848 ?_
  refine lv_aload_n hx hb d_W_law_849 rfl (lv_at hl 1 rfl) ?_
  refine lv_iload hx hb d_W_law_850 (lv_at hl 6 rfl) ?_
  refine lv_iconst (v := 2) hx hb d_W_law_852 (by decide) ?_
  refine lv_iadd hx hb d_W_law_853 ?_
  refine va_sld (A := fun q => s.heap.size ≤ q) hx hb hX hbl hbA hS (vi_in (k := 2) rfl (by omega) hL) d_W_law_854 ?_
  refine lv_aload_n hx hb d_W_law_855 rfl (lv_at hl 1 rfl) ?_
  refine lv_iload hx hb d_W_law_856 (lv_at hl 6 rfl) ?_
  refine lv_iconst (v := 3) hx hb d_W_law_858 (by decide) ?_
  refine lv_iadd hx hb d_W_law_859 ?_
  refine va_sld (A := fun q => s.heap.size ≤ q) hx hb hX hbl hbA hS (vi_in (k := 3) rfl (by omega) hL) d_W_law_860 ?_
  refine va_calli (va_runV (As := [.int (xs (nI i + 1).toNatClampNeg), .int (xs (nI i + 2).toNatClampNeg), .int (xs (nI i + 3).toNatClampNeg)]) (rest := []) ⟨hx, hb, hml, hown, hts⟩ (c_M_judge l DM bd kb H1.size u Bd (by omega) hOD.1 n0 hn0 hn hls hb1 (xs (nI i + 1).toNatClampNeg) (xs (nI i + 2).toNatClampNeg) (xs (nI i + 3).toNatClampNeg)) (cwV 3 hts (gv mw_749 mw_750 mw_751 mw_6 mw_752) rfl rfl rfl (by decide +kernel) ⟨Nat.le_of_ble_eq_true rfl, Nat.le_of_ble_eq_true rfl⟩) ⟨PM_blind, va_recv hK.2.1 hw.2.1 (ci := 0) (q0 := 0) rfl at_M, fun U hU hW => ⟨rfl, LW_pm hJ hw hK hU hW⟩⟩ rfl rfl hl.1 rfl (lv_room (Nat.le_of_ble_eq_true rfl)) d_W_law_861 ⟨(show _ ≤ 600002 by omega), (show _ ≤ 7302232 by omega)⟩) hS (fun q _ h => hJ.am hS.1 h) (fun q h => hJ.am hS.1 h) (fun r2 u2 tq2 H2 locs ht2 hvm2 hR2 hB2 hz2 hk2 hS => ?_)
  have hw := LW_m hJ hw ht2 hB2 hk2
  refine lv_istore (lv' := [(7, .int r2), (6, .int kr), (0, .ref b), (1, .ref (ad 0)), (2, .ref (bd 0)), (3, .ref qo), (4, .ref qd), (5, .int (nI i))]) hx hb d_W_law_864 hl (by decide) rfl (fun ls hl => ?_)
  obtain ⟨ha1, ha2⟩ := hag n r t2 r2 u2 hR hR2
  refine lv_aload_n hx hb d_W_law_866 rfl (lv_at hl 4 rfl) ?_
  refine va_calli (va_runV (As := []) (rest := []) ⟨hx, hb, hml, hown, hts⟩ (c_M_thrown l DM bd kb H2.size u2) (cwV 0 hts (gv mw_685 mw_686 mw_687 mw_6 mw_688) rfl rfl rfl (by decide +kernel) ⟨Nat.le_of_ble_eq_true rfl, Nat.le_of_ble_eq_true rfl⟩) ⟨PM_blind, va_recv hK.2.1 hw.2.1 (ci := 0) (q0 := 0) rfl at_M, fun U hU hW => ⟨rfl, LW_pm hJ hw hK hU hW⟩⟩ rfl rfl hl.1 rfl (lv_room (Nat.le_of_ble_eq_true rfl)) d_W_law_867 ⟨(show _ ≤ 600002 by omega), (show _ ≤ 7302232 by omega)⟩) hS (fun q _ h => hJ.am hS.1 h) (fun q h => hJ.am hS.1 h) (fun r3 u3 tq3 H3 locs ht3 hvm3 hR3 hB3 hz3 hk3 hS => ?_)
  obtain ⟨hr3, hu3⟩ := hR3
  rw [hu3] at hB3
  have hw := LW_m hJ hw ht3 hB3 hk3
  refine lv_iload hx hb d_W_law_870 (lv_at hl 1 rfl) ?_
  refine lv_icmp_eq (tgt := 877) hx hb d_W_law_872 (by decide) (fun c1 => ?_) (fun c1 => absurd (hr3.trans (ha1.trans hkn.symm)) c1)
  refine lv_iload hx hb d_W_law_877 (lv_at hl 1 rfl) ?_
  refine lv_if_ne (tgt := 894) hx hb d_W_law_879 (by decide) (fun c2 => ?_) (fun c2 => ?_)
  ·
    refine lv_goto (tgt := 1431) hx hb d_W_law_894 (by decide) ?_
    refine W.widen (k := 200 + (i + 5)) (n := 3000 + 4 * (i + 5)) (by omega) (by omega) ?_
    exact l_back hx hb (fun ls hl => kk n r t2 r2 u2 hR hR2 _ _ _ _ ls hw hS hl) (lv_sub hl [2, 3, 4, 5, 6, 7] rfl)
  · have hn0 : n = 0 := nI_zero (hkn.symm.trans c2) hn4
    have ha3 := ha2 hn0
    have hf3 : f2 0 = r.toInt64 := hf2 hn0
    refine lv_aload_n hx hb d_W_law_882 rfl (lv_at hl 5 rfl) ?_
    refine lv_iconst (v := 0) hx hb d_W_law_883 (by decide) ?_
    refine va_lald (D := D) hx hb hK.2.2.1 hw.2.2.1 0 0 rfl rfl (by unfold vp_in; decide) d_W_law_884 ?_
    refine lv_iload hx hb d_W_law_885 (lv_at hl 0 rfl) ?_
    refine lv_i2l hx hb d_W_law_887 rfl ?_
    refine W.lcmp hx hb d_W_law_888 ?_
    have hf4 : f2 (0 : Int32).toNatClampNeg = r2.toInt64 := by rw [← ha3]; exact hf3
    refine lv_if_eq (tgt := 894) hx hb d_W_law_889 (by decide) (fun c3 => ?_) (fun c3 => absurd (by rw [hf4]; exact cmp_self _) c3)
    refine lv_goto (tgt := 1431) hx hb d_W_law_894 (by decide) ?_
    refine W.widen (k := 200 + (i + 5)) (n := 3000 + 4 * (i + 5)) (by omega) (by omega) ?_
    exact l_back hx hb (fun ls hl => kk n r t2 r2 u2 hR hR2 _ _ _ _ ls hw hS hl) (lv_sub hl [2, 3, 4, 5, 6, 7] rfl)
set_option maxHeartbeats 4000000 in
set_option maxRecDepth 100000 in
theorem k_bounce (C : LC p l s m meth c b L xs D DM ad bd ka kb sa qo qd kl kd) {i : Nat} (hi : i + 5 ≤ L) {t u : Mem} (ho : OKX t) (hu : MOK u)
    (hag : ∀ (n : Nat) (r : UInt64) (t2 : Mem) (r2 : UInt64) (u2 : Mem), bncR t (xs (nI i + 1).toNatClampNeg) (xs (nI i + 2).toNatClampNeg) (bz (xs (nI i + 3).toNatClampNeg)) = (n, r, t2) → mBnc u (xs (nI i + 1).toNatClampNeg) (xs (nI i + 2).toNatClampNeg) (bz (xs (nI i + 3).toNatClampNeg)) = (r2, u2) → gI u2 0 0 = nI n ∧ (n = 0 → r = r2))
    (kk : ∀ (n : Nat) (r : UInt64) (t2 : Mem) (r2 : UInt64) (u2 : Mem), bncR t (xs (nI i + 1).toNatClampNeg) (xs (nI i + 2).toNatClampNeg) (bz (xs (nI i + 3).toNatClampNeg)) = (n, r, t2) → mBnc u (xs (nI i + 1).toNatClampNeg) (xs (nI i + 2).toNatClampNeg) (bz (xs (nI i + 3).toNatClampNeg)) = (r2, u2) → ∀ (f : Nat → Int64) (g : Nat → UInt64) (H : Heap) (locs : List Loc) (ls : Array Slot), LW D DM ad bd ka kb qo qd kl kd t2 u2 f g H → va_S (fun q => s.heap.size ≤ q) s.heap H locs → lv_has ls 9 (lvL b ad bd qo qd (i + 5)) → W p l e room_1 s m #[Value.ref b] below meth c H locs (200 + (i + 5)) (3000 + 4 * (i + 5)) Q (F0 m 28 ls [])) :
    ∀ (f : Nat → Int64) (g : Nat → UInt64) (H : Heap) (locs : List Loc) (ls : Array Slot), LW D DM ad bd ka kb qo qd kl kd t u f g H → va_S (fun q => s.heap.size ≤ q) s.heap H locs → lv_has ls 9 (lvL b ad bd qo qd i) → W p l e room_1 s m #[Value.ref b] below meth c H locs (200 + i) (3000 + 4 * i) Q (F0 m 897 ls []) := by
  intro f g H locs ls hw hS hl
  obtain ⟨C0, hL, hl0, hJ, hK, hZ⟩ := C
  obtain ⟨hx, hb, hr, hml, hown, hts0, hX, hbl, hlocks, hgv⟩ := C0
  have hts := lts hts0
  have hbA : ¬ s.heap.size ≤ b := Nat.not_le.mpr hbl
  obtain ⟨Bd, n0, hBd, hOD, hn0, hn, hls, hb1, hb2, hb3, hm7, hm8⟩ := hu
  have hl : lv_has ls 9 [(0, .ref b), (1, .ref (ad 0)), (2, .ref (bd 0)), (3, .ref qo), (4, .ref qd), (5, .int (nI i))] := hl
  refine lv_aload_n hx hb d_W_law_897 rfl (lv_at hl 1 rfl) ?_
  refine lv_aload_n hx hb d_W_law_898 rfl (lv_at hl 0 rfl) ?_
  refine lv_iload hx hb d_W_law_899 (lv_at hl 5 rfl) ?_
  refine lv_iconst (v := 1) hx hb d_W_law_901 (by decide) ?_
  refine lv_iadd hx hb d_W_law_902 ?_
  refine va_sld (A := fun q => s.heap.size ≤ q) hx hb hX hbl hbA hS (vi_in (k := 1) rfl (by omega) hL) d_W_law_903 ?_
  refine lv_aload_n hx hb d_W_law_904 rfl (lv_at hl 0 rfl) ?_
  refine lv_iload hx hb d_W_law_905 (lv_at hl 5 rfl) ?_
  refine lv_iconst (v := 2) hx hb d_W_law_907 (by decide) ?_
  refine lv_iadd hx hb d_W_law_908 ?_
  refine va_sld (A := fun q => s.heap.size ≤ q) hx hb hX hbl hbA hS (vi_in (k := 2) rfl (by omega) hL) d_W_law_909 ?_
  refine lv_aload_n hx hb d_W_law_910 rfl (lv_at hl 0 rfl) ?_
  refine lv_iload hx hb d_W_law_911 (lv_at hl 5 rfl) ?_
  refine lv_iconst (v := 3) hx hb d_W_law_913 (by decide) ?_
  refine lv_iadd hx hb d_W_law_914 ?_
  refine va_sld (A := fun q => s.heap.size ≤ q) hx hb hX hbl hbA hS (vi_in (k := 3) rfl (by omega) hL) d_W_law_915 ?_
  refine bz_row hx hb d_W_law_916 d_W_law_919 d_W_law_920 d_W_law_923 ?_
  refine lv_aload hx hb d_W_law_924 (lv_at hl 4 rfl) ?_
  refine va_calli (vx_runSW (As := [.ref (ad 0), .int (xs (nI i + 1).toNatClampNeg), .int (xs (nI i + 2).toNatClampNeg), .int (bz (xs (nI i + 3).toNatClampNeg)), .ref qd]) (rest := []) ⟨hx, hb, hml, hown, hts⟩ (c_W_bounce l hl0 D ad ka sa H.size t ho (xs (nI i + 1).toNatClampNeg) (xs (nI i + 2).toNatClampNeg) (bz (xs (nI i + 3).toNatClampNeg)) qd kd g) (vx_cwSW 5 hts (gsw mw_481 mw_482 mw_0 mw_483) rfl rfl rfl (by decide +kernel) ⟨Nat.le_of_ble_eq_true rfl, Nat.le_of_ble_eq_true rfl⟩) ⟨PH_blind, fun U hU hW => ⟨rfl, PHd_mk hJ hw hK hZ hS hU hW⟩⟩ rfl rfl hl.1 rfl (lv_room (Nat.le_of_ble_eq_true rfl)) d_W_law_926 ⟨(show _ ≤ 600002 by omega), (show _ ≤ 7302232 by omega)⟩) hS (fun q _ h => hJ.aod hS.1 h) (fun q h => hJ.aod hS.1 h) (fun kr zz tq H1 locs ht hvm hq hB hz1 hk1 hS => ?_)
  obtain ⟨t2, g2⟩ := zz
  obtain ⟨n, r, hkn, hn4, hR, hf2⟩ := hq
  have hw : LW D DM ad bd ka kb qo qd kl kd t2 u f g2 H1 := LW_hd hJ hw ht hB hk1
  refine lv_istore (lv' := [(6, .int kr), (0, .ref b), (1, .ref (ad 0)), (2, .ref (bd 0)), (3, .ref qo), (4, .ref qd), (5, .int (nI i))]) hx hb d_W_law_929 hl (by decide) rfl (fun ls hl => ?_)
  refine lv_aload_n hx hb d_W_law_931 rfl (lv_at hl 3 rfl) ?_
  refine lv_aload_n hx hb d_W_law_932 rfl (lv_at hl 1 rfl) ?_
  refine lv_iload hx hb d_W_law_933 (lv_at hl 6 rfl) ?_
  refine lv_iconst (v := 1) hx hb d_W_law_935 (by decide) ?_
  refine lv_iadd hx hb d_W_law_936 ?_
  refine va_sld (A := fun q => s.heap.size ≤ q) hx hb hX hbl hbA hS (vi_in (k := 1) rfl (by omega) hL) d_W_law_937 ?_
  refine lv_aload_n hx hb d_W_law_938 rfl (lv_at hl 1 rfl) ?_
  refine lv_iload hx hb d_W_law_939 (lv_at hl 6 rfl) ?_
  refine lv_iconst (v := 2) hx hb d_W_law_941 (by decide) ?_
  refine lv_iadd hx hb d_W_law_942 ?_
  refine va_sld (A := fun q => s.heap.size ≤ q) hx hb hX hbl hbA hS (vi_in (k := 2) rfl (by omega) hL) d_W_law_943 ?_
  refine lv_aload_n hx hb d_W_law_944 rfl (lv_at hl 1 rfl) ?_
  refine lv_iload hx hb d_W_law_945 (lv_at hl 6 rfl) ?_
  refine lv_iconst (v := 3) hx hb d_W_law_947 (by decide) ?_
  refine lv_iadd hx hb d_W_law_948 ?_
  refine va_sld (A := fun q => s.heap.size ≤ q) hx hb hX hbl hbA hS (vi_in (k := 3) rfl (by omega) hL) d_W_law_949 ?_
  refine bz_row hx hb d_W_law_950 d_W_law_953 d_W_law_954 d_W_law_957 ?_
  refine va_calld (va_runV (As := [.int (xs (nI i + 1).toNatClampNeg), .int (xs (nI i + 2).toNatClampNeg), .int (bz (xs (nI i + 3).toNatClampNeg))]) (rest := []) ⟨hx, hb, hml, hown, hts⟩ (c_M_bounce l DM bd kb H1.size u Bd (by omega) hOD.1 hOD.2 (xs (nI i + 1).toNatClampNeg) (xs (nI i + 2).toNatClampNeg) (bz (xs (nI i + 3).toNatClampNeg))) (cwV 3 hts (gv mw_757 mw_758 mw_759 mw_6 mw_760) rfl rfl rfl (by decide +kernel) ⟨Nat.le_of_ble_eq_true rfl, Nat.le_of_ble_eq_true rfl⟩) ⟨PM_blind, va_recv hK.2.1 hw.2.1 (ci := 0) (q0 := 0) rfl at_M, fun U hU hW => ⟨rfl, LW_pm hJ hw hK hU hW⟩⟩ rfl rfl hl.1 rfl (lv_room (Nat.le_of_ble_eq_true rfl)) d_W_law_958 ⟨(show _ ≤ 600002 by omega), (show _ ≤ 7302232 by omega)⟩) hS (fun q _ h => hJ.am hS.1 h) (fun q h => hJ.am hS.1 h) (fun r2 u2 tq2 H2 locs ht2 hvm2 hR2 hB2 hz2 hk2 hS => ?_)
  have hw := LW_m hJ hw ht2 hB2 hk2
  refine lv_dstore (lv' := [(7, .double r2), (6, .int kr), (0, .ref b), (1, .ref (ad 0)), (2, .ref (bd 0)), (3, .ref qo), (4, .ref qd), (5, .int (nI i))]) hx hb d_W_law_961 hl (by decide) rfl (fun ls hl => ?_)
  obtain ⟨ha1, ha2⟩ := hag n r t2 r2 u2 hR hR2
  refine lv_aload_n hx hb d_W_law_963 rfl (lv_at hl 4 rfl) ?_
  refine va_calli (va_runV (As := []) (rest := []) ⟨hx, hb, hml, hown, hts⟩ (c_M_thrown l DM bd kb H2.size u2) (cwV 0 hts (gv mw_685 mw_686 mw_687 mw_6 mw_688) rfl rfl rfl (by decide +kernel) ⟨Nat.le_of_ble_eq_true rfl, Nat.le_of_ble_eq_true rfl⟩) ⟨PM_blind, va_recv hK.2.1 hw.2.1 (ci := 0) (q0 := 0) rfl at_M, fun U hU hW => ⟨rfl, LW_pm hJ hw hK hU hW⟩⟩ rfl rfl hl.1 rfl (lv_room (Nat.le_of_ble_eq_true rfl)) d_W_law_964 ⟨(show _ ≤ 600002 by omega), (show _ ≤ 7302232 by omega)⟩) hS (fun q _ h => hJ.am hS.1 h) (fun q h => hJ.am hS.1 h) (fun r3 u3 tq3 H3 locs ht3 hvm3 hR3 hB3 hz3 hk3 hS => ?_)
  obtain ⟨hr3, hu3⟩ := hR3
  rw [hu3] at hB3
  have hw := LW_m hJ hw ht3 hB3 hk3
  refine lv_iload hx hb d_W_law_967 (lv_at hl 1 rfl) ?_
  refine lv_icmp_eq (tgt := 974) hx hb d_W_law_969 (by decide) (fun c1 => ?_) (fun c1 => absurd (hr3.trans (ha1.trans hkn.symm)) c1)
  refine lv_iload hx hb d_W_law_974 (lv_at hl 1 rfl) ?_
  refine lv_if_ne (tgt := 1011) hx hb d_W_law_976 (by decide) (fun c2 => ?_) (fun c2 => ?_)
  ·
    refine lv_goto (tgt := 1431) hx hb d_W_law_1011 (by decide) ?_
    refine W.widen (k := 200 + (i + 5)) (n := 3000 + 4 * (i + 5)) (by omega) (by omega) ?_
    exact l_back hx hb (fun ls hl => kk n r t2 r2 u2 hR hR2 _ _ _ _ ls hw hS hl) (lv_sub hl [2, 3, 4, 5, 6, 7] rfl)
  · have hn0 : n = 0 := nI_zero (hkn.symm.trans c2) hn4
    have ha3 := ha2 hn0
    have hf3 : g2 0 = r := hf2 hn0
    refine lv_aload hx hb d_W_law_979 (lv_at hl 6 rfl) ?_
    refine lv_iconst (v := 0) hx hb d_W_law_981 (by decide) ?_
    refine va_dald (D := D) hx hb hK.2.2.2 hw.2.2.2 0 0 rfl rfl (by unfold vp_in; decide) d_W_law_982 ?_
    refine lv_dload hx hb d_W_law_983 (lv_at hl 0 rfl) ?_
    refine lv_dcmp hx hb d_W_law_985 ?_
    have hf4 : g2 (0 : Int32).toNatClampNeg = r2 := hf3.trans ha3
    refine lv_if_eq (tgt := 1011) hx hb d_W_law_986 (by decide) (fun c3 => ?_) (fun c3 => ?_)
    ·
      refine lv_goto (tgt := 1431) hx hb d_W_law_1011 (by decide) ?_
      refine W.widen (k := 200 + (i + 5)) (n := 3000 + 4 * (i + 5)) (by omega) (by omega) ?_
      exact l_back hx hb (fun ls hl => kk n r t2 r2 u2 hR hR2 _ _ _ _ ls hw hS hl) (lv_sub hl [2, 3, 4, 5, 6, 7] rfl)
    · rw [hf4] at c3
      refine lv_aload hx hb d_W_law_989 (lv_at hl 6 rfl) ?_
      refine lv_iconst (v := 0) hx hb d_W_law_991 (by decide) ?_
      refine va_dald (D := D) hx hb hK.2.2.2 hw.2.2.2 0 0 rfl rfl (by unfold vp_in; decide) d_W_law_992 ?_
      refine lv_aload hx hb d_W_law_993 (lv_at hl 6 rfl) ?_
      refine lv_iconst (v := 0) hx hb d_W_law_995 (by decide) ?_
      refine va_dald (D := D) hx hb hK.2.2.2 hw.2.2.2 0 0 rfl rfl (by unfold vp_in; decide) d_W_law_996 ?_
      refine lv_dcmp hx hb d_W_law_997 ?_
      refine lv_if_eq (tgt := 1009) hx hb d_W_law_998 (by decide) (fun c4 => absurd c4 (by rw [hf4]; exact c3)) (fun c4 => ?_)
      refine lv_dload hx hb d_W_law_1001 (lv_at hl 0 rfl) ?_
      refine lv_dload hx hb d_W_law_1003 (lv_at hl 0 rfl) ?_
      refine lv_dcmp hx hb d_W_law_1005 ?_
      refine lv_if_ne (tgt := 1011) hx hb d_W_law_1006 (by decide) (fun c5 => ?_) (fun c5 => absurd c5 c3)
      refine lv_goto (tgt := 1431) hx hb d_W_law_1011 (by decide) ?_
      refine W.widen (k := 200 + (i + 5)) (n := 3000 + 4 * (i + 5)) (by omega) (by omega) ?_
      exact l_back hx hb (fun ls hl => kk n r t2 r2 u2 hR hR2 _ _ _ _ ls hw hS hl) (lv_sub hl [2, 3, 4, 5, 6, 7] rfl)
set_option maxHeartbeats 4000000 in
set_option maxRecDepth 100000 in
theorem k_renew (C : LC p l s m meth c b L xs D DM ad bd ka kb sa qo qd kl kd) {i : Nat} (hi : i + 5 ≤ L) {t u : Mem} (ho : OKX t) (hu : MOK u)
    (hag : ∀ (n : Nat) (r : Int32) (t2 : Mem) (r2 : Int32) (u2 : Mem), renewR t (xs (nI i + 1).toNatClampNeg) (xs (nI i + 2).toNatClampNeg) = (n, r, t2) → mRenew u (xs (nI i + 1).toNatClampNeg) (xs (nI i + 2).toNatClampNeg) = (r2, u2) → gI u2 0 0 = nI n ∧ (n = 0 → r = r2))
    (kk : ∀ (n : Nat) (r : Int32) (t2 : Mem) (r2 : Int32) (u2 : Mem), renewR t (xs (nI i + 1).toNatClampNeg) (xs (nI i + 2).toNatClampNeg) = (n, r, t2) → mRenew u (xs (nI i + 1).toNatClampNeg) (xs (nI i + 2).toNatClampNeg) = (r2, u2) → ∀ (f : Nat → Int64) (g : Nat → UInt64) (H : Heap) (locs : List Loc) (ls : Array Slot), LW D DM ad bd ka kb qo qd kl kd t2 u2 f g H → va_S (fun q => s.heap.size ≤ q) s.heap H locs → lv_has ls 9 (lvL b ad bd qo qd (i + 5)) → W p l e room_1 s m #[Value.ref b] below meth c H locs (200 + (i + 5)) (3000 + 4 * (i + 5)) Q (F0 m 28 ls [])) :
    ∀ (f : Nat → Int64) (g : Nat → UInt64) (H : Heap) (locs : List Loc) (ls : Array Slot), LW D DM ad bd ka kb qo qd kl kd t u f g H → va_S (fun q => s.heap.size ≤ q) s.heap H locs → lv_has ls 9 (lvL b ad bd qo qd i) → W p l e room_1 s m #[Value.ref b] below meth c H locs (200 + i) (3000 + 4 * i) Q (F0 m 1014 ls []) := by
  intro f g H locs ls hw hS hl
  obtain ⟨C0, hL, hl0, hJ, hK, hZ⟩ := C
  obtain ⟨hx, hb, hr, hml, hown, hts0, hX, hbl, hlocks, hgv⟩ := C0
  have hts := lts hts0
  have hbA : ¬ s.heap.size ≤ b := Nat.not_le.mpr hbl
  obtain ⟨Bd, n0, hBd, hOD, hn0, hn, hls, hb1, hb2, hb3, hm7, hm8⟩ := hu
  have hl : lv_has ls 9 [(0, .ref b), (1, .ref (ad 0)), (2, .ref (bd 0)), (3, .ref qo), (4, .ref qd), (5, .int (nI i))] := hl
  refine lv_aload_n hx hb d_W_law_1014 rfl (lv_at hl 1 rfl) ?_
  refine lv_aload_n hx hb d_W_law_1015 rfl (lv_at hl 0 rfl) ?_
  refine lv_iload hx hb d_W_law_1016 (lv_at hl 5 rfl) ?_
  refine lv_iconst (v := 1) hx hb d_W_law_1018 (by decide) ?_
  refine lv_iadd hx hb d_W_law_1019 ?_
  refine va_sld (A := fun q => s.heap.size ≤ q) hx hb hX hbl hbA hS (vi_in (k := 1) rfl (by omega) hL) d_W_law_1020 ?_
  refine lv_aload_n hx hb d_W_law_1021 rfl (lv_at hl 0 rfl) ?_
  refine lv_iload hx hb d_W_law_1022 (lv_at hl 5 rfl) ?_
  refine lv_iconst (v := 2) hx hb d_W_law_1024 (by decide) ?_
  refine lv_iadd hx hb d_W_law_1025 ?_
  refine va_sld (A := fun q => s.heap.size ≤ q) hx hb hX hbl hbA hS (vi_in (k := 2) rfl (by omega) hL) d_W_law_1026 ?_
  refine lv_aload_n hx hb d_W_law_1027 rfl (lv_at hl 3 rfl) ?_
  refine va_calli (vx_runSW (As := [.ref (ad 0), .int (xs (nI i + 1).toNatClampNeg), .int (xs (nI i + 2).toNatClampNeg), .ref qo]) (rest := []) ⟨hx, hb, hml, hown, hts⟩ (c_W_renew l hl0 D ad ka sa H.size t (xs (nI i + 1).toNatClampNeg) (xs (nI i + 2).toNatClampNeg) qo kl f) (vx_cwSW 4 hts (gsw mw_493 mw_494 mw_0 mw_495) rfl rfl rfl (by decide +kernel) ⟨Nat.le_of_ble_eq_true rfl, Nat.le_of_ble_eq_true rfl⟩) ⟨PH_blind, fun U hU hW => ⟨rfl, PH_mk hJ hw hK hZ hS hU hW⟩⟩ rfl rfl hl.1 rfl (lv_room (Nat.le_of_ble_eq_true rfl)) d_W_law_1028 ⟨(show _ ≤ 600002 by omega), (show _ ≤ 7302232 by omega)⟩) hS (fun q _ h => hJ.ao hS.1 h) (fun q h => hJ.ao hS.1 h) (fun kr zz tq H1 locs ht hvm hq hB hz1 hk1 hS => ?_)
  obtain ⟨t2, f2⟩ := zz
  obtain ⟨n, r, hkn, hn4, hR, hf2⟩ := hq
  have hw : LW D DM ad bd ka kb qo qd kl kd t2 u f2 g H1 := LW_h hJ hw ht hB hk1
  refine lv_istore (lv' := [(6, .int kr), (0, .ref b), (1, .ref (ad 0)), (2, .ref (bd 0)), (3, .ref qo), (4, .ref qd), (5, .int (nI i))]) hx hb d_W_law_1031 hl (by decide) rfl (fun ls hl => ?_)
  refine lv_aload_n hx hb d_W_law_1033 rfl (lv_at hl 3 rfl) ?_
  refine lv_aload_n hx hb d_W_law_1034 rfl (lv_at hl 1 rfl) ?_
  refine lv_iload hx hb d_W_law_1035 (lv_at hl 6 rfl) ?_
  refine lv_iconst (v := 1) hx hb d_W_law_1037 (by decide) ?_
  refine lv_iadd hx hb d_W_law_1038 ?_
  refine va_sld (A := fun q => s.heap.size ≤ q) hx hb hX hbl hbA hS (vi_in (k := 1) rfl (by omega) hL) d_W_law_1039 ?_
  refine lv_aload_n hx hb d_W_law_1040 rfl (lv_at hl 1 rfl) ?_
  refine lv_iload hx hb d_W_law_1041 (lv_at hl 6 rfl) ?_
  refine lv_iconst (v := 2) hx hb d_W_law_1043 (by decide) ?_
  refine lv_iadd hx hb d_W_law_1044 ?_
  refine va_sld (A := fun q => s.heap.size ≤ q) hx hb hX hbl hbA hS (vi_in (k := 2) rfl (by omega) hL) d_W_law_1045 ?_
  refine va_calli (va_runV (As := [.int (xs (nI i + 1).toNatClampNeg), .int (xs (nI i + 2).toNatClampNeg)]) (rest := []) ⟨hx, hb, hml, hown, hts⟩ (c_M_renew l DM bd kb H1.size u (xs (nI i + 1).toNatClampNeg) (xs (nI i + 2).toNatClampNeg)) (cwV 2 hts (gv mw_761 mw_762 mw_763 mw_6 mw_764) rfl rfl rfl (by decide +kernel) ⟨Nat.le_of_ble_eq_true rfl, Nat.le_of_ble_eq_true rfl⟩) ⟨PM_blind, va_recv hK.2.1 hw.2.1 (ci := 0) (q0 := 0) rfl at_M, fun U hU hW => ⟨rfl, LW_pm hJ hw hK hU hW⟩⟩ rfl rfl hl.1 rfl (lv_room (Nat.le_of_ble_eq_true rfl)) d_W_law_1046 ⟨(show _ ≤ 600002 by omega), (show _ ≤ 7302232 by omega)⟩) hS (fun q _ h => hJ.am hS.1 h) (fun q h => hJ.am hS.1 h) (fun r2 u2 tq2 H2 locs ht2 hvm2 hR2 hB2 hz2 hk2 hS => ?_)
  have hw := LW_m hJ hw ht2 hB2 hk2
  refine lv_istore (lv' := [(7, .int r2), (6, .int kr), (0, .ref b), (1, .ref (ad 0)), (2, .ref (bd 0)), (3, .ref qo), (4, .ref qd), (5, .int (nI i))]) hx hb d_W_law_1049 hl (by decide) rfl (fun ls hl => ?_)
  obtain ⟨ha1, ha2⟩ := hag n r t2 r2 u2 hR hR2
  refine lv_aload_n hx hb d_W_law_1051 rfl (lv_at hl 4 rfl) ?_
  refine va_calli (va_runV (As := []) (rest := []) ⟨hx, hb, hml, hown, hts⟩ (c_M_thrown l DM bd kb H2.size u2) (cwV 0 hts (gv mw_685 mw_686 mw_687 mw_6 mw_688) rfl rfl rfl (by decide +kernel) ⟨Nat.le_of_ble_eq_true rfl, Nat.le_of_ble_eq_true rfl⟩) ⟨PM_blind, va_recv hK.2.1 hw.2.1 (ci := 0) (q0 := 0) rfl at_M, fun U hU hW => ⟨rfl, LW_pm hJ hw hK hU hW⟩⟩ rfl rfl hl.1 rfl (lv_room (Nat.le_of_ble_eq_true rfl)) d_W_law_1052 ⟨(show _ ≤ 600002 by omega), (show _ ≤ 7302232 by omega)⟩) hS (fun q _ h => hJ.am hS.1 h) (fun q h => hJ.am hS.1 h) (fun r3 u3 tq3 H3 locs ht3 hvm3 hR3 hB3 hz3 hk3 hS => ?_)
  obtain ⟨hr3, hu3⟩ := hR3
  rw [hu3] at hB3
  have hw := LW_m hJ hw ht3 hB3 hk3
  refine lv_iload hx hb d_W_law_1055 (lv_at hl 1 rfl) ?_
  refine lv_icmp_eq (tgt := 1062) hx hb d_W_law_1057 (by decide) (fun c1 => ?_) (fun c1 => absurd (hr3.trans (ha1.trans hkn.symm)) c1)
  refine lv_iload hx hb d_W_law_1062 (lv_at hl 1 rfl) ?_
  refine lv_if_ne (tgt := 1079) hx hb d_W_law_1064 (by decide) (fun c2 => ?_) (fun c2 => ?_)
  ·
    refine lv_goto (tgt := 1431) hx hb d_W_law_1079 (by decide) ?_
    refine W.widen (k := 200 + (i + 5)) (n := 3000 + 4 * (i + 5)) (by omega) (by omega) ?_
    exact l_back hx hb (fun ls hl => kk n r t2 r2 u2 hR hR2 _ _ _ _ ls hw hS hl) (lv_sub hl [2, 3, 4, 5, 6, 7] rfl)
  · have hn0 : n = 0 := nI_zero (hkn.symm.trans c2) hn4
    have ha3 := ha2 hn0
    have hf3 : f2 0 = r.toInt64 := hf2 hn0
    refine lv_aload_n hx hb d_W_law_1067 rfl (lv_at hl 5 rfl) ?_
    refine lv_iconst (v := 0) hx hb d_W_law_1068 (by decide) ?_
    refine va_lald (D := D) hx hb hK.2.2.1 hw.2.2.1 0 0 rfl rfl (by unfold vp_in; decide) d_W_law_1069 ?_
    refine lv_iload hx hb d_W_law_1070 (lv_at hl 0 rfl) ?_
    refine lv_i2l hx hb d_W_law_1072 rfl ?_
    refine W.lcmp hx hb d_W_law_1073 ?_
    have hf4 : f2 (0 : Int32).toNatClampNeg = r2.toInt64 := by rw [← ha3]; exact hf3
    refine lv_if_eq (tgt := 1079) hx hb d_W_law_1074 (by decide) (fun c3 => ?_) (fun c3 => absurd (by rw [hf4]; exact cmp_self _) c3)
    refine lv_goto (tgt := 1431) hx hb d_W_law_1079 (by decide) ?_
    refine W.widen (k := 200 + (i + 5)) (n := 3000 + 4 * (i + 5)) (by omega) (by omega) ?_
    exact l_back hx hb (fun ls hl => kk n r t2 r2 u2 hR hR2 _ _ _ _ ls hw hS hl) (lv_sub hl [2, 3, 4, 5, 6, 7] rfl)
set_option maxHeartbeats 4000000 in
set_option maxRecDepth 100000 in
theorem k_tick (C : LC p l s m meth c b L xs D DM ad bd ka kb sa qo qd kl kd) {i : Nat} (hi : i + 5 ≤ L) {t u : Mem} (ho : OKX t) (hu : MOK u)
    (hag : ∀ (n : Nat) (r : Int32) (t2 : Mem) (r2 : Int32) (u2 : Mem), tickR t (xs (nI i + 1).toNatClampNeg) = (n, r, t2) → mTick u (xs (nI i + 1).toNatClampNeg) = (r2, u2) → gI u2 0 0 = nI n ∧ (n = 0 → r = r2))
    (kk : ∀ (n : Nat) (r : Int32) (t2 : Mem) (r2 : Int32) (u2 : Mem), tickR t (xs (nI i + 1).toNatClampNeg) = (n, r, t2) → mTick u (xs (nI i + 1).toNatClampNeg) = (r2, u2) → ∀ (f : Nat → Int64) (g : Nat → UInt64) (H : Heap) (locs : List Loc) (ls : Array Slot), LW D DM ad bd ka kb qo qd kl kd t2 u2 f g H → va_S (fun q => s.heap.size ≤ q) s.heap H locs → lv_has ls 9 (lvL b ad bd qo qd (i + 5)) → W p l e room_1 s m #[Value.ref b] below meth c H locs (200 + (i + 5)) (3000 + 4 * (i + 5)) Q (F0 m 28 ls [])) :
    ∀ (f : Nat → Int64) (g : Nat → UInt64) (H : Heap) (locs : List Loc) (ls : Array Slot), LW D DM ad bd ka kb qo qd kl kd t u f g H → va_S (fun q => s.heap.size ≤ q) s.heap H locs → lv_has ls 9 (lvL b ad bd qo qd i) → W p l e room_1 s m #[Value.ref b] below meth c H locs (200 + i) (3000 + 4 * i) Q (F0 m 1082 ls []) := by
  intro f g H locs ls hw hS hl
  obtain ⟨C0, hL, hl0, hJ, hK, hZ⟩ := C
  obtain ⟨hx, hb, hr, hml, hown, hts0, hX, hbl, hlocks, hgv⟩ := C0
  have hts := lts hts0
  have hbA : ¬ s.heap.size ≤ b := Nat.not_le.mpr hbl
  obtain ⟨Bd, n0, hBd, hOD, hn0, hn, hls, hb1, hb2, hb3, hm7, hm8⟩ := hu
  have hl : lv_has ls 9 [(0, .ref b), (1, .ref (ad 0)), (2, .ref (bd 0)), (3, .ref qo), (4, .ref qd), (5, .int (nI i))] := hl
  refine lv_aload_n hx hb d_W_law_1082 rfl (lv_at hl 1 rfl) ?_
  refine lv_aload_n hx hb d_W_law_1083 rfl (lv_at hl 0 rfl) ?_
  refine lv_iload hx hb d_W_law_1084 (lv_at hl 5 rfl) ?_
  refine lv_iconst (v := 1) hx hb d_W_law_1086 (by decide) ?_
  refine lv_iadd hx hb d_W_law_1087 ?_
  refine va_sld (A := fun q => s.heap.size ≤ q) hx hb hX hbl hbA hS (vi_in (k := 1) rfl (by omega) hL) d_W_law_1088 ?_
  refine lv_aload_n hx hb d_W_law_1089 rfl (lv_at hl 3 rfl) ?_
  refine va_calli (vx_runSW (As := [.ref (ad 0), .int (xs (nI i + 1).toNatClampNeg), .ref qo]) (rest := []) ⟨hx, hb, hml, hown, hts⟩ (c_W_tick l hl0 D ad ka sa H.size t ho (xs (nI i + 1).toNatClampNeg) qo kl f) (vx_cwSW 3 hts (gsw mw_501 mw_502 mw_0 mw_503) rfl rfl rfl (by decide +kernel) ⟨Nat.le_of_ble_eq_true rfl, Nat.le_of_ble_eq_true rfl⟩) ⟨PH_blind, fun U hU hW => ⟨rfl, PH_mk hJ hw hK hZ hS hU hW⟩⟩ rfl rfl hl.1 rfl (lv_room (Nat.le_of_ble_eq_true rfl)) d_W_law_1090 ⟨(show _ ≤ 600002 by omega), (show _ ≤ 7302232 by omega)⟩) hS (fun q _ h => hJ.ao hS.1 h) (fun q h => hJ.ao hS.1 h) (fun kr zz tq H1 locs ht hvm hq hB hz1 hk1 hS => ?_)
  obtain ⟨t2, f2⟩ := zz
  obtain ⟨n, r, hkn, hn4, hR, hf2⟩ := hq
  have hw : LW D DM ad bd ka kb qo qd kl kd t2 u f2 g H1 := LW_h hJ hw ht hB hk1
  refine lv_istore (lv' := [(6, .int kr), (0, .ref b), (1, .ref (ad 0)), (2, .ref (bd 0)), (3, .ref qo), (4, .ref qd), (5, .int (nI i))]) hx hb d_W_law_1093 hl (by decide) rfl (fun ls hl => ?_)
  refine lv_aload_n hx hb d_W_law_1095 rfl (lv_at hl 3 rfl) ?_
  refine lv_aload_n hx hb d_W_law_1096 rfl (lv_at hl 1 rfl) ?_
  refine lv_iload hx hb d_W_law_1097 (lv_at hl 6 rfl) ?_
  refine lv_iconst (v := 1) hx hb d_W_law_1099 (by decide) ?_
  refine lv_iadd hx hb d_W_law_1100 ?_
  refine va_sld (A := fun q => s.heap.size ≤ q) hx hb hX hbl hbA hS (vi_in (k := 1) rfl (by omega) hL) d_W_law_1101 ?_
  refine va_calli (va_runV (As := [.int (xs (nI i + 1).toNatClampNeg)]) (rest := []) ⟨hx, hb, hml, hown, hts⟩ (c_M_tick l DM bd kb H1.size u Bd (by omega) hOD (xs (nI i + 1).toNatClampNeg)) (cwV 1 hts (gv mw_765 mw_766 mw_767 mw_6 mw_768) rfl rfl rfl (by decide +kernel) ⟨Nat.le_of_ble_eq_true rfl, Nat.le_of_ble_eq_true rfl⟩) ⟨PM_blind, va_recv hK.2.1 hw.2.1 (ci := 0) (q0 := 0) rfl at_M, fun U hU hW => ⟨rfl, LW_pm hJ hw hK hU hW⟩⟩ rfl rfl hl.1 rfl (lv_room (Nat.le_of_ble_eq_true rfl)) d_W_law_1102 ⟨(show _ ≤ 600002 by omega), (show _ ≤ 7302232 by omega)⟩) hS (fun q _ h => hJ.am hS.1 h) (fun q h => hJ.am hS.1 h) (fun r2 u2 tq2 H2 locs ht2 hvm2 hR2 hB2 hz2 hk2 hS => ?_)
  have hw := LW_m hJ hw ht2 hB2 hk2
  refine lv_istore (lv' := [(7, .int r2), (6, .int kr), (0, .ref b), (1, .ref (ad 0)), (2, .ref (bd 0)), (3, .ref qo), (4, .ref qd), (5, .int (nI i))]) hx hb d_W_law_1105 hl (by decide) rfl (fun ls hl => ?_)
  obtain ⟨ha1, ha2⟩ := hag n r t2 r2 u2 hR hR2
  refine lv_aload_n hx hb d_W_law_1107 rfl (lv_at hl 4 rfl) ?_
  refine va_calli (va_runV (As := []) (rest := []) ⟨hx, hb, hml, hown, hts⟩ (c_M_thrown l DM bd kb H2.size u2) (cwV 0 hts (gv mw_685 mw_686 mw_687 mw_6 mw_688) rfl rfl rfl (by decide +kernel) ⟨Nat.le_of_ble_eq_true rfl, Nat.le_of_ble_eq_true rfl⟩) ⟨PM_blind, va_recv hK.2.1 hw.2.1 (ci := 0) (q0 := 0) rfl at_M, fun U hU hW => ⟨rfl, LW_pm hJ hw hK hU hW⟩⟩ rfl rfl hl.1 rfl (lv_room (Nat.le_of_ble_eq_true rfl)) d_W_law_1108 ⟨(show _ ≤ 600002 by omega), (show _ ≤ 7302232 by omega)⟩) hS (fun q _ h => hJ.am hS.1 h) (fun q h => hJ.am hS.1 h) (fun r3 u3 tq3 H3 locs ht3 hvm3 hR3 hB3 hz3 hk3 hS => ?_)
  obtain ⟨hr3, hu3⟩ := hR3
  rw [hu3] at hB3
  have hw := LW_m hJ hw ht3 hB3 hk3
  refine lv_iload hx hb d_W_law_1111 (lv_at hl 1 rfl) ?_
  refine lv_icmp_eq (tgt := 1118) hx hb d_W_law_1113 (by decide) (fun c1 => ?_) (fun c1 => absurd (hr3.trans (ha1.trans hkn.symm)) c1)
  refine lv_iload hx hb d_W_law_1118 (lv_at hl 1 rfl) ?_
  refine lv_if_ne (tgt := 1135) hx hb d_W_law_1120 (by decide) (fun c2 => ?_) (fun c2 => ?_)
  ·
    refine lv_goto (tgt := 1431) hx hb d_W_law_1135 (by decide) ?_
    refine W.widen (k := 200 + (i + 5)) (n := 3000 + 4 * (i + 5)) (by omega) (by omega) ?_
    exact l_back hx hb (fun ls hl => kk n r t2 r2 u2 hR hR2 _ _ _ _ ls hw hS hl) (lv_sub hl [2, 3, 4, 5, 6, 7] rfl)
  · have hn0 : n = 0 := nI_zero (hkn.symm.trans c2) hn4
    have ha3 := ha2 hn0
    have hf3 : f2 0 = r.toInt64 := hf2 hn0
    refine lv_aload_n hx hb d_W_law_1123 rfl (lv_at hl 5 rfl) ?_
    refine lv_iconst (v := 0) hx hb d_W_law_1124 (by decide) ?_
    refine va_lald (D := D) hx hb hK.2.2.1 hw.2.2.1 0 0 rfl rfl (by unfold vp_in; decide) d_W_law_1125 ?_
    refine lv_iload hx hb d_W_law_1126 (lv_at hl 0 rfl) ?_
    refine lv_i2l hx hb d_W_law_1128 rfl ?_
    refine W.lcmp hx hb d_W_law_1129 ?_
    have hf4 : f2 (0 : Int32).toNatClampNeg = r2.toInt64 := by rw [← ha3]; exact hf3
    refine lv_if_eq (tgt := 1135) hx hb d_W_law_1130 (by decide) (fun c3 => ?_) (fun c3 => absurd (by rw [hf4]; exact cmp_self _) c3)
    refine lv_goto (tgt := 1431) hx hb d_W_law_1135 (by decide) ?_
    refine W.widen (k := 200 + (i + 5)) (n := 3000 + 4 * (i + 5)) (by omega) (by omega) ?_
    exact l_back hx hb (fun ls hl => kk n r t2 r2 u2 hR hR2 _ _ _ _ ls hw hS hl) (lv_sub hl [2, 3, 4, 5, 6, 7] rfl)
end LCS
