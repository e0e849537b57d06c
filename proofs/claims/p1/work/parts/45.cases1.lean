section LCS
variable {p : Program} {l : Launch} {e : Env} {s : State} {m : MethodId} {below : List Frame} {meth : Method} {c : Code} {Q : State → Prop} {b L : Nat} {xs : Nat → Int32} {D DM : va_G} {ad bd : Nat → Nat} {ka kb : Nat → ClassId} {sa : Nat → Nat} {qo qd : Nat} {kl kd : ClassId}
set_option maxHeartbeats 4000000 in
set_option maxRecDepth 100000 in
theorem k_moderator (C : LC p l s m meth c b L xs D DM ad bd ka kb sa qo qd kl kd) {i : Nat} (hi : i + 5 ≤ L) {t u : Mem} (ho : OKX t) (hu : MOK u)
    (hag : ∀ (n : Nat) (r : Int32) (t2 : Mem) (r2 : Int32) (u2 : Mem), modR t (xs (nI i + 1).toNatClampNeg) (xs (nI i + 2).toNatClampNeg) (bz (xs (nI i + 3).toNatClampNeg)) = (n, r, t2) → mMod u (xs (nI i + 1).toNatClampNeg) (xs (nI i + 2).toNatClampNeg) (bz (xs (nI i + 3).toNatClampNeg)) = (r2, u2) → gI u2 0 0 = nI n ∧ (n = 0 → r = r2))
    (kk : ∀ (n : Nat) (r : Int32) (t2 : Mem) (r2 : Int32) (u2 : Mem), modR t (xs (nI i + 1).toNatClampNeg) (xs (nI i + 2).toNatClampNeg) (bz (xs (nI i + 3).toNatClampNeg)) = (n, r, t2) → mMod u (xs (nI i + 1).toNatClampNeg) (xs (nI i + 2).toNatClampNeg) (bz (xs (nI i + 3).toNatClampNeg)) = (r2, u2) → ∀ (f : Nat → Int64) (g : Nat → UInt64) (H : Heap) (locs : List Loc) (ls : Array Slot), LW D DM ad bd ka kb qo qd kl kd t2 u2 f g H → va_S (fun q => s.heap.size ≤ q) s.heap H locs → lv_has ls 9 (lvL b ad bd qo qd (i + 5)) → W p l e room_1 s m #[Value.ref b] below meth c H locs (200 + (i + 5)) (3000 + 4 * (i + 5)) Q (F0 m 28 ls [])) :
    ∀ (f : Nat → Int64) (g : Nat → UInt64) (H : Heap) (locs : List Loc) (ls : Array Slot), LW D DM ad bd ka kb qo qd kl kd t u f g H → va_S (fun q => s.heap.size ≤ q) s.heap H locs → lv_has ls 9 (lvL b ad bd qo qd i) → W p l e room_1 s m #[Value.ref b] below meth c H locs (200 + i) (3000 + 4 * i) Q (F0 m 408 ls []) := by
  intro f g H locs ls hw hS hl
  obtain ⟨C0, hL, hl0, hJ, hK, hZ⟩ := C
  obtain ⟨hx, hb, hr, hml, hown, hts0, hX, hbl, hlocks, hgv⟩ := C0
  have hts := lts hts0
  have hbA : ¬ s.heap.size ≤ b := Nat.not_le.mpr hbl
  obtain ⟨Bd, n0, hBd, hOD, hn0, hn, hls, hb1, hb2, hb3, hm7, hm8⟩ := hu
  have hl : lv_has ls 9 [(0, .ref b), (1, .ref (ad 0)), (2, .ref (bd 0)), (3, .ref qo), (4, .ref qd), (5, .int (nI i))] := hl
  have hz : b01 (bz (xs (nI i + 3).toNatClampNeg)) := bz_01 _
  refine lv_aload_n hx hb d_W_law_408 rfl (lv_at hl 1 rfl) ?_
  refine lv_aload_n hx hb d_W_law_409 rfl (lv_at hl 0 rfl) ?_
  refine lv_iload hx hb d_W_law_410 (lv_at hl 5 rfl) ?_
  refine lv_iconst (v := 1) hx hb d_W_law_412 (by decide) ?_
  refine lv_iadd hx hb d_W_law_413 ?_
  refine va_sld (A := fun q => s.heap.size ≤ q) hx hb hX hbl hbA hS (vi_in (k := 1) rfl (by omega) hL) d_W_law_414 ?_
  refine lv_aload_n hx hb d_W_law_415 rfl (lv_at hl 0 rfl) ?_
  refine lv_iload hx hb d_W_law_416 (lv_at hl 5 rfl) ?_
  refine lv_iconst (v := 2) hx hb d_W_law_418 (by decide) ?_
  refine lv_iadd hx hb d_W_law_419 ?_
  refine va_sld (A := fun q => s.heap.size ≤ q) hx hb hX hbl hbA hS (vi_in (k := 2) rfl (by omega) hL) d_W_law_420 ?_
  refine lv_aload_n hx hb d_W_law_421 rfl (lv_at hl 0 rfl) ?_
  refine lv_iload hx hb d_W_law_422 (lv_at hl 5 rfl) ?_
  refine lv_iconst (v := 3) hx hb d_W_law_424 (by decide) ?_
  refine lv_iadd hx hb d_W_law_425 ?_
  refine va_sld (A := fun q => s.heap.size ≤ q) hx hb hX hbl hbA hS (vi_in (k := 3) rfl (by omega) hL) d_W_law_426 ?_
  refine bz_row hx hb d_W_law_427 d_W_law_430 d_W_law_431 d_W_law_434 ?_
  refine lv_aload_n hx hb d_W_law_435 rfl (lv_at hl 3 rfl) ?_
  refine va_calli (vx_runSW (As := [.ref (ad 0), .int (xs (nI i + 1).toNatClampNeg), .int (xs (nI i + 2).toNatClampNeg), .int (bz (xs (nI i + 3).toNatClampNeg)), .ref qo]) (rest := []) ⟨hx, hb, hml, hown, hts⟩ (c_W_moderator l hl0 D ad ka sa H.size t ho (xs (nI i + 1).toNatClampNeg) (xs (nI i + 2).toNatClampNeg) (bz (xs (nI i + 3).toNatClampNeg)) hz qo kl f) (vx_cwSW 5 hts (gsw mw_374 mw_375 mw_0 mw_376) rfl rfl rfl (by decide +kernel) ⟨Nat.le_of_ble_eq_true rfl, Nat.le_of_ble_eq_true rfl⟩) ⟨PH_blind, fun U hU hW => ⟨rfl, PH_mk hJ hw hK hZ hS hU hW⟩⟩ rfl rfl hl.1 rfl (lv_room (Nat.le_of_ble_eq_true rfl)) d_W_law_436 ⟨(show _ ≤ 600002 by omega), (show _ ≤ 7302232 by omega)⟩) hS (fun q _ h => hJ.ao hS.1 h) (fun q h => hJ.ao hS.1 h) (fun kr zz tq H1 locs ht hvm hq hB hz1 hk1 hS => ?_)
  obtain ⟨t2, f2⟩ := zz
  obtain ⟨n, r, hkn, hn4, hR, hf2⟩ := hq
  have hw : LW D DM ad bd ka kb qo qd kl kd t2 u f2 g H1 := LW_h hJ hw ht hB hk1
  refine lv_istore (lv' := [(6, .int kr), (0, .ref b), (1, .ref (ad 0)), (2, .ref (bd 0)), (3, .ref qo), (4, .ref qd), (5, .int (nI i))]) hx hb d_W_law_439 hl (by decide) rfl (fun ls hl => ?_)
  refine lv_aload_n hx hb d_W_law_441 rfl (lv_at hl 3 rfl) ?_
  refine lv_aload_n hx hb d_W_law_442 rfl (lv_at hl 1 rfl) ?_
  refine lv_iload hx hb d_W_law_443 (lv_at hl 6 rfl) ?_
  refine lv_iconst (v := 1) hx hb d_W_law_445 (by decide) ?_
  refine lv_iadd hx hb d_W_law_446 ?_
  refine va_sld (A := fun q => s.heap.size ≤ q) hx hb hX hbl hbA hS (vi_in (k := 1) rfl (by omega) hL) d_W_law_447 ?_
  refine lv_aload_n hx hb d_W_law_448 rfl (lv_at hl 1 rfl) ?_
  refine lv_iload hx hb d_W_law_449 (lv_at hl 6 rfl) ?_
  refine lv_iconst (v := 2) hx hb d_W_law_451 (by decide) ?_
  refine lv_iadd hx hb d_W_law_452 ?_
  refine va_sld (A := fun q => s.heap.size ≤ q) hx hb hX hbl hbA hS (vi_in (k := 2) rfl (by omega) hL) d_W_law_453 ?_
  refine lv_aload_n hx hb d_W_law_454 rfl (lv_at hl 1 rfl) ?_
  refine lv_iload hx hb d_W_law_455 (lv_at hl 6 rfl) ?_
  refine lv_iconst (v := 3) hx hb d_W_law_457 (by decide) ?_
  refine lv_iadd hx hb d_W_law_458 ?_
  refine va_sld (A := fun q => s.heap.size ≤ q) hx hb hX hbl hbA hS (vi_in (k := 3) rfl (by omega) hL) d_W_law_459 ?_
  refine bz_row hx hb d_W_law_460 d_W_law_463 d_W_law_464 d_W_law_467 ?_
  refine va_calli (va_runV (As := [.int (xs (nI i + 1).toNatClampNeg), .int (xs (nI i + 2).toNatClampNeg), .int (bz (xs (nI i + 3).toNatClampNeg))]) (rest := []) ⟨hx, hb, hml, hown, hts⟩ (c_M_moderator l DM bd kb H1.size u hm7 (xs (nI i + 1).toNatClampNeg) (xs (nI i + 2).toNatClampNeg) (bz (xs (nI i + 3).toNatClampNeg)) hz) (cwV 3 hts (gv mw_719 mw_720 mw_721 mw_6 mw_722) rfl rfl rfl (by decide +kernel) ⟨Nat.le_of_ble_eq_true rfl, Nat.le_of_ble_eq_true rfl⟩) ⟨PM_blind, va_recv hK.2.1 hw.2.1 (ci := 0) (q0 := 0) rfl at_M, fun U hU hW => ⟨rfl, LW_pm hJ hw hK hU hW⟩⟩ rfl rfl hl.1 rfl (lv_room (Nat.le_of_ble_eq_true rfl)) d_W_law_468 ⟨(show _ ≤ 600002 by omega), (show _ ≤ 7302232 by omega)⟩) hS (fun q _ h => hJ.am hS.1 h) (fun q h => hJ.am hS.1 h) (fun r2 u2 tq2 H2 locs ht2 hvm2 hR2 hB2 hz2 hk2 hS => ?_)
  have hw := LW_m hJ hw ht2 hB2 hk2
  refine lv_istore (lv' := [(7, .int r2), (6, .int kr), (0, .ref b), (1, .ref (ad 0)), (2, .ref (bd 0)), (3, .ref qo), (4, .ref qd), (5, .int (nI i))]) hx hb d_W_law_471 hl (by decide) rfl (fun ls hl => ?_)
  obtain ⟨ha1, ha2⟩ := hag n r t2 r2 u2 hR hR2
  refine lv_aload_n hx hb d_W_law_473 rfl (lv_at hl 4 rfl) ?_
  refine va_calli (va_runV (As := []) (rest := []) ⟨hx, hb, hml, hown, hts⟩ (c_M_thrown l DM bd kb H2.size u2) (cwV 0 hts (gv mw_685 mw_686 mw_687 mw_6 mw_688) rfl rfl rfl (by decide +kernel) ⟨Nat.le_of_ble_eq_true rfl, Nat.le_of_ble_eq_true rfl⟩) ⟨PM_blind, va_recv hK.2.1 hw.2.1 (ci := 0) (q0 := 0) rfl at_M, fun U hU hW => ⟨rfl, LW_pm hJ hw hK hU hW⟩⟩ rfl rfl hl.1 rfl (lv_room (Nat.le_of_ble_eq_true rfl)) d_W_law_474 ⟨(show _ ≤ 600002 by omega), (show _ ≤ 7302232 by omega)⟩) hS (fun q _ h => hJ.am hS.1 h) (fun q h => hJ.am hS.1 h) (fun r3 u3 tq3 H3 locs ht3 hvm3 hR3 hB3 hz3 hk3 hS => ?_)
  obtain ⟨hr3, hu3⟩ := hR3
  rw [hu3] at hB3
  have hw := LW_m hJ hw ht3 hB3 hk3
  refine lv_iload hx hb d_W_law_477 (lv_at hl 1 rfl) ?_
  refine lv_icmp_eq (tgt := 484) hx hb d_W_law_479 (by decide) (fun c1 => ?_) (fun c1 => absurd (hr3.trans (ha1.trans hkn.symm)) c1)
  refine lv_iload hx hb d_W_law_484 (lv_at hl 1 rfl) ?_
  refine lv_if_ne (tgt := 508) hx hb d_W_law_486 (by decide) (fun c2 => ?_) (fun c2 => ?_)
  ·
    refine lv_goto (tgt := 1431) hx hb d_W_law_508 (by decide) ?_
    refine W.widen (k := 200 + (i + 5)) (n := 3000 + 4 * (i + 5)) (by omega) (by omega) ?_
    exact l_back hx hb (fun ls hl => kk n r t2 r2 u2 hR hR2 _ _ _ _ ls hw hS hl) (lv_sub hl [2, 3, 4, 5, 6, 7] rfl)
  · have hn0 : n = 0 := nI_zero (hkn.symm.trans c2) hn4
    have ha3 := ha2 hn0
    have hf3 : f2 0 = zb r := hf2 hn0
    refine lv_aload_n hx hb d_W_law_489 rfl (lv_at hl 5 rfl) ?_
    refine lv_iconst (v := 0) hx hb d_W_law_490 (by decide) ?_
    refine va_lald (D := D) hx hb hK.2.2.1 hw.2.2.1 0 0 rfl rfl (by unfold vp_in; decide) d_W_law_491 ?_
    refine lv_iload hx hb d_W_law_492 (lv_at hl 0 rfl) ?_
    refine zb_row hx hb d_W_law_494 d_W_law_497 d_W_law_498 d_W_law_501 ?_
    refine W.lcmp hx hb d_W_law_502 ?_
    have hf4 : f2 (0 : Int32).toNatClampNeg = zb r2 := by rw [← ha3]; exact hf3
    refine lv_if_eq (tgt := 508) hx hb d_W_law_503 (by decide) (fun c3 => ?_) (fun c3 => absurd (by rw [hf4]; exact cmp_self _) c3)
    refine lv_goto (tgt := 1431) hx hb d_W_law_508 (by decide) ?_
    refine W.widen (k := 200 + (i + 5)) (n := 3000 + 4 * (i + 5)) (by omega) (by omega) ?_
    exact l_back hx hb (fun ls hl => kk n r t2 r2 u2 hR hR2 _ _ _ _ ls hw hS hl) (lv_sub hl [2, 3, 4, 5, 6, 7] rfl)
set_option maxHeartbeats 4000000 in
set_option maxRecDepth 100000 in
theorem k_ban (C : LC p l s m meth c b L xs D DM ad bd ka kb sa qo qd kl kd) {i : Nat} (hi : i + 5 ≤ L) {t u : Mem} (ho : OKX t) (hu : MOK u)
    (hag : ∀ (n : Nat) (r : Int32) (t2 : Mem) (r2 : Int32) (u2 : Mem), banR t (xs (nI i + 1).toNatClampNeg) (xs (nI i + 2).toNatClampNeg) (bz (xs (nI i + 3).toNatClampNeg)) = (n, r, t2) → mBan u (xs (nI i + 1).toNatClampNeg) (xs (nI i + 2).toNatClampNeg) (bz (xs (nI i + 3).toNatClampNeg)) = (r2, u2) → gI u2 0 0 = nI n ∧ (n = 0 → r = r2))
    (kk : ∀ (n : Nat) (r : Int32) (t2 : Mem) (r2 : Int32) (u2 : Mem), banR t (xs (nI i + 1).toNatClampNeg) (xs (nI i + 2).toNatClampNeg) (bz (xs (nI i + 3).toNatClampNeg)) = (n, r, t2) → mBan u (xs (nI i + 1).toNatClampNeg) (xs (nI i + 2).toNatClampNeg) (bz (xs (nI i + 3).toNatClampNeg)) = (r2, u2) → ∀ (f : Nat → Int64) (g : Nat → UInt64) (H : Heap) (locs : List Loc) (ls : Array Slot), LW D DM ad bd ka kb qo qd kl kd t2 u2 f g H → va_S (fun q => s.heap.size ≤ q) s.heap H locs → lv_has ls 9 (lvL b ad bd qo qd (i + 5)) → W p l e room_1 s m #[Value.ref b] below meth c H locs (200 + (i + 5)) (3000 + 4 * (i + 5)) Q (F0 m 28 ls [])) :
    ∀ (f : Nat → Int64) (g : Nat → UInt64) (H : Heap) (locs : List Loc) (ls : Array Slot), LW D DM ad bd ka kb qo qd kl kd t u f g H → va_S (fun q => s.heap.size ≤ q) s.heap H locs → lv_has ls 9 (lvL b ad bd qo qd i) → W p l e room_1 s m #[Value.ref b] below meth c H locs (200 + i) (3000 + 4 * i) Q (F0 m 511 ls []) := by
  intro f g H locs ls hw hS hl
  obtain ⟨C0, hL, hl0, hJ, hK, hZ⟩ := C
  obtain ⟨hx, hb, hr, hml, hown, hts0, hX, hbl, hlocks, hgv⟩ := C0
  have hts := lts hts0
  have hbA : ¬ s.heap.size ≤ b := Nat.not_le.mpr hbl
  obtain ⟨Bd, n0, hBd, hOD, hn0, hn, hls, hb1, hb2, hb3, hm7, hm8⟩ := hu
  have hl : lv_has ls 9 [(0, .ref b), (1, .ref (ad 0)), (2, .ref (bd 0)), (3, .ref qo), (4, .ref qd), (5, .int (nI i))] := hl
  have hz : b01 (bz (xs (nI i + 3).toNatClampNeg)) := bz_01 _
  refine lv_aload_n hx hb d_W_law_511 rfl (lv_at hl 1 rfl) ?_
  refine lv_aload_n hx hb d_W_law_512 rfl (lv_at hl 0 rfl) ?_
  refine lv_iload hx hb d_W_law_513 (lv_at hl 5 rfl) ?_
  refine lv_iconst (v := 1) hx hb d_W_law_515 (by decide) ?_
  refine lv_iadd hx hb d_W_law_516 ?_
  refine va_sld (A := fun q => s.heap.size ≤ q) hx hb hX hbl hbA hS (vi_in (k := 1) rfl (by omega) hL) d_W_law_517 ?_
  refine lv_aload_n hx hb d_W_law_518 rfl (lv_at hl 0 rfl) ?_
  refine lv_iload hx hb d_W_law_519 (lv_at hl 5 rfl) ?_
  refine lv_iconst (v := 2) hx hb d_W_law_521 (by decide) ?_
  refine lv_iadd hx hb d_W_law_522 ?_
  refine va_sld (A := fun q => s.heap.size ≤ q) hx hb hX hbl hbA hS (vi_in (k := 2) rfl (by omega) hL) d_W_law_523 ?_
  refine lv_aload_n hx hb d_W_law_524 rfl (lv_at hl 0 rfl) ?_
  refine lv_iload hx hb d_W_law_525 (lv_at hl 5 rfl) ?_
  refine lv_iconst (v := 3) hx hb d_W_law_527 (by decide) ?_
  refine lv_iadd hx hb d_W_law_528 ?_
  refine va_sld (A := fun q => s.heap.size ≤ q) hx hb hX hbl hbA hS (vi_in (k := 3) rfl (by omega) hL) d_W_law_529 ?_
  refine bz_row hx hb d_W_law_530 d_W_law_533 d_W_law_534 d_W_law_537 ?_
  refine lv_aload_n hx hb d_W_law_538 rfl (lv_at hl 3 rfl) ?_
  refine va_calli (vx_runSW (As := [.ref (ad 0), .int (xs (nI i + 1).toNatClampNeg), .int (xs (nI i + 2).toNatClampNeg), .int (bz (xs (nI i + 3).toNatClampNeg)), .ref qo]) (rest := []) ⟨hx, hb, hml, hown, hts⟩ (c_W_ban l hl0 D ad ka sa H.size t ho (xs (nI i + 1).toNatClampNeg) (xs (nI i + 2).toNatClampNeg) (bz (xs (nI i + 3).toNatClampNeg)) hz qo kl f) (vx_cwSW 5 hts (gsw mw_382 mw_383 mw_0 mw_384) rfl rfl rfl (by decide +kernel) ⟨Nat.le_of_ble_eq_true rfl, Nat.le_of_ble_eq_true rfl⟩) ⟨PH_blind, fun U hU hW => ⟨rfl, PH_mk hJ hw hK hZ hS hU hW⟩⟩ rfl rfl hl.1 rfl (lv_room (Nat.le_of_ble_eq_true rfl)) d_W_law_539 ⟨(show _ ≤ 600002 by omega), (show _ ≤ 7302232 by omega)⟩) hS (fun q _ h => hJ.ao hS.1 h) (fun q h => hJ.ao hS.1 h) (fun kr zz tq H1 locs ht hvm hq hB hz1 hk1 hS => ?_)
  obtain ⟨t2, f2⟩ := zz
  obtain ⟨n, r, hkn, hn4, hR, hf2⟩ := hq
  have hw : LW D DM ad bd ka kb qo qd kl kd t2 u f2 g H1 := LW_h hJ hw ht hB hk1
  refine lv_istore (lv' := [(6, .int kr), (0, .ref b), (1, .ref (ad 0)), (2, .ref (bd 0)), (3, .ref qo), (4, .ref qd), (5, .int (nI i))]) hx hb d_W_law_542 hl (by decide) rfl (fun ls hl => ?_)
  refine lv_aload_n hx hb d_W_law_544 rfl (lv_at hl 3 rfl) ?_
  refine lv_aload_n hx hb d_W_law_545 rfl (lv_at hl 1 rfl) ?_
  refine lv_iload hx hb d_W_law_546 (lv_at hl 6 rfl) ?_
  refine lv_iconst (v := 1) hx hb d_W_law_548 (by decide) ?_
  refine lv_iadd hx hb d_W_law_549 ?_
  refine va_sld (A := fun q => s.heap.size ≤ q) hx hb hX hbl hbA hS (vi_in (k := 1) rfl (by omega) hL) d_W_law_550 ?_
  refine lv_aload_n hx hb d_W_law_551 rfl (lv_at hl 1 rfl) ?_
  refine lv_iload hx hb d_W_law_552 (lv_at hl 6 rfl) ?_
  refine lv_iconst (v := 2) hx hb d_W_law_554 (by decide) ?_
  refine lv_iadd hx hb d_W_law_555 ?_
  refine va_sld (A := fun q => s.heap.size ≤ q) hx hb hX hbl hbA hS (vi_in (k := 2) rfl (by omega) hL) d_W_law_556 ?_
  refine lv_aload_n hx hb d_W_law_557 rfl (lv_at hl 1 rfl) ?_
  refine lv_iload hx hb d_W_law_558 (lv_at hl 6 rfl) ?_
  refine lv_iconst (v := 3) hx hb d_W_law_560 (by decide) ?_
  refine lv_iadd hx hb d_W_law_561 ?_
  refine va_sld (A := fun q => s.heap.size ≤ q) hx hb hX hbl hbA hS (vi_in (k := 3) rfl (by omega) hL) d_W_law_562 ?_
  refine bz_row hx hb d_W_law_563 d_W_law_566 d_W_law_567 d_W_law_570 ?_
  refine va_calli (va_runV (As := [.int (xs (nI i + 1).toNatClampNeg), .int (xs (nI i + 2).toNatClampNeg), .int (bz (xs (nI i + 3).toNatClampNeg))]) (rest := []) ⟨hx, hb, hml, hown, hts⟩ (c_M_ban l DM bd kb H1.size u hm8 (xs (nI i + 1).toNatClampNeg) (xs (nI i + 2).toNatClampNeg) (bz (xs (nI i + 3).toNatClampNeg)) hz) (cwV 3 hts (gv mw_723 mw_724 mw_725 mw_6 mw_726) rfl rfl rfl (by decide +kernel) ⟨Nat.le_of_ble_eq_true rfl, Nat.le_of_ble_eq_true rfl⟩) ⟨PM_blind, va_recv hK.2.1 hw.2.1 (ci := 0) (q0 := 0) rfl at_M, fun U hU hW => ⟨rfl, LW_pm hJ hw hK hU hW⟩⟩ rfl rfl hl.1 rfl (lv_room (Nat.le_of_ble_eq_true rfl)) d_W_law_571 ⟨(show _ ≤ 600002 by omega), (show _ ≤ 7302232 by omega)⟩) hS (fun q _ h => hJ.am hS.1 h) (fun q h => hJ.am hS.1 h) (fun r2 u2 tq2 H2 locs ht2 hvm2 hR2 hB2 hz2 hk2 hS => ?_)
  have hw := LW_m hJ hw ht2 hB2 hk2
  refine lv_istore (lv' := [(7, .int r2), (6, .int kr), (0, .ref b), (1, .ref (ad 0)), (2, .ref (bd 0)), (3, .ref qo), (4, .ref qd), (5, .int (nI i))]) hx hb d_W_law_574 hl (by decide) rfl (fun ls hl => ?_)
  obtain ⟨ha1, ha2⟩ := hag n r t2 r2 u2 hR hR2
  refine lv_aload_n hx hb d_W_law_576 rfl (lv_at hl 4 rfl) ?_
  refine va_calli (va_runV (As := []) (rest := []) ⟨hx, hb, hml, hown, hts⟩ (c_M_thrown l DM bd kb H2.size u2) (cwV 0 hts (gv mw_685 mw_686 mw_687 mw_6 mw_688) rfl rfl rfl (by decide +kernel) ⟨Nat.le_of_ble_eq_true rfl, Nat.le_of_ble_eq_true rfl⟩) ⟨PM_blind, va_recv hK.2.1 hw.2.1 (ci := 0) (q0 := 0) rfl at_M, fun U hU hW => ⟨rfl, LW_pm hJ hw hK hU hW⟩⟩ rfl rfl hl.1 rfl (lv_room (Nat.le_of_ble_eq_true rfl)) d_W_law_577 ⟨(show _ ≤ 600002 by omega), (show _ ≤ 7302232 by omega)⟩) hS (fun q _ h => hJ.am hS.1 h) (fun q h => hJ.am hS.1 h) (fun r3 u3 tq3 H3 locs ht3 hvm3 hR3 hB3 hz3 hk3 hS => ?_)
  obtain ⟨hr3, hu3⟩ := hR3
  rw [hu3] at hB3
  have hw := LW_m hJ hw ht3 hB3 hk3
  refine lv_iload hx hb d_W_law_580 (lv_at hl 1 rfl) ?_
  refine lv_icmp_eq (tgt := 587) hx hb d_W_law_582 (by decide) (fun c1 => ?_) (fun c1 => absurd (hr3.trans (ha1.trans hkn.symm)) c1)
  refine lv_iload hx hb d_W_law_587 (lv_at hl 1 rfl) ?_
  refine lv_if_ne (tgt := 611) hx hb d_W_law_589 (by decide) (fun c2 => ?_) (fun c2 => ?_)
  ·
    refine lv_goto (tgt := 1431) hx hb d_W_law_611 (by decide) ?_
    refine W.widen (k := 200 + (i + 5)) (n := 3000 + 4 * (i + 5)) (by omega) (by omega) ?_
    exact l_back hx hb (fun ls hl => kk n r t2 r2 u2 hR hR2 _ _ _ _ ls hw hS hl) (lv_sub hl [2, 3, 4, 5, 6, 7] rfl)
  · have hn0 : n = 0 := nI_zero (hkn.symm.trans c2) hn4
    have ha3 := ha2 hn0
    have hf3 : f2 0 = zb r := hf2 hn0
    refine lv_aload_n hx hb d_W_law_592 rfl (lv_at hl 5 rfl) ?_
    refine lv_iconst (v := 0) hx hb d_W_law_593 (by decide) ?_
    refine va_lald (D := D) hx hb hK.2.2.1 hw.2.2.1 0 0 rfl rfl (by unfold vp_in; decide) d_W_law_594 ?_
    refine lv_iload hx hb d_W_law_595 (lv_at hl 0 rfl) ?_
    refine zb_row hx hb d_W_law_597 d_W_law_600 d_W_law_601 d_W_law_604 ?_
    refine W.lcmp hx hb d_W_law_605 ?_
    have hf4 : f2 (0 : Int32).toNatClampNeg = zb r2 := by rw [← ha3]; exact hf3
    refine lv_if_eq (tgt := 611) hx hb d_W_law_606 (by decide) (fun c3 => ?_) (fun c3 => absurd (by rw [hf4]; exact cmp_self _) c3)
    refine lv_goto (tgt := 1431) hx hb d_W_law_611 (by decide) ?_
    refine W.widen (k := 200 + (i + 5)) (n := 3000 + 4 * (i + 5)) (by omega) (by omega) ?_
    exact l_back hx hb (fun ls hl => kk n r t2 r2 u2 hR hR2 _ _ _ _ ls hw hS hl) (lv_sub hl [2, 3, 4, 5, 6, 7] rfl)
set_option maxHeartbeats 4000000 in
set_option maxRecDepth 100000 in
theorem k_setting (C : LC p l s m meth c b L xs D DM ad bd ka kb sa qo qd kl kd) {i : Nat} (hi : i + 5 ≤ L) {t u : Mem} (ho : OKX t) (hu : MOK u)
    (hag : ∀ (n : Nat) (r : UInt64) (t2 : Mem) (r2 : UInt64) (u2 : Mem), setR t (xs (nI i + 1).toNatClampNeg) (xs (nI i + 2).toNatClampNeg) (FP.dmul (FP.i2d (xs (nI i + 3).toNatClampNeg)) 4593671619917905920) = (n, r, t2) → mSet u (xs (nI i + 1).toNatClampNeg) (xs (nI i + 2).toNatClampNeg) (FP.dmul (FP.i2d (xs (nI i + 3).toNatClampNeg)) 4593671619917905920) = (r2, u2) → gI u2 0 0 = nI n ∧ (n = 0 → r = r2))
    (kk : ∀ (n : Nat) (r : UInt64) (t2 : Mem) (r2 : UInt64) (u2 : Mem), setR t (xs (nI i + 1).toNatClampNeg) (xs (nI i + 2).toNatClampNeg) (FP.dmul (FP.i2d (xs (nI i + 3).toNatClampNeg)) 4593671619917905920) = (n, r, t2) → mSet u (xs (nI i + 1).toNatClampNeg) (xs (nI i + 2).toNatClampNeg) (FP.dmul (FP.i2d (xs (nI i + 3).toNatClampNeg)) 4593671619917905920) = (r2, u2) → ∀ (f : Nat → Int64) (g : Nat → UInt64) (H : Heap) (locs : List Loc) (ls : Array Slot), LW D DM ad bd ka kb qo qd kl kd t2 u2 f g H → va_S (fun q => s.heap.size ≤ q) s.heap H locs → lv_has ls 9 (lvL b ad bd qo qd (i + 5)) → W p l e room_1 s m #[Value.ref b] below meth c H locs (200 + (i + 5)) (3000 + 4 * (i + 5)) Q (F0 m 28 ls [])) :
    ∀ (f : Nat → Int64) (g : Nat → UInt64) (H : Heap) (locs : List Loc) (ls : Array Slot), LW D DM ad bd ka kb qo qd kl kd t u f g H → va_S (fun q => s.heap.size ≤ q) s.heap H locs → lv_has ls 9 (lvL b ad bd qo qd i) → W p l e room_1 s m #[Value.ref b] below meth c H locs (200 + i) (3000 + 4 * i) Q (F0 m 614 ls []) := by
  intro f g H locs ls hw hS hl
  obtain ⟨C0, hL, hl0, hJ, hK, hZ⟩ := C
  obtain ⟨hx, hb, hr, hml, hown, hts0, hX, hbl, hlocks, hgv⟩ := C0
  have hts := lts hts0
  have hbA : ¬ s.heap.size ≤ b := Nat.not_le.mpr hbl
  obtain ⟨Bd, n0, hBd, hOD, hn0, hn, hls, hb1, hb2, hb3, hm7, hm8⟩ := hu
  have hl : lv_has ls 9 [(0, .ref b), (1, .ref (ad 0)), (2, .ref (bd 0)), (3, .ref qo), (4, .ref qd), (5, .int (nI i))] := hl
  refine lv_aload_n hx hb d_W_law_614 rfl (lv_at hl 1 rfl) ?_
  refine lv_aload_n hx hb d_W_law_615 rfl (lv_at hl 0 rfl) ?_
  refine lv_iload hx hb d_W_law_616 (lv_at hl 5 rfl) ?_
  refine lv_iconst (v := 1) hx hb d_W_law_618 (by decide) ?_
  refine lv_iadd hx hb d_W_law_619 ?_
  refine va_sld (A := fun q => s.heap.size ≤ q) hx hb hX hbl hbA hS (vi_in (k := 1) rfl (by omega) hL) d_W_law_620 ?_
  refine lv_aload_n hx hb d_W_law_621 rfl (lv_at hl 0 rfl) ?_
  refine lv_iload hx hb d_W_law_622 (lv_at hl 5 rfl) ?_
  refine lv_iconst (v := 2) hx hb d_W_law_624 (by decide) ?_
  refine lv_iadd hx hb d_W_law_625 ?_
  refine va_sld (A := fun q => s.heap.size ≤ q) hx hb hX hbl hbA hS (vi_in (k := 2) rfl (by omega) hL) d_W_law_626 ?_
  refine lv_aload_n hx hb d_W_law_627 rfl (lv_at hl 0 rfl) ?_
  refine lv_iload hx hb d_W_law_628 (lv_at hl 5 rfl) ?_
  refine lv_iconst (v := 3) hx hb d_W_law_630 (by decide) ?_
  refine lv_iadd hx hb d_W_law_631 ?_
  refine va_sld (A := fun q => s.heap.size ≤ q) hx hb hX hbl hbA hS (vi_in (k := 3) rfl (by omega) hL) d_W_law_632 ?_
  refine lv_i2d hx hb d_W_law_633 ?_
  refine lv_ldc2d (own := "ListForgeLaw") (v := 4593671619917905920) hx hb hown (bg hts mw_791) d_W_law_634 ?_
  refine lv_dmul hx hb d_W_law_637 (nan_125 _) ?_
  refine lv_aload hx hb d_W_law_638 (lv_at hl 4 rfl) ?_
  refine va_calli (vx_runSW (As := [.ref (ad 0), .int (xs (nI i + 1).toNatClampNeg), .int (xs (nI i + 2).toNatClampNeg), .double (FP.dmul (FP.i2d (xs (nI i + 3).toNatClampNeg)) 4593671619917905920), .ref qd]) (rest := []) ⟨hx, hb, hml, hown, hts⟩ (c_W_setting l hl0 D ad ka sa H.size t (xs (nI i + 1).toNatClampNeg) (xs (nI i + 2).toNatClampNeg) (FP.dmul (FP.i2d (xs (nI i + 3).toNatClampNeg)) 4593671619917905920) qd kd g) (vx_cwSW 5 hts (gsw mw_389 mw_390 mw_0 mw_391) rfl rfl rfl (by decide +kernel) ⟨Nat.le_of_ble_eq_true rfl, Nat.le_of_ble_eq_true rfl⟩) ⟨PH_blind, fun U hU hW => ⟨rfl, PHd_mk hJ hw hK hZ hS hU hW⟩⟩ rfl rfl hl.1 rfl (lv_room (Nat.le_of_ble_eq_true rfl)) d_W_law_640 ⟨(show _ ≤ 600002 by omega), (show _ ≤ 7302232 by omega)⟩) hS (fun q _ h => hJ.aod hS.1 h) (fun q h => hJ.aod hS.1 h) (fun kr zz tq H1 locs ht hvm hq hB hz1 hk1 hS => ?_)
  obtain ⟨t2, g2⟩ := zz
  obtain ⟨n, r, hkn, hn4, hR, hf2⟩ := hq
  have hw : LW D DM ad bd ka kb qo qd kl kd t2 u f g2 H1 := LW_hd hJ hw ht hB hk1
  refine lv_istore (lv' := [(6, .int kr), (0, .ref b), (1, .ref (ad 0)), (2, .ref (bd 0)), (3, .ref qo), (4, .ref qd), (5, .int (nI i))]) hx hb d_W_law_643 hl (by decide) rfl (fun ls hl => ?_)
  refine lv_aload_n hx hb d_W_law_645 rfl (lv_at hl 3 rfl) ?_
  refine lv_aload_n hx hb d_W_law_646 rfl (lv_at hl 1 rfl) ?_
  refine lv_iload hx hb d_W_law_647 (lv_at hl 6 rfl) ?_
  refine lv_iconst (v := 1) hx hb d_W_law_649 (by decide) ?_
  refine lv_iadd hx hb d_W_law_650 ?_
  refine va_sld (A := fun q => s.heap.size ≤ q) hx hb hX hbl hbA hS (vi_in (k := 1) rfl (by omega) hL) d_W_law_651 ?_
  refine lv_aload_n hx hb d_W_law_652 rfl (lv_at hl 1 rfl) ?_
  refine lv_iload hx hb d_W_law_653 (lv_at hl 6 rfl) ?_
  refine lv_iconst (v := 2) hx hb d_W_law_655 (by decide) ?_
  refine lv_iadd hx hb d_W_law_656 ?_
  refine va_sld (A := fun q => s.heap.size ≤ q) hx hb hX hbl hbA hS (vi_in (k := 2) rfl (by omega) hL) d_W_law_657 ?_
  refine lv_aload_n hx hb d_W_law_658 rfl (lv_at hl 1 rfl) ?_
  refine lv_iload hx hb d_W_law_659 (lv_at hl 6 rfl) ?_
  refine lv_iconst (v := 3) hx hb d_W_law_661 (by decide) ?_
  refine lv_iadd hx hb d_W_law_662 ?_
  refine va_sld (A := fun q => s.heap.size ≤ q) hx hb hX hbl hbA hS (vi_in (k := 3) rfl (by omega) hL) d_W_law_663 ?_
  refine lv_i2d hx hb d_W_law_664 ?_
  refine lv_ldc2d (own := "ListForgeLaw") (v := 4593671619917905920) hx hb hown (bg hts mw_791) d_W_law_665 ?_
  refine lv_dmul hx hb d_W_law_668 (nan_125 _) ?_
  refine va_calld (va_runV (As := [.int (xs (nI i + 1).toNatClampNeg), .int (xs (nI i + 2).toNatClampNeg), .double (FP.dmul (FP.i2d (xs (nI i + 3).toNatClampNeg)) 4593671619917905920)]) (rest := []) ⟨hx, hb, hml, hown, hts⟩ (c_M_setting l DM bd kb H1.size u (xs (nI i + 1).toNatClampNeg) (xs (nI i + 2).toNatClampNeg) (FP.dmul (FP.i2d (xs (nI i + 3).toNatClampNeg)) 4593671619917905920)) (cwV 3 hts (gv mw_727 mw_728 mw_729 mw_6 mw_730) rfl rfl rfl (by decide +kernel) ⟨Nat.le_of_ble_eq_true rfl, Nat.le_of_ble_eq_true rfl⟩) ⟨PM_blind, va_recv hK.2.1 hw.2.1 (ci := 0) (q0 := 0) rfl at_M, fun U hU hW => ⟨rfl, LW_pm hJ hw hK hU hW⟩⟩ rfl rfl hl.1 rfl (lv_room (Nat.le_of_ble_eq_true rfl)) d_W_law_669 ⟨(show _ ≤ 600002 by omega), (show _ ≤ 7302232 by omega)⟩) hS (fun q _ h => hJ.am hS.1 h) (fun q h => hJ.am hS.1 h) (fun r2 u2 tq2 H2 locs ht2 hvm2 hR2 hB2 hz2 hk2 hS => ?_)
  have hw := LW_m hJ hw ht2 hB2 hk2
  refine lv_dstore (lv' := [(7, .double r2), (6, .int kr), (0, .ref b), (1, .ref (ad 0)), (2, .ref (bd 0)), (3, .ref qo), (4, .ref qd), (5, .int (nI i))]) hx hb d_W_law_672 hl (by decide) rfl (fun ls hl => ?_)
  obtain ⟨ha1, ha2⟩ := hag n r t2 r2 u2 hR hR2
  refine lv_aload_n hx hb d_W_law_674 rfl (lv_at hl 4 rfl) ?_
  refine va_calli (va_runV (As := []) (rest := []) ⟨hx, hb, hml, hown, hts⟩ (c_M_thrown l DM bd kb H2.size u2) (cwV 0 hts (gv mw_685 mw_686 mw_687 mw_6 mw_688) rfl rfl rfl (by decide +kernel) ⟨Nat.le_of_ble_eq_true rfl, Nat.le_of_ble_eq_true rfl⟩) ⟨PM_blind, va_recv hK.2.1 hw.2.1 (ci := 0) (q0 := 0) rfl at_M, fun U hU hW => ⟨rfl, LW_pm hJ hw hK hU hW⟩⟩ rfl rfl hl.1 rfl (lv_room (Nat.le_of_ble_eq_true rfl)) d_W_law_675 ⟨(show _ ≤ 600002 by omega), (show _ ≤ 7302232 by omega)⟩) hS (fun q _ h => hJ.am hS.1 h) (fun q h => hJ.am hS.1 h) (fun r3 u3 tq3 H3 locs ht3 hvm3 hR3 hB3 hz3 hk3 hS => ?_)
  obtain ⟨hr3, hu3⟩ := hR3
  rw [hu3] at hB3
  have hw := LW_m hJ hw ht3 hB3 hk3
  refine lv_iload hx hb d_W_law_678 (lv_at hl 1 rfl) ?_
  refine lv_icmp_eq (tgt := 685) hx hb d_W_law_680 (by decide) (fun c1 => ?_) (fun c1 => absurd (hr3.trans (ha1.trans hkn.symm)) c1)
  refine lv_iload hx hb d_W_law_685 (lv_at hl 1 rfl) ?_
  refine lv_if_ne (tgt := 722) hx hb d_W_law_687 (by decide) (fun c2 => ?_) (fun c2 => ?_)
  ·
    refine lv_goto (tgt := 1431) hx hb d_W_law_722 (by decide) ?_
    refine W.widen (k := 200 + (i + 5)) (n := 3000 + 4 * (i + 5)) (by omega) (by omega) ?_
    exact l_back hx hb (fun ls hl => kk n r t2 r2 u2 hR hR2 _ _ _ _ ls hw hS hl) (lv_sub hl [2, 3, 4, 5, 6, 7] rfl)
  · have hn0 : n = 0 := nI_zero (hkn.symm.trans c2) hn4
    have ha3 := ha2 hn0
    have hf3 : g2 0 = r := hf2 hn0
    refine lv_aload hx hb d_W_law_690 (lv_at hl 6 rfl) ?_
    refine lv_iconst (v := 0) hx hb d_W_law_692 (by decide) ?_
    refine va_dald (D := D) hx hb hK.2.2.2 hw.2.2.2 0 0 rfl rfl (by unfold vp_in; decide) d_W_law_693 ?_
    refine lv_dload hx hb d_W_law_694 (lv_at hl 0 rfl) ?_
    refine lv_dcmp hx hb d_W_law_696 ?_
    have hf4 : g2 (0 : Int32).toNatClampNeg = r2 := hf3.trans ha3
    refine lv_if_eq (tgt := 722) hx hb d_W_law_697 (by decide) (fun c3 => ?_) (fun c3 => ?_)
    ·
      refine lv_goto (tgt := 1431) hx hb d_W_law_722 (by decide) ?_
      refine W.widen (k := 200 + (i + 5)) (n := 3000 + 4 * (i + 5)) (by omega) (by omega) ?_
      exact l_back hx hb (fun ls hl => kk n r t2 r2 u2 hR hR2 _ _ _ _ ls hw hS hl) (lv_sub hl [2, 3, 4, 5, 6, 7] rfl)
    · rw [hf4] at c3
      refine lv_aload hx hb d_W_law_700 (lv_at hl 6 rfl) ?_
      refine lv_iconst (v := 0) hx hb d_W_law_702 (by decide) ?_
      refine va_dald (D := D) hx hb hK.2.2.2 hw.2.2.2 0 0 rfl rfl (by unfold vp_in; decide) d_W_law_703 ?_
      refine lv_aload hx hb d_W_law_704 (lv_at hl 6 rfl) ?_
      refine lv_iconst (v := 0) hx hb d_W_law_706 (by decide) ?_
      refine va_dald (D := D) hx hb hK.2.2.2 hw.2.2.2 0 0 rfl rfl (by unfold vp_in; decide) d_W_law_707 ?_
      refine lv_dcmp hx hb d_W_law_708 ?_
      refine lv_if_eq (tgt := 720) hx hb d_W_law_709 (by decide) (fun c4 => absurd c4 (by rw [hf4]; exact c3)) (fun c4 => ?_)
      refine lv_dload hx hb d_W_law_712 (lv_at hl 0 rfl) ?_
      refine lv_dload hx hb d_W_law_714 (lv_at hl 0 rfl) ?_
      refine lv_dcmp hx hb d_W_law_716 ?_
      refine lv_if_ne (tgt := 722) hx hb d_W_law_717 (by decide) (fun c5 => ?_) (fun c5 => absurd c5 c3)
      refine lv_goto (tgt := 1431) hx hb d_W_law_722 (by decide) ?_
      refine W.widen (k := 200 + (i + 5)) (n := 3000 + 4 * (i + 5)) (by omega) (by omega) ?_
      exact l_back hx hb (fun ls hl => kk n r t2 r2 u2 hR hR2 _ _ _ _ ls hw hS hl) (lv_sub hl [2, 3, 4, 5, 6, 7] rfl)
set_option maxHeartbeats 4000000 in
set_option maxRecDepth 100000 in
theorem k_post (C : LC p l s m meth c b L xs D DM ad bd ka kb sa qo qd kl kd) {i : Nat} (hi : i + 5 ≤ L) {t u : Mem} (ho : OKX t) (hu : MOK u)
    (hag : ∀ (n : Nat) (r : Int32) (t2 : Mem) (r2 : Int32) (u2 : Mem), postR t (xs (nI i + 1).toNatClampNeg) (xs (nI i + 2).toNatClampNeg) (xs (nI i + 3).toNatClampNeg) (xs (nI i + 4).toNatClampNeg) = (n, r, t2) → mPost u (xs (nI i + 1).toNatClampNeg) (xs (nI i + 2).toNatClampNeg) (xs (nI i + 3).toNatClampNeg) (xs (nI i + 4).toNatClampNeg) = (r2, u2) → gI u2 0 0 = nI n ∧ (n = 0 → r = r2))
    (kk : ∀ (n : Nat) (r : Int32) (t2 : Mem) (r2 : Int32) (u2 : Mem), postR t (xs (nI i + 1).toNatClampNeg) (xs (nI i + 2).toNatClampNeg) (xs (nI i + 3).toNatClampNeg) (xs (nI i + 4).toNatClampNeg) = (n, r, t2) → mPost u (xs (nI i + 1).toNatClampNeg) (xs (nI i + 2).toNatClampNeg) (xs (nI i + 3).toNatClampNeg) (xs (nI i + 4).toNatClampNeg) = (r2, u2) → ∀ (f : Nat → Int64) (g : Nat → UInt64) (H : Heap) (locs : List Loc) (ls : Array Slot), LW D DM ad bd ka kb qo qd kl kd t2 u2 f g H → va_S (fun q => s.heap.size ≤ q) s.heap H locs → lv_has ls 9 (lvL b ad bd qo qd (i + 5)) → W p l e room_1 s m #[Value.ref b] below meth c H locs (200 + (i + 5)) (3000 + 4 * (i + 5)) Q (F0 m 28 ls [])) :
    ∀ (f : Nat → Int64) (g : Nat → UInt64) (H : Heap) (locs : List Loc) (ls : Array Slot), LW D DM ad bd ka kb qo qd kl kd t u f g H → va_S (fun q => s.heap.size ≤ q) s.heap H locs → lv_has ls 9 (lvL b ad bd qo qd i) → W p l e room_1 s m #[Value.ref b] below meth c H locs (200 + i) (3000 + 4 * i) Q (F0 m 725 ls []) := by
  intro f g H locs ls hw hS hl
  obtain ⟨C0, hL, hl0, hJ, hK, hZ⟩ := C
  obtain ⟨hx, hb, hr, hml, hown, hts0, hX, hbl, hlocks, hgv⟩ := C0
  have hts := lts hts0
  have hbA : ¬ s.heap.size ≤ b := Nat.not_le.mpr hbl
  obtain ⟨Bd, n0, hBd, hOD, hn0, hn, hls, hb1, hb2, hb3, hm7, hm8⟩ := hu
  have hl : lv_has ls 9 [(0, .ref b), (1, .ref (ad 0)), (2, .ref (bd 0)), (3, .ref qo), (4, .ref qd), (5, .int (nI i))] := hl
  refine lv_aload_n hx hb d_W_law_725 rfl (lv_at hl 1 rfl) ?_
  refine lv_aload_n hx hb d_W_law_726 rfl (lv_at hl 0 rfl) ?_
  refine lv_iload hx hb d_W_law_727 (lv_at hl 5 rfl) ?_
  refine lv_iconst (v := 1) hx hb d_W_law_729 (by decide) ?_
  refine lv_iadd hx hb d_W_law_730 ?_
  refine va_sld (A := fun q => s.heap.size ≤ q) hx hb hX hbl hbA hS (vi_in (k := 1) rfl (by omega) hL) d_W_law_731 ?_
  refine lv_aload_n hx hb d_W_law_732 rfl (lv_at hl 0 rfl) ?_
  refine lv_iload hx hb d_W_law_733 (lv_at hl 5 rfl) ?_
  refine lv_iconst (v := 2) hx hb d_W_law_735 (by decide) ?_
  refine lv_iadd hx hb d_W_law_736 ?_
  refine va_sld (A := fun q => s.heap.size ≤ q) hx hb hX hbl hbA hS (vi_in (k := 2) rfl (by omega) hL) d_W_law_737 ?_
  refine lv_aload_n hx hb d_W_law_738 rfl (lv_at hl 0 rfl) ?_
  refine lv_iload hx hb d_W_law_739 (lv_at hl 5 rfl) ?_
  refine lv_iconst (v := 3) hx hb d_W_law_741 (by decide) ?_
  refine lv_iadd hx hb d_W_law_742 ?_
  refine va_sld (A := fun q => s.heap.size ≤ q) hx hb hX hbl hbA hS (vi_in (k := 3) rfl (by omega) hL) d_W_law_743 ?_
  refine lv_aload_n hx hb d_W_law_744 rfl (lv_at hl 0 rfl) ?_
  refine lv_iload hx hb d_W_law_745 (lv_at hl 5 rfl) ?_
  refine lv_iconst (v := 4) hx hb d_W_law_747 (by decide) ?_
  refine lv_iadd hx hb d_W_law_748 ?_
  refine va_sld (A := fun q => s.heap.size ≤ q) hx hb hX hbl hbA hS (vi_in (k := 4) rfl (by omega) hL) d_W_law_749 ?_
  refine lv_aload_n hx hb d_W_law_750 rfl (lv_at hl 3 rfl) ?_
  refine va_calli (vx_runSW (As := [.ref (ad 0), .int (xs (nI i + 1).toNatClampNeg), .int (xs (nI i + 2).toNatClampNeg), .int (xs (nI i + 3).toNatClampNeg), .int (xs (nI i + 4).toNatClampNeg), .ref qo]) (rest := []) ⟨hx, hb, hml, hown, hts⟩ (c_W_post l hl0 D ad ka sa H.size t ho (xs (nI i + 1).toNatClampNeg) (xs (nI i + 2).toNatClampNeg) (xs (nI i + 3).toNatClampNeg) (xs (nI i + 4).toNatClampNeg) qo kl f) (vx_cwSW 6 hts (gsw mw_422 mw_423 mw_0 mw_424) rfl rfl rfl (by decide +kernel) ⟨Nat.le_of_ble_eq_true rfl, Nat.le_of_ble_eq_true rfl⟩) ⟨PH_blind, fun U hU hW => ⟨rfl, PH_mk hJ hw hK hZ hS hU hW⟩⟩ rfl rfl hl.1 rfl (lv_room (Nat.le_of_ble_eq_true rfl)) d_W_law_751 ⟨(show _ ≤ 600002 by omega), (show _ ≤ 7302232 by omega)⟩) hS (fun q _ h => hJ.ao hS.1 h) (fun q h => hJ.ao hS.1 h) (fun kr zz tq H1 locs ht hvm hq hB hz1 hk1 hS => ?_)
  obtain ⟨t2, f2⟩ := zz
  obtain ⟨n, r, hkn, hn4, hR, hf2⟩ := hq
  have hw : LW D DM ad bd ka kb qo qd kl kd t2 u f2 g H1 := LW_h hJ hw ht hB hk1
  refine lv_istore (lv' := [(6, .int kr), (0, .ref b), (1, .ref (ad 0)), (2, .ref (bd 0)), (3, .ref qo), (4, .ref qd), (5, .int (nI i))]) hx hb d_W_law_754 hl (by decide) rfl (fun ls hl => ?_)
  refine lv_aload_n hx hb d_W_law_756 rfl (lv_at hl 3 rfl) ?_
  refine lv_aload_n hx hb d_W_law_757 rfl (lv_at hl 1 rfl) ?_
  refine lv_iload hx hb d_W_law_758 (lv_at hl 6 rfl) ?_
  refine lv_iconst (v := 1) hx hb d_W_law_760 (by decide) ?_
  refine lv_iadd hx hb d_W_law_761 ?_
  refine va_sld (A := fun q => s.heap.size ≤ q) hx hb hX hbl hbA hS (vi_in (k := 1) rfl (by omega) hL) d_W_law_762 ?_
  refine lv_aload_n hx hb d_W_law_763 rfl (lv_at hl 1 rfl) ?_
  refine lv_iload hx hb d_W_law_764 (lv_at hl 6 rfl) ?_
  refine lv_iconst (v := 2) hx hb d_W_law_766 (by decide) ?_
  refine lv_iadd hx hb d_W_law_767 ?_
  refine va_sld (A := fun q => s.heap.size ≤ q) hx hb hX hbl hbA hS (vi_in (k := 2) rfl (by omega) hL) d_W_law_768 ?_
  refine lv_aload_n hx hb d_W_law_769 rfl (lv_at hl 1 rfl) ?_
  refine lv_iload hx hb d_W_law_770 (lv_at hl 6 rfl) ?_
  refine lv_iconst (v := 3) hx hb d_W_law_772 (by decide) ?_
  refine lv_iadd hx hb d_W_law_773 ?_
  refine va_sld (A := fun q => s.heap.size ≤ q) hx hb hX hbl hbA hS (vi_in (k := 3) rfl (by omega) hL) d_W_law_774 ?_
  refine lv_aload_n hx hb d_W_law_775 rfl (lv_at hl 1 rfl) ?_
  refine lv_iload hx hb d_W_law_776 (lv_at hl 6 rfl) ?_
  refine lv_iconst (v := 4) hx hb d_W_law_778 (by decide) ?_
  refine lv_iadd hx hb d_W_law_779 ?_
  refine va_sld (A := fun q => s.heap.size ≤ q) hx hb hX hbl hbA hS (vi_in (k := 4) rfl (by omega) hL) d_W_law_780 ?_
  refine va_calli (va_runV (As := [.int (xs (nI i + 1).toNatClampNeg), .int (xs (nI i + 2).toNatClampNeg), .int (xs (nI i + 3).toNatClampNeg), .int (xs (nI i + 4).toNatClampNeg)]) (rest := []) ⟨hx, hb, hml, hown, hts⟩ (c_M_post l DM bd kb H1.size u Bd (by omega) hOD.1 n0 hn0 hn hb2 (xs (nI i + 1).toNatClampNeg) (xs (nI i + 2).toNatClampNeg) (xs (nI i + 3).toNatClampNeg) (xs (nI i + 4).toNatClampNeg)) (cwV 4 hts (gv mw_733 mw_734 mw_735 mw_6 mw_736) rfl rfl rfl (by decide +kernel) ⟨Nat.le_of_ble_eq_true rfl, Nat.le_of_ble_eq_true rfl⟩) ⟨PM_blind, va_recv hK.2.1 hw.2.1 (ci := 0) (q0 := 0) rfl at_M, fun U hU hW => ⟨rfl, LW_pm hJ hw hK hU hW⟩⟩ rfl rfl hl.1 rfl (lv_room (Nat.le_of_ble_eq_true rfl)) d_W_law_781 ⟨(show _ ≤ 600002 by omega), (show _ ≤ 7302232 by omega)⟩) hS (fun q _ h => hJ.am hS.1 h) (fun q h => hJ.am hS.1 h) (fun r2 u2 tq2 H2 locs ht2 hvm2 hR2 hB2 hz2 hk2 hS => ?_)
  have hw := LW_m hJ hw ht2 hB2 hk2
  refine lv_istore (lv' := [(7, .int r2), (6, .int kr), (0, .ref b), (1, .ref (ad 0)), (2, .ref (bd 0)), (3, .ref qo), (4, .ref qd), (5, .int (nI i))]) hx hb d_W_law_784 hl (by decide) rfl (fun ls hl => ?_)
  obtain ⟨ha1, ha2⟩ := hag n r t2 r2 u2 hR hR2
  refine lv_aload_n hx hb d_W_law_786 rfl (lv_at hl 4 rfl) ?_
  refine va_calli (va_runV (As := []) (rest := []) ⟨hx, hb, hml, hown, hts⟩ (c_M_thrown l DM bd kb H2.size u2) (cwV 0 hts (gv mw_685 mw_686 mw_687 mw_6 mw_688) rfl rfl rfl (by decide +kernel) ⟨Nat.le_of_ble_eq_true rfl, Nat.le_of_ble_eq_true rfl⟩) ⟨PM_blind, va_recv hK.2.1 hw.2.1 (ci := 0) (q0 := 0) rfl at_M, fun U hU hW => ⟨rfl, LW_pm hJ hw hK hU hW⟩⟩ rfl rfl hl.1 rfl (lv_room (Nat.le_of_ble_eq_true rfl)) d_W_law_787 ⟨(show _ ≤ 600002 by omega), (show _ ≤ 7302232 by omega)⟩) hS (fun q _ h => hJ.am hS.1 h) (fun q h => hJ.am hS.1 h) (fun r3 u3 tq3 H3 locs ht3 hvm3 hR3 hB3 hz3 hk3 hS => ?_)
  obtain ⟨hr3, hu3⟩ := hR3
  rw [hu3] at hB3
  have hw := LW_m hJ hw ht3 hB3 hk3
  refine lv_iload hx hb d_W_law_790 (lv_at hl 1 rfl) ?_
  refine lv_icmp_eq (tgt := 797) hx hb d_W_law_792 (by decide) (fun c1 => ?_) (fun c1 => absurd (hr3.trans (ha1.trans hkn.symm)) c1)
  refine lv_iload hx hb d_W_law_797 (lv_at hl 1 rfl) ?_
  refine lv_if_ne (tgt := 814) hx hb d_W_law_799 (by decide) (fun c2 => ?_) (fun c2 => ?_)
  ·
    refine lv_goto (tgt := 1431) hx hb d_W_law_814 (by decide) ?_
    refine W.widen (k := 200 + (i + 5)) (n := 3000 + 4 * (i + 5)) (by omega) (by omega) ?_
    exact l_back hx hb (fun ls hl => kk n r t2 r2 u2 hR hR2 _ _ _ _ ls hw hS hl) (lv_sub hl [2, 3, 4, 5, 6, 7] rfl)
  · have hn0 : n = 0 := nI_zero (hkn.symm.trans c2) hn4
    have ha3 := ha2 hn0
    have hf3 : f2 0 = r.toInt64 := hf2 hn0
    refine lv_aload_n hx hb d_W_law_802 rfl (lv_at hl 5 rfl) ?_
    refine lv_iconst (v := 0) hx hb d_W_law_803 (by decide) ?_
    refine va_lald (D := D) hx hb hK.2.2.1 hw.2.2.1 0 0 rfl rfl (by unfold vp_in; decide) d_W_law_804 ?_
    refine lv_iload hx hb d_W_law_805 (lv_at hl 0 rfl) ?_
    refine lv_i2l hx hb d_W_law_807 rfl ?_
    refine W.lcmp hx hb d_W_law_808 ?_
    have hf4 : f2 (0 : Int32).toNatClampNeg = r2.toInt64 := by rw [← ha3]; exact hf3
    refine lv_if_eq (tgt := 814) hx hb d_W_law_809 (by decide) (fun c3 => ?_) (fun c3 => absurd (by rw [hf4]; exact cmp_self _) c3)
    refine lv_goto (tgt := 1431) hx hb d_W_law_814 (by decide) ?_
    refine W.widen (k := 200 + (i + 5)) (n := 3000 + 4 * (i + 5)) (by omega) (by omega) ?_
    exact l_back hx hb (fun ls hl => kk n r t2 r2 u2 hR hR2 _ _ _ _ ls hw hS hl) (lv_sub hl [2, 3, 4, 5, 6, 7] rfl)
end LCS
