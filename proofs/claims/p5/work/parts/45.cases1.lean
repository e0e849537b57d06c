section LCS
variable {p : Program} {l : Launch} {e : Env} {s : State} {m : MethodId} {below : List Frame} {meth : Method} {c : Code} {Q : State → Prop} {b L : Nat} {xs : Nat → Int32} {D DM : va_G} {ad bd : Nat → Nat} {ka kb : Nat → ClassId} {sa : Nat → Nat} {qo qd : Nat} {kl kd : ClassId}
set_option maxHeartbeats 4000000 in
set_option maxRecDepth 100000 in
theorem k_moderator (C : LC p l s m meth c b L xs D DM ad bd ka kb sa qo qd kl kd) {i : Nat} (hi : i + 5 ≤ L) {t u : Mem} (ho : OKX t) (hu : MOK u)
    (kk : ∀ (n : Nat) (r : Int32) (t2 : Mem) (r2 : Int32) (u2 : Mem), modR t (xs (nI i + 1).toNatClampNeg) (xs (nI i + 2).toNatClampNeg) (bz (xs (nI i + 3).toNatClampNeg)) = (n, r, t2) → mMod u (xs (nI i + 1).toNatClampNeg) (xs (nI i + 2).toNatClampNeg) (bz (xs (nI i + 3).toNatClampNeg)) = (r2, u2) → ∀ (f : Nat → Int64) (g : Nat → UInt64) (H : Heap) (locs : List Loc) (ls : Array Slot), LW D DM ad bd ka kb qo qd kl kd t2 u2 f g H → va_S (fun q => s.heap.size ≤ q) s.heap H locs → lv_has ls 9 (lvL b ad bd qo qd (i + 5)) → W p l e room_1 s m #[Value.ref b] below meth c H locs (200 + (i + 5)) (3000 + 4 * (i + 5)) Q (F0 m 28 ls [])) :
    ∀ (f : Nat → Int64) (g : Nat → UInt64) (H : Heap) (locs : List Loc) (ls : Array Slot), LW D DM ad bd ka kb qo qd kl kd t u f g H → va_S (fun q => s.heap.size ≤ q) s.heap H locs → lv_has ls 9 (lvL b ad bd qo qd i) → W p l e room_1 s m #[Value.ref b] below meth c H locs (200 + i) (3000 + 4 * i) Q (F0 m 324 ls []) := by
  intro f g H locs ls hw hS hl
  obtain ⟨C0, hL, hl0, hJ, hK, hZ⟩ := C
  obtain ⟨hx, hb, hr, hml, hown, hts0, hX, hbl, hlocks, hgv⟩ := C0
  have hts := lts hts0
  have hbA : ¬ s.heap.size ≤ b := Nat.not_le.mpr hbl
  obtain ⟨Bd, n0, hBd, hOD, hn0, hn, hls, hb1, hb2, hb3, hm7, hm8⟩ := hu
  have hl : lv_has ls 9 [(0, .ref b), (1, .ref (ad 0)), (2, .ref (bd 0)), (3, .ref qo), (4, .ref qd), (5, .int (nI i))] := hl
  have hz : b01 (bz (xs (nI i + 3).toNatClampNeg)) := bz_01 _
  refine lv_aload_n hx hb d_W_law_324 rfl (lv_at hl 1 rfl) ?_
  refine lv_aload_n hx hb d_W_law_325 rfl (lv_at hl 0 rfl) ?_
  refine lv_iload hx hb d_W_law_326 (lv_at hl 5 rfl) ?_
  refine lv_iconst (v := 1) hx hb d_W_law_328 (by decide) ?_
  refine lv_iadd hx hb d_W_law_329 ?_
  refine va_sld (A := fun q => s.heap.size ≤ q) hx hb hX hbl hbA hS (vi_in (k := 1) rfl (by omega) hL) d_W_law_330 ?_
  refine lv_aload_n hx hb d_W_law_331 rfl (lv_at hl 0 rfl) ?_
  refine lv_iload hx hb d_W_law_332 (lv_at hl 5 rfl) ?_
  refine lv_iconst (v := 2) hx hb d_W_law_334 (by decide) ?_
  refine lv_iadd hx hb d_W_law_335 ?_
  refine va_sld (A := fun q => s.heap.size ≤ q) hx hb hX hbl hbA hS (vi_in (k := 2) rfl (by omega) hL) d_W_law_336 ?_
  refine lv_aload_n hx hb d_W_law_337 rfl (lv_at hl 0 rfl) ?_
  refine lv_iload hx hb d_W_law_338 (lv_at hl 5 rfl) ?_
  refine lv_iconst (v := 3) hx hb d_W_law_340 (by decide) ?_
  refine lv_iadd hx hb d_W_law_341 ?_
  refine va_sld (A := fun q => s.heap.size ≤ q) hx hb hX hbl hbA hS (vi_in (k := 3) rfl (by omega) hL) d_W_law_342 ?_
  refine bz_row hx hb d_W_law_343 d_W_law_346 d_W_law_347 d_W_law_350 ?_
  refine lv_aload_n hx hb d_W_law_351 rfl (lv_at hl 3 rfl) ?_
  refine va_calli (vx_runSW (As := [.ref (ad 0), .int (xs (nI i + 1).toNatClampNeg), .int (xs (nI i + 2).toNatClampNeg), .int (bz (xs (nI i + 3).toNatClampNeg)), .ref qo]) (rest := []) ⟨hx, hb, hml, hown, hts⟩ (c_W_moderator l hl0 D ad ka sa H.size t ho (xs (nI i + 1).toNatClampNeg) (xs (nI i + 2).toNatClampNeg) (bz (xs (nI i + 3).toNatClampNeg)) hz qo kl f) (vx_cwSW 5 hts (gsw mw_374 mw_375 mw_0 mw_376) rfl rfl rfl (by decide +kernel) ⟨Nat.le_of_ble_eq_true rfl, Nat.le_of_ble_eq_true rfl⟩) ⟨PH_blind, fun U hU hW => ⟨rfl, PH_mk hJ hw hK hZ hS hU hW⟩⟩ rfl rfl hl.1 rfl (lv_room (Nat.le_of_ble_eq_true rfl)) d_W_law_352 ⟨(show _ ≤ 601024 by omega), (show _ ≤ 7293034 by omega)⟩) hS (fun q _ h => hJ.ao hS.1 h) (fun q h => hJ.ao hS.1 h) (fun kr zz tq H1 locs ht hvm hq hB hz1 hk1 hS => ?_)
  obtain ⟨t2, f2⟩ := zz
  obtain ⟨n, r, hkn, hn4, hR, hf2⟩ := hq
  have hw : LW D DM ad bd ka kb qo qd kl kd t2 u f2 g H1 := LW_h hJ hw ht hB hk1
  refine lv_istore (lv' := [(6, .int kr), (0, .ref b), (1, .ref (ad 0)), (2, .ref (bd 0)), (3, .ref qo), (4, .ref qd), (5, .int (nI i))]) hx hb d_W_law_355 hl (by decide) rfl (fun ls hl => ?_)
  refine lv_aload_n hx hb d_W_law_357 rfl (lv_at hl 3 rfl) ?_
  refine lv_aload_n hx hb d_W_law_358 rfl (lv_at hl 1 rfl) ?_
  refine lv_iload hx hb d_W_law_359 (lv_at hl 6 rfl) ?_
  refine lv_iconst (v := 1) hx hb d_W_law_361 (by decide) ?_
  refine lv_iadd hx hb d_W_law_362 ?_
  refine va_sld (A := fun q => s.heap.size ≤ q) hx hb hX hbl hbA hS (vi_in (k := 1) rfl (by omega) hL) d_W_law_363 ?_
  refine lv_aload_n hx hb d_W_law_364 rfl (lv_at hl 1 rfl) ?_
  refine lv_iload hx hb d_W_law_365 (lv_at hl 6 rfl) ?_
  refine lv_iconst (v := 2) hx hb d_W_law_367 (by decide) ?_
  refine lv_iadd hx hb d_W_law_368 ?_
  refine va_sld (A := fun q => s.heap.size ≤ q) hx hb hX hbl hbA hS (vi_in (k := 2) rfl (by omega) hL) d_W_law_369 ?_
  refine lv_aload_n hx hb d_W_law_370 rfl (lv_at hl 1 rfl) ?_
  refine lv_iload hx hb d_W_law_371 (lv_at hl 6 rfl) ?_
  refine lv_iconst (v := 3) hx hb d_W_law_373 (by decide) ?_
  refine lv_iadd hx hb d_W_law_374 ?_
  refine va_sld (A := fun q => s.heap.size ≤ q) hx hb hX hbl hbA hS (vi_in (k := 3) rfl (by omega) hL) d_W_law_375 ?_
  refine bz_row hx hb d_W_law_376 d_W_law_379 d_W_law_380 d_W_law_383 ?_
  refine va_calli (va_runV (As := [.int (xs (nI i + 1).toNatClampNeg), .int (xs (nI i + 2).toNatClampNeg), .int (bz (xs (nI i + 3).toNatClampNeg))]) (rest := []) ⟨hx, hb, hml, hown, hts⟩ (c_M_moderator l DM bd kb H1.size u hm7 (xs (nI i + 1).toNatClampNeg) (xs (nI i + 2).toNatClampNeg) (bz (xs (nI i + 3).toNatClampNeg)) hz) (cwV 3 hts (gv mw_719 mw_720 mw_721 mw_6 mw_722) rfl rfl rfl (by decide +kernel) ⟨Nat.le_of_ble_eq_true rfl, Nat.le_of_ble_eq_true rfl⟩) ⟨PM_blind, va_recv hK.2.1 hw.2.1 (ci := 0) (q0 := 0) rfl at_M, fun U hU hW => ⟨rfl, LW_pm hJ hw hK hU hW⟩⟩ rfl rfl hl.1 rfl (lv_room (Nat.le_of_ble_eq_true rfl)) d_W_law_384 ⟨(show _ ≤ 601024 by omega), (show _ ≤ 7293034 by omega)⟩) hS (fun q _ h => hJ.am hS.1 h) (fun q h => hJ.am hS.1 h) (fun r2 u2 tq2 H2 locs ht2 hvm2 hR2 hB2 hz2 hk2 hS => ?_)
  have hw := LW_m hJ hw ht2 hB2 hk2
  refine lv_istore (lv' := [(7, .int r2), (6, .int kr), (0, .ref b), (1, .ref (ad 0)), (2, .ref (bd 0)), (3, .ref qo), (4, .ref qd), (5, .int (nI i))]) hx hb d_W_law_387 hl (by decide) rfl (fun ls hl => ?_)
  refine lv_goto (tgt := 937) hx hb d_W_law_389 (by decide) ?_
  refine W.widen (k := 200 + (i + 5)) (n := 3000 + 4 * (i + 5)) (by omega) (by omega) ?_
  exact l_back hx hb (fun ls hl => kk n r t2 r2 u2 hR hR2 _ _ _ _ ls hw hS hl) (lv_sub hl [2, 3, 4, 5, 6, 7] rfl)
set_option maxHeartbeats 4000000 in
set_option maxRecDepth 100000 in
theorem k_ban (C : LC p l s m meth c b L xs D DM ad bd ka kb sa qo qd kl kd) {i : Nat} (hi : i + 5 ≤ L) {t u : Mem} (ho : OKX t) (hu : MOK u)
    (kk : ∀ (n : Nat) (r : Int32) (t2 : Mem) (r2 : Int32) (u2 : Mem), banR t (xs (nI i + 1).toNatClampNeg) (xs (nI i + 2).toNatClampNeg) (bz (xs (nI i + 3).toNatClampNeg)) = (n, r, t2) → mBan u (xs (nI i + 1).toNatClampNeg) (xs (nI i + 2).toNatClampNeg) (bz (xs (nI i + 3).toNatClampNeg)) = (r2, u2) → ∀ (f : Nat → Int64) (g : Nat → UInt64) (H : Heap) (locs : List Loc) (ls : Array Slot), LW D DM ad bd ka kb qo qd kl kd t2 u2 f g H → va_S (fun q => s.heap.size ≤ q) s.heap H locs → lv_has ls 9 (lvL b ad bd qo qd (i + 5)) → W p l e room_1 s m #[Value.ref b] below meth c H locs (200 + (i + 5)) (3000 + 4 * (i + 5)) Q (F0 m 28 ls [])) :
    ∀ (f : Nat → Int64) (g : Nat → UInt64) (H : Heap) (locs : List Loc) (ls : Array Slot), LW D DM ad bd ka kb qo qd kl kd t u f g H → va_S (fun q => s.heap.size ≤ q) s.heap H locs → lv_has ls 9 (lvL b ad bd qo qd i) → W p l e room_1 s m #[Value.ref b] below meth c H locs (200 + i) (3000 + 4 * i) Q (F0 m 392 ls []) := by
  intro f g H locs ls hw hS hl
  obtain ⟨C0, hL, hl0, hJ, hK, hZ⟩ := C
  obtain ⟨hx, hb, hr, hml, hown, hts0, hX, hbl, hlocks, hgv⟩ := C0
  have hts := lts hts0
  have hbA : ¬ s.heap.size ≤ b := Nat.not_le.mpr hbl
  obtain ⟨Bd, n0, hBd, hOD, hn0, hn, hls, hb1, hb2, hb3, hm7, hm8⟩ := hu
  have hl : lv_has ls 9 [(0, .ref b), (1, .ref (ad 0)), (2, .ref (bd 0)), (3, .ref qo), (4, .ref qd), (5, .int (nI i))] := hl
  have hz : b01 (bz (xs (nI i + 3).toNatClampNeg)) := bz_01 _
  refine lv_aload_n hx hb d_W_law_392 rfl (lv_at hl 1 rfl) ?_
  refine lv_aload_n hx hb d_W_law_393 rfl (lv_at hl 0 rfl) ?_
  refine lv_iload hx hb d_W_law_394 (lv_at hl 5 rfl) ?_
  refine lv_iconst (v := 1) hx hb d_W_law_396 (by decide) ?_
  refine lv_iadd hx hb d_W_law_397 ?_
  refine va_sld (A := fun q => s.heap.size ≤ q) hx hb hX hbl hbA hS (vi_in (k := 1) rfl (by omega) hL) d_W_law_398 ?_
  refine lv_aload_n hx hb d_W_law_399 rfl (lv_at hl 0 rfl) ?_
  refine lv_iload hx hb d_W_law_400 (lv_at hl 5 rfl) ?_
  refine lv_iconst (v := 2) hx hb d_W_law_402 (by decide) ?_
  refine lv_iadd hx hb d_W_law_403 ?_
  refine va_sld (A := fun q => s.heap.size ≤ q) hx hb hX hbl hbA hS (vi_in (k := 2) rfl (by omega) hL) d_W_law_404 ?_
  refine lv_aload_n hx hb d_W_law_405 rfl (lv_at hl 0 rfl) ?_
  refine lv_iload hx hb d_W_law_406 (lv_at hl 5 rfl) ?_
  refine lv_iconst (v := 3) hx hb d_W_law_408 (by decide) ?_
  refine lv_iadd hx hb d_W_law_409 ?_
  refine va_sld (A := fun q => s.heap.size ≤ q) hx hb hX hbl hbA hS (vi_in (k := 3) rfl (by omega) hL) d_W_law_410 ?_
  refine bz_row hx hb d_W_law_411 d_W_law_414 d_W_law_415 d_W_law_418 ?_
  refine lv_aload_n hx hb d_W_law_419 rfl (lv_at hl 3 rfl) ?_
  refine va_calli (vx_runSW (As := [.ref (ad 0), .int (xs (nI i + 1).toNatClampNeg), .int (xs (nI i + 2).toNatClampNeg), .int (bz (xs (nI i + 3).toNatClampNeg)), .ref qo]) (rest := []) ⟨hx, hb, hml, hown, hts⟩ (c_W_ban l hl0 D ad ka sa H.size t ho (xs (nI i + 1).toNatClampNeg) (xs (nI i + 2).toNatClampNeg) (bz (xs (nI i + 3).toNatClampNeg)) hz qo kl f) (vx_cwSW 5 hts (gsw mw_382 mw_383 mw_0 mw_384) rfl rfl rfl (by decide +kernel) ⟨Nat.le_of_ble_eq_true rfl, Nat.le_of_ble_eq_true rfl⟩) ⟨PH_blind, fun U hU hW => ⟨rfl, PH_mk hJ hw hK hZ hS hU hW⟩⟩ rfl rfl hl.1 rfl (lv_room (Nat.le_of_ble_eq_true rfl)) d_W_law_420 ⟨(show _ ≤ 601024 by omega), (show _ ≤ 7293034 by omega)⟩) hS (fun q _ h => hJ.ao hS.1 h) (fun q h => hJ.ao hS.1 h) (fun kr zz tq H1 locs ht hvm hq hB hz1 hk1 hS => ?_)
  obtain ⟨t2, f2⟩ := zz
  obtain ⟨n, r, hkn, hn4, hR, hf2⟩ := hq
  have hw : LW D DM ad bd ka kb qo qd kl kd t2 u f2 g H1 := LW_h hJ hw ht hB hk1
  refine lv_istore (lv' := [(6, .int kr), (0, .ref b), (1, .ref (ad 0)), (2, .ref (bd 0)), (3, .ref qo), (4, .ref qd), (5, .int (nI i))]) hx hb d_W_law_423 hl (by decide) rfl (fun ls hl => ?_)
  refine lv_aload_n hx hb d_W_law_425 rfl (lv_at hl 3 rfl) ?_
  refine lv_aload_n hx hb d_W_law_426 rfl (lv_at hl 1 rfl) ?_
  refine lv_iload hx hb d_W_law_427 (lv_at hl 6 rfl) ?_
  refine lv_iconst (v := 1) hx hb d_W_law_429 (by decide) ?_
  refine lv_iadd hx hb d_W_law_430 ?_
  refine va_sld (A := fun q => s.heap.size ≤ q) hx hb hX hbl hbA hS (vi_in (k := 1) rfl (by omega) hL) d_W_law_431 ?_
  refine lv_aload_n hx hb d_W_law_432 rfl (lv_at hl 1 rfl) ?_
  refine lv_iload hx hb d_W_law_433 (lv_at hl 6 rfl) ?_
  refine lv_iconst (v := 2) hx hb d_W_law_435 (by decide) ?_
  refine lv_iadd hx hb d_W_law_436 ?_
  refine va_sld (A := fun q => s.heap.size ≤ q) hx hb hX hbl hbA hS (vi_in (k := 2) rfl (by omega) hL) d_W_law_437 ?_
  refine lv_aload_n hx hb d_W_law_438 rfl (lv_at hl 1 rfl) ?_
  refine lv_iload hx hb d_W_law_439 (lv_at hl 6 rfl) ?_
  refine lv_iconst (v := 3) hx hb d_W_law_441 (by decide) ?_
  refine lv_iadd hx hb d_W_law_442 ?_
  refine va_sld (A := fun q => s.heap.size ≤ q) hx hb hX hbl hbA hS (vi_in (k := 3) rfl (by omega) hL) d_W_law_443 ?_
  refine bz_row hx hb d_W_law_444 d_W_law_447 d_W_law_448 d_W_law_451 ?_
  refine va_calli (va_runV (As := [.int (xs (nI i + 1).toNatClampNeg), .int (xs (nI i + 2).toNatClampNeg), .int (bz (xs (nI i + 3).toNatClampNeg))]) (rest := []) ⟨hx, hb, hml, hown, hts⟩ (c_M_ban l DM bd kb H1.size u hm8 (xs (nI i + 1).toNatClampNeg) (xs (nI i + 2).toNatClampNeg) (bz (xs (nI i + 3).toNatClampNeg)) hz) (cwV 3 hts (gv mw_723 mw_724 mw_725 mw_6 mw_726) rfl rfl rfl (by decide +kernel) ⟨Nat.le_of_ble_eq_true rfl, Nat.le_of_ble_eq_true rfl⟩) ⟨PM_blind, va_recv hK.2.1 hw.2.1 (ci := 0) (q0 := 0) rfl at_M, fun U hU hW => ⟨rfl, LW_pm hJ hw hK hU hW⟩⟩ rfl rfl hl.1 rfl (lv_room (Nat.le_of_ble_eq_true rfl)) d_W_law_452 ⟨(show _ ≤ 601024 by omega), (show _ ≤ 7293034 by omega)⟩) hS (fun q _ h => hJ.am hS.1 h) (fun q h => hJ.am hS.1 h) (fun r2 u2 tq2 H2 locs ht2 hvm2 hR2 hB2 hz2 hk2 hS => ?_)
  have hw := LW_m hJ hw ht2 hB2 hk2
  refine lv_istore (lv' := [(7, .int r2), (6, .int kr), (0, .ref b), (1, .ref (ad 0)), (2, .ref (bd 0)), (3, .ref qo), (4, .ref qd), (5, .int (nI i))]) hx hb d_W_law_455 hl (by decide) rfl (fun ls hl => ?_)
  refine lv_goto (tgt := 937) hx hb d_W_law_457 (by decide) ?_
  refine W.widen (k := 200 + (i + 5)) (n := 3000 + 4 * (i + 5)) (by omega) (by omega) ?_
  exact l_back hx hb (fun ls hl => kk n r t2 r2 u2 hR hR2 _ _ _ _ ls hw hS hl) (lv_sub hl [2, 3, 4, 5, 6, 7] rfl)
set_option maxHeartbeats 4000000 in
set_option maxRecDepth 100000 in
theorem k_setting (C : LC p l s m meth c b L xs D DM ad bd ka kb sa qo qd kl kd) {i : Nat} (hi : i + 5 ≤ L) {t u : Mem} (ho : OKX t) (hu : MOK u)
    (kk : ∀ (n : Nat) (r : UInt64) (t2 : Mem) (r2 : UInt64) (u2 : Mem), setR t (xs (nI i + 1).toNatClampNeg) (xs (nI i + 2).toNatClampNeg) (FP.dmul (FP.i2d (xs (nI i + 3).toNatClampNeg)) 4593671619917905920) = (n, r, t2) → mSet u (xs (nI i + 1).toNatClampNeg) (xs (nI i + 2).toNatClampNeg) (FP.dmul (FP.i2d (xs (nI i + 3).toNatClampNeg)) 4593671619917905920) = (r2, u2) → ∀ (f : Nat → Int64) (g : Nat → UInt64) (H : Heap) (locs : List Loc) (ls : Array Slot), LW D DM ad bd ka kb qo qd kl kd t2 u2 f g H → va_S (fun q => s.heap.size ≤ q) s.heap H locs → lv_has ls 9 (lvL b ad bd qo qd (i + 5)) → W p l e room_1 s m #[Value.ref b] below meth c H locs (200 + (i + 5)) (3000 + 4 * (i + 5)) Q (F0 m 28 ls [])) :
    ∀ (f : Nat → Int64) (g : Nat → UInt64) (H : Heap) (locs : List Loc) (ls : Array Slot), LW D DM ad bd ka kb qo qd kl kd t u f g H → va_S (fun q => s.heap.size ≤ q) s.heap H locs → lv_has ls 9 (lvL b ad bd qo qd i) → W p l e room_1 s m #[Value.ref b] below meth c H locs (200 + i) (3000 + 4 * i) Q (F0 m 460 ls []) := by
  intro f g H locs ls hw hS hl
  obtain ⟨C0, hL, hl0, hJ, hK, hZ⟩ := C
  obtain ⟨hx, hb, hr, hml, hown, hts0, hX, hbl, hlocks, hgv⟩ := C0
  have hts := lts hts0
  have hbA : ¬ s.heap.size ≤ b := Nat.not_le.mpr hbl
  obtain ⟨Bd, n0, hBd, hOD, hn0, hn, hls, hb1, hb2, hb3, hm7, hm8⟩ := hu
  have hl : lv_has ls 9 [(0, .ref b), (1, .ref (ad 0)), (2, .ref (bd 0)), (3, .ref qo), (4, .ref qd), (5, .int (nI i))] := hl
  refine lv_aload_n hx hb d_W_law_460 rfl (lv_at hl 1 rfl) ?_
  refine lv_aload_n hx hb d_W_law_461 rfl (lv_at hl 0 rfl) ?_
  refine lv_iload hx hb d_W_law_462 (lv_at hl 5 rfl) ?_
  refine lv_iconst (v := 1) hx hb d_W_law_464 (by decide) ?_
  refine lv_iadd hx hb d_W_law_465 ?_
  refine va_sld (A := fun q => s.heap.size ≤ q) hx hb hX hbl hbA hS (vi_in (k := 1) rfl (by omega) hL) d_W_law_466 ?_
  refine lv_aload_n hx hb d_W_law_467 rfl (lv_at hl 0 rfl) ?_
  refine lv_iload hx hb d_W_law_468 (lv_at hl 5 rfl) ?_
  refine lv_iconst (v := 2) hx hb d_W_law_470 (by decide) ?_
  refine lv_iadd hx hb d_W_law_471 ?_
  refine va_sld (A := fun q => s.heap.size ≤ q) hx hb hX hbl hbA hS (vi_in (k := 2) rfl (by omega) hL) d_W_law_472 ?_
  refine lv_aload_n hx hb d_W_law_473 rfl (lv_at hl 0 rfl) ?_
  refine lv_iload hx hb d_W_law_474 (lv_at hl 5 rfl) ?_
  refine lv_iconst (v := 3) hx hb d_W_law_476 (by decide) ?_
  refine lv_iadd hx hb d_W_law_477 ?_
  refine va_sld (A := fun q => s.heap.size ≤ q) hx hb hX hbl hbA hS (vi_in (k := 3) rfl (by omega) hL) d_W_law_478 ?_
  refine lv_i2d hx hb d_W_law_479 ?_
  refine lv_ldc2d (own := "ListForgeLaw") (v := 4593671619917905920) hx hb hown (bg hts mw_791) d_W_law_480 ?_
  refine lv_dmul hx hb d_W_law_483 (nan_125 _) ?_
  refine lv_aload hx hb d_W_law_484 (lv_at hl 4 rfl) ?_
  refine va_calli (vx_runSW (As := [.ref (ad 0), .int (xs (nI i + 1).toNatClampNeg), .int (xs (nI i + 2).toNatClampNeg), .double (FP.dmul (FP.i2d (xs (nI i + 3).toNatClampNeg)) 4593671619917905920), .ref qd]) (rest := []) ⟨hx, hb, hml, hown, hts⟩ (c_W_setting l hl0 D ad ka sa H.size t (xs (nI i + 1).toNatClampNeg) (xs (nI i + 2).toNatClampNeg) (FP.dmul (FP.i2d (xs (nI i + 3).toNatClampNeg)) 4593671619917905920) qd kd g) (vx_cwSW 5 hts (gsw mw_389 mw_390 mw_0 mw_391) rfl rfl rfl (by decide +kernel) ⟨Nat.le_of_ble_eq_true rfl, Nat.le_of_ble_eq_true rfl⟩) ⟨PH_blind, fun U hU hW => ⟨rfl, PHd_mk hJ hw hK hZ hS hU hW⟩⟩ rfl rfl hl.1 rfl (lv_room (Nat.le_of_ble_eq_true rfl)) d_W_law_486 ⟨(show _ ≤ 601024 by omega), (show _ ≤ 7293034 by omega)⟩) hS (fun q _ h => hJ.aod hS.1 h) (fun q h => hJ.aod hS.1 h) (fun kr zz tq H1 locs ht hvm hq hB hz1 hk1 hS => ?_)
  obtain ⟨t2, g2⟩ := zz
  obtain ⟨n, r, hkn, hn4, hR, hf2⟩ := hq
  have hw : LW D DM ad bd ka kb qo qd kl kd t2 u f g2 H1 := LW_hd hJ hw ht hB hk1
  refine lv_istore (lv' := [(6, .int kr), (0, .ref b), (1, .ref (ad 0)), (2, .ref (bd 0)), (3, .ref qo), (4, .ref qd), (5, .int (nI i))]) hx hb d_W_law_489 hl (by decide) rfl (fun ls hl => ?_)
  refine lv_aload_n hx hb d_W_law_491 rfl (lv_at hl 3 rfl) ?_
  refine lv_aload_n hx hb d_W_law_492 rfl (lv_at hl 1 rfl) ?_
  refine lv_iload hx hb d_W_law_493 (lv_at hl 6 rfl) ?_
  refine lv_iconst (v := 1) hx hb d_W_law_495 (by decide) ?_
  refine lv_iadd hx hb d_W_law_496 ?_
  refine va_sld (A := fun q => s.heap.size ≤ q) hx hb hX hbl hbA hS (vi_in (k := 1) rfl (by omega) hL) d_W_law_497 ?_
  refine lv_aload_n hx hb d_W_law_498 rfl (lv_at hl 1 rfl) ?_
  refine lv_iload hx hb d_W_law_499 (lv_at hl 6 rfl) ?_
  refine lv_iconst (v := 2) hx hb d_W_law_501 (by decide) ?_
  refine lv_iadd hx hb d_W_law_502 ?_
  refine va_sld (A := fun q => s.heap.size ≤ q) hx hb hX hbl hbA hS (vi_in (k := 2) rfl (by omega) hL) d_W_law_503 ?_
  refine lv_aload_n hx hb d_W_law_504 rfl (lv_at hl 1 rfl) ?_
  refine lv_iload hx hb d_W_law_505 (lv_at hl 6 rfl) ?_
  refine lv_iconst (v := 3) hx hb d_W_law_507 (by decide) ?_
  refine lv_iadd hx hb d_W_law_508 ?_
  refine va_sld (A := fun q => s.heap.size ≤ q) hx hb hX hbl hbA hS (vi_in (k := 3) rfl (by omega) hL) d_W_law_509 ?_
  refine lv_i2d hx hb d_W_law_510 ?_
  refine lv_ldc2d (own := "ListForgeLaw") (v := 4593671619917905920) hx hb hown (bg hts mw_791) d_W_law_511 ?_
  refine lv_dmul hx hb d_W_law_514 (nan_125 _) ?_
  refine va_calld (va_runV (As := [.int (xs (nI i + 1).toNatClampNeg), .int (xs (nI i + 2).toNatClampNeg), .double (FP.dmul (FP.i2d (xs (nI i + 3).toNatClampNeg)) 4593671619917905920)]) (rest := []) ⟨hx, hb, hml, hown, hts⟩ (c_M_setting l DM bd kb H1.size u (xs (nI i + 1).toNatClampNeg) (xs (nI i + 2).toNatClampNeg) (FP.dmul (FP.i2d (xs (nI i + 3).toNatClampNeg)) 4593671619917905920)) (cwV 3 hts (gv mw_727 mw_728 mw_729 mw_6 mw_730) rfl rfl rfl (by decide +kernel) ⟨Nat.le_of_ble_eq_true rfl, Nat.le_of_ble_eq_true rfl⟩) ⟨PM_blind, va_recv hK.2.1 hw.2.1 (ci := 0) (q0 := 0) rfl at_M, fun U hU hW => ⟨rfl, LW_pm hJ hw hK hU hW⟩⟩ rfl rfl hl.1 rfl (lv_room (Nat.le_of_ble_eq_true rfl)) d_W_law_515 ⟨(show _ ≤ 601024 by omega), (show _ ≤ 7293034 by omega)⟩) hS (fun q _ h => hJ.am hS.1 h) (fun q h => hJ.am hS.1 h) (fun r2 u2 tq2 H2 locs ht2 hvm2 hR2 hB2 hz2 hk2 hS => ?_)
  have hw := LW_m hJ hw ht2 hB2 hk2
  refine lv_dstore (lv' := [(7, .double r2), (6, .int kr), (0, .ref b), (1, .ref (ad 0)), (2, .ref (bd 0)), (3, .ref qo), (4, .ref qd), (5, .int (nI i))]) hx hb d_W_law_518 hl (by decide) rfl (fun ls hl => ?_)
  refine lv_goto (tgt := 937) hx hb d_W_law_520 (by decide) ?_
  refine W.widen (k := 200 + (i + 5)) (n := 3000 + 4 * (i + 5)) (by omega) (by omega) ?_
  exact l_back hx hb (fun ls hl => kk n r t2 r2 u2 hR hR2 _ _ _ _ ls hw hS hl) (lv_sub hl [2, 3, 4, 5, 6, 7] rfl)
set_option maxHeartbeats 4000000 in
set_option maxRecDepth 100000 in
theorem k_post (C : LC p l s m meth c b L xs D DM ad bd ka kb sa qo qd kl kd) {i : Nat} (hi : i + 5 ≤ L) {t u : Mem} (ho : OKX t) (hu : MOK u)
    (kk : ∀ (n : Nat) (r : Int32) (t2 : Mem) (r2 : Int32) (u2 : Mem), postR t (xs (nI i + 1).toNatClampNeg) (xs (nI i + 2).toNatClampNeg) (xs (nI i + 3).toNatClampNeg) (xs (nI i + 4).toNatClampNeg) = (n, r, t2) → mPost u (xs (nI i + 1).toNatClampNeg) (xs (nI i + 2).toNatClampNeg) (xs (nI i + 3).toNatClampNeg) (xs (nI i + 4).toNatClampNeg) = (r2, u2) → ∀ (f : Nat → Int64) (g : Nat → UInt64) (H : Heap) (locs : List Loc) (ls : Array Slot), LW D DM ad bd ka kb qo qd kl kd t2 u2 f g H → va_S (fun q => s.heap.size ≤ q) s.heap H locs → lv_has ls 9 (lvL b ad bd qo qd (i + 5)) → W p l e room_1 s m #[Value.ref b] below meth c H locs (200 + (i + 5)) (3000 + 4 * (i + 5)) Q (F0 m 28 ls [])) :
    ∀ (f : Nat → Int64) (g : Nat → UInt64) (H : Heap) (locs : List Loc) (ls : Array Slot), LW D DM ad bd ka kb qo qd kl kd t u f g H → va_S (fun q => s.heap.size ≤ q) s.heap H locs → lv_has ls 9 (lvL b ad bd qo qd i) → W p l e room_1 s m #[Value.ref b] below meth c H locs (200 + i) (3000 + 4 * i) Q (F0 m 523 ls []) := by
  intro f g H locs ls hw hS hl
  obtain ⟨C0, hL, hl0, hJ, hK, hZ⟩ := C
  obtain ⟨hx, hb, hr, hml, hown, hts0, hX, hbl, hlocks, hgv⟩ := C0
  have hts := lts hts0
  have hbA : ¬ s.heap.size ≤ b := Nat.not_le.mpr hbl
  obtain ⟨Bd, n0, hBd, hOD, hn0, hn, hls, hb1, hb2, hb3, hm7, hm8⟩ := hu
  have hl : lv_has ls 9 [(0, .ref b), (1, .ref (ad 0)), (2, .ref (bd 0)), (3, .ref qo), (4, .ref qd), (5, .int (nI i))] := hl
  refine lv_aload_n hx hb d_W_law_523 rfl (lv_at hl 1 rfl) ?_
  refine lv_aload_n hx hb d_W_law_524 rfl (lv_at hl 0 rfl) ?_
  refine lv_iload hx hb d_W_law_525 (lv_at hl 5 rfl) ?_
  refine lv_iconst (v := 1) hx hb d_W_law_527 (by decide) ?_
  refine lv_iadd hx hb d_W_law_528 ?_
  refine va_sld (A := fun q => s.heap.size ≤ q) hx hb hX hbl hbA hS (vi_in (k := 1) rfl (by omega) hL) d_W_law_529 ?_
  refine lv_aload_n hx hb d_W_law_530 rfl (lv_at hl 0 rfl) ?_
  refine lv_iload hx hb d_W_law_531 (lv_at hl 5 rfl) ?_
  refine lv_iconst (v := 2) hx hb d_W_law_533 (by decide) ?_
  refine lv_iadd hx hb d_W_law_534 ?_
  refine va_sld (A := fun q => s.heap.size ≤ q) hx hb hX hbl hbA hS (vi_in (k := 2) rfl (by omega) hL) d_W_law_535 ?_
  refine lv_aload_n hx hb d_W_law_536 rfl (lv_at hl 0 rfl) ?_
  refine lv_iload hx hb d_W_law_537 (lv_at hl 5 rfl) ?_
  refine lv_iconst (v := 3) hx hb d_W_law_539 (by decide) ?_
  refine lv_iadd hx hb d_W_law_540 ?_
  refine va_sld (A := fun q => s.heap.size ≤ q) hx hb hX hbl hbA hS (vi_in (k := 3) rfl (by omega) hL) d_W_law_541 ?_
  refine lv_aload_n hx hb d_W_law_542 rfl (lv_at hl 0 rfl) ?_
  refine lv_iload hx hb d_W_law_543 (lv_at hl 5 rfl) ?_
  refine lv_iconst (v := 4) hx hb d_W_law_545 (by decide) ?_
  refine lv_iadd hx hb d_W_law_546 ?_
  refine va_sld (A := fun q => s.heap.size ≤ q) hx hb hX hbl hbA hS (vi_in (k := 4) rfl (by omega) hL) d_W_law_547 ?_
  refine lv_aload_n hx hb d_W_law_548 rfl (lv_at hl 3 rfl) ?_
  refine va_calli (vx_runSW (As := [.ref (ad 0), .int (xs (nI i + 1).toNatClampNeg), .int (xs (nI i + 2).toNatClampNeg), .int (xs (nI i + 3).toNatClampNeg), .int (xs (nI i + 4).toNatClampNeg), .ref qo]) (rest := []) ⟨hx, hb, hml, hown, hts⟩ (c_W_post l hl0 D ad ka sa H.size t ho (xs (nI i + 1).toNatClampNeg) (xs (nI i + 2).toNatClampNeg) (xs (nI i + 3).toNatClampNeg) (xs (nI i + 4).toNatClampNeg) qo kl f) (vx_cwSW 6 hts (gsw mw_422 mw_423 mw_0 mw_424) rfl rfl rfl (by decide +kernel) ⟨Nat.le_of_ble_eq_true rfl, Nat.le_of_ble_eq_true rfl⟩) ⟨PH_blind, fun U hU hW => ⟨rfl, PH_mk hJ hw hK hZ hS hU hW⟩⟩ rfl rfl hl.1 rfl (lv_room (Nat.le_of_ble_eq_true rfl)) d_W_law_549 ⟨(show _ ≤ 601024 by omega), (show _ ≤ 7293034 by omega)⟩) hS (fun q _ h => hJ.ao hS.1 h) (fun q h => hJ.ao hS.1 h) (fun kr zz tq H1 locs ht hvm hq hB hz1 hk1 hS => ?_)
  obtain ⟨t2, f2⟩ := zz
  obtain ⟨n, r, hkn, hn4, hR, hf2⟩ := hq
  have hw : LW D DM ad bd ka kb qo qd kl kd t2 u f2 g H1 := LW_h hJ hw ht hB hk1
  refine lv_istore (lv' := [(6, .int kr), (0, .ref b), (1, .ref (ad 0)), (2, .ref (bd 0)), (3, .ref qo), (4, .ref qd), (5, .int (nI i))]) hx hb d_W_law_552 hl (by decide) rfl (fun ls hl => ?_)
  refine lv_aload_n hx hb d_W_law_554 rfl (lv_at hl 3 rfl) ?_
  refine lv_aload_n hx hb d_W_law_555 rfl (lv_at hl 1 rfl) ?_
  refine lv_iload hx hb d_W_law_556 (lv_at hl 6 rfl) ?_
  refine lv_iconst (v := 1) hx hb d_W_law_558 (by decide) ?_
  refine lv_iadd hx hb d_W_law_559 ?_
  refine va_sld (A := fun q => s.heap.size ≤ q) hx hb hX hbl hbA hS (vi_in (k := 1) rfl (by omega) hL) d_W_law_560 ?_
  refine lv_aload_n hx hb d_W_law_561 rfl (lv_at hl 1 rfl) ?_
  refine lv_iload hx hb d_W_law_562 (lv_at hl 6 rfl) ?_
  refine lv_iconst (v := 2) hx hb d_W_law_564 (by decide) ?_
  refine lv_iadd hx hb d_W_law_565 ?_
  refine va_sld (A := fun q => s.heap.size ≤ q) hx hb hX hbl hbA hS (vi_in (k := 2) rfl (by omega) hL) d_W_law_566 ?_
  refine lv_aload_n hx hb d_W_law_567 rfl (lv_at hl 1 rfl) ?_
  refine lv_iload hx hb d_W_law_568 (lv_at hl 6 rfl) ?_
  refine lv_iconst (v := 3) hx hb d_W_law_570 (by decide) ?_
  refine lv_iadd hx hb d_W_law_571 ?_
  refine va_sld (A := fun q => s.heap.size ≤ q) hx hb hX hbl hbA hS (vi_in (k := 3) rfl (by omega) hL) d_W_law_572 ?_
  refine lv_aload_n hx hb d_W_law_573 rfl (lv_at hl 1 rfl) ?_
  refine lv_iload hx hb d_W_law_574 (lv_at hl 6 rfl) ?_
  refine lv_iconst (v := 4) hx hb d_W_law_576 (by decide) ?_
  refine lv_iadd hx hb d_W_law_577 ?_
  refine va_sld (A := fun q => s.heap.size ≤ q) hx hb hX hbl hbA hS (vi_in (k := 4) rfl (by omega) hL) d_W_law_578 ?_
  refine va_calli (va_runV (As := [.int (xs (nI i + 1).toNatClampNeg), .int (xs (nI i + 2).toNatClampNeg), .int (xs (nI i + 3).toNatClampNeg), .int (xs (nI i + 4).toNatClampNeg)]) (rest := []) ⟨hx, hb, hml, hown, hts⟩ (c_M_post l DM bd kb H1.size u Bd (by omega) hOD.1 n0 hn0 hn hb2 (xs (nI i + 1).toNatClampNeg) (xs (nI i + 2).toNatClampNeg) (xs (nI i + 3).toNatClampNeg) (xs (nI i + 4).toNatClampNeg)) (cwV 4 hts (gv mw_733 mw_734 mw_735 mw_6 mw_736) rfl rfl rfl (by decide +kernel) ⟨Nat.le_of_ble_eq_true rfl, Nat.le_of_ble_eq_true rfl⟩) ⟨PM_blind, va_recv hK.2.1 hw.2.1 (ci := 0) (q0 := 0) rfl at_M, fun U hU hW => ⟨rfl, LW_pm hJ hw hK hU hW⟩⟩ rfl rfl hl.1 rfl (lv_room (Nat.le_of_ble_eq_true rfl)) d_W_law_579 ⟨(show _ ≤ 601024 by omega), (show _ ≤ 7293034 by omega)⟩) hS (fun q _ h => hJ.am hS.1 h) (fun q h => hJ.am hS.1 h) (fun r2 u2 tq2 H2 locs ht2 hvm2 hR2 hB2 hz2 hk2 hS => ?_)
  have hw := LW_m hJ hw ht2 hB2 hk2
  refine lv_istore (lv' := [(7, .int r2), (6, .int kr), (0, .ref b), (1, .ref (ad 0)), (2, .ref (bd 0)), (3, .ref qo), (4, .ref qd), (5, .int (nI i))]) hx hb d_W_law_582 hl (by decide) rfl (fun ls hl => ?_)
  refine lv_goto (tgt := 937) hx hb d_W_law_584 (by decide) ?_
  refine W.widen (k := 200 + (i + 5)) (n := 3000 + 4 * (i + 5)) (by omega) (by omega) ?_
  exact l_back hx hb (fun ls hl => kk n r t2 r2 u2 hR hR2 _ _ _ _ ls hw hS hl) (lv_sub hl [2, 3, 4, 5, 6, 7] rfl)
end LCS
