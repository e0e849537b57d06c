section LCS
variable {p : Program} {l : Launch} {e : Env} {s : State} {m : MethodId} {below : List Frame} {meth : Method} {c : Code} {Q : State → Prop} {b L : Nat} {xs : Nat → Int32} {D DM : va_G} {ad bd : Nat → Nat} {ka kb : Nat → ClassId} {sa : Nat → Nat} {qo qd : Nat} {kl kd : ClassId}
set_option maxHeartbeats 4000000 in
set_option maxRecDepth 100000 in
theorem k_moderator (C : LC p l s m meth c b L xs D DM ad bd ka kb sa qo qd kl kd) {i : Nat} (hi : i + 5 ≤ L) {t u : Mem} (ho : OKX t) (hu : MOK u)
    (kk : ∀ (n : Nat) (r : Int32) (t2 : Mem) (r2 : Int32) (u2 : Mem), modR t (xs (nI i + 1).toNatClampNeg) (xs (nI i + 2).toNatClampNeg) (bz (xs (nI i + 3).toNatClampNeg)) = (n, r, t2) → mMod u (xs (nI i + 1).toNatClampNeg) (xs (nI i + 2).toNatClampNeg) (bz (xs (nI i + 3).toNatClampNeg)) = (r2, u2) → ∀ (f : Nat → Int64) (g : Nat → UInt64) (H : Heap) (locs : List Loc) (ls : Array Slot), LW D DM ad bd ka kb qo qd kl kd t2 u2 f g H → va_S (fun q => s.heap.size ≤ q) s.heap H locs → lv_has ls 9 (lvL b ad bd qo qd (i + 5)) → W p l e room_1 s m #[Value.ref b] below meth c H locs (200 + (i + 5)) (3000 + 4 * (i + 5)) Q (F0 m 28 ls [])) :
    ∀ (f : Nat → Int64) (g : Nat → UInt64) (H : Heap) (locs : List Loc) (ls : Array Slot), LW D DM ad bd ka kb qo qd kl kd t u f g H → va_S (fun q => s.heap.size ≤ q) s.heap H locs → lv_has ls 9 (lvL b ad bd qo qd i) → W p l e room_1 s m #[Value.ref b] below meth c H locs (200 + i) (3000 + 4 * i) Q (F0 m 296 ls []) := by
  intro f g H locs ls hw hS hl
  obtain ⟨C0, hL, hl0, hJ, hK, hZ⟩ := C
  obtain ⟨hx, hb, hr, hml, hown, hts0, hX, hbl, hlocks, hgv⟩ := C0
  have hts := lts hts0
  have hbA : ¬ s.heap.size ≤ b := Nat.not_le.mpr hbl
  obtain ⟨Bd, n0, hBd, hOD, hn0, hn, hls, hb1, hb2, hb3, hm7, hm8⟩ := hu
  have hl : lv_has ls 9 [(0, .ref b), (1, .ref (ad 0)), (2, .ref (bd 0)), (3, .ref qo), (4, .ref qd), (5, .int (nI i))] := hl
  have hz : b01 (bz (xs (nI i + 3).toNatClampNeg)) := bz_01 _
  refine lv_aload_n hx hb d_W_law_296 rfl (lv_at hl 1 rfl) ?_
  refine lv_aload_n hx hb d_W_law_297 rfl (lv_at hl 0 rfl) ?_
  refine lv_iload hx hb d_W_law_298 (lv_at hl 5 rfl) ?_
  refine lv_iconst (v := 1) hx hb d_W_law_300 (by decide) ?_
  refine lv_iadd hx hb d_W_law_301 ?_
  refine va_sld (A := fun q => s.heap.size ≤ q) hx hb hX hbl hbA hS (vi_in (k := 1) rfl (by omega) hL) d_W_law_302 ?_
  refine lv_aload_n hx hb d_W_law_303 rfl (lv_at hl 0 rfl) ?_
  refine lv_iload hx hb d_W_law_304 (lv_at hl 5 rfl) ?_
  refine lv_iconst (v := 2) hx hb d_W_law_306 (by decide) ?_
  refine lv_iadd hx hb d_W_law_307 ?_
  refine va_sld (A := fun q => s.heap.size ≤ q) hx hb hX hbl hbA hS (vi_in (k := 2) rfl (by omega) hL) d_W_law_308 ?_
  refine lv_aload_n hx hb d_W_law_309 rfl (lv_at hl 0 rfl) ?_
  refine lv_iload hx hb d_W_law_310 (lv_at hl 5 rfl) ?_
  refine lv_iconst (v := 3) hx hb d_W_law_312 (by decide) ?_
  refine lv_iadd hx hb d_W_law_313 ?_
  refine va_sld (A := fun q => s.heap.size ≤ q) hx hb hX hbl hbA hS (vi_in (k := 3) rfl (by omega) hL) d_W_law_314 ?_
  refine bz_row hx hb d_W_law_315 d_W_law_318 d_W_law_319 d_W_law_322 ?_
  refine lv_aload_n hx hb d_W_law_323 rfl (lv_at hl 3 rfl) ?_
  refine va_calli (vx_runSW (As := [.ref (ad 0), .int (xs (nI i + 1).toNatClampNeg), .int (xs (nI i + 2).toNatClampNeg), .int (bz (xs (nI i + 3).toNatClampNeg)), .ref qo]) (rest := []) ⟨hx, hb, hml, hown, hts⟩ (c_W_moderator l hl0 D ad ka sa H.size t ho (xs (nI i + 1).toNatClampNeg) (xs (nI i + 2).toNatClampNeg) (bz (xs (nI i + 3).toNatClampNeg)) hz qo kl f) (vx_cwSW 5 hts (gsw mw_374 mw_375 mw_0 mw_376) rfl rfl rfl (by decide +kernel) ⟨Nat.le_of_ble_eq_true rfl, Nat.le_of_ble_eq_true rfl⟩) ⟨PH_blind, fun U hU hW => ⟨rfl, PH_mk hJ hw hK hZ hS hU hW⟩⟩ rfl rfl hl.1 rfl (lv_room (Nat.le_of_ble_eq_true rfl)) d_W_law_324 ⟨(show _ ≤ 601024 by omega), (show _ ≤ 7293034 by omega)⟩) hS (fun q _ h => hJ.ao hS.1 h) (fun q h => hJ.ao hS.1 h) (fun kr zz tq H1 locs ht hvm hq hB hz1 hk1 hS => ?_)
  obtain ⟨t2, f2⟩ := zz
  obtain ⟨n, r, hkn, hn4, hR, hf2⟩ := hq
  have hw : LW D DM ad bd ka kb qo qd kl kd t2 u f2 g H1 := LW_h hJ hw ht hB hk1
  refine lv_istore (lv' := [(6, .int kr), (0, .ref b), (1, .ref (ad 0)), (2, .ref (bd 0)), (3, .ref qo), (4, .ref qd), (5, .int (nI i))]) hx hb d_W_law_327 hl (by decide) rfl (fun ls hl => ?_)
  refine lv_aload_n hx hb d_W_law_329 rfl (lv_at hl 3 rfl) ?_
  refine lv_aload_n hx hb d_W_law_330 rfl (lv_at hl 1 rfl) ?_
  refine lv_iload hx hb d_W_law_331 (lv_at hl 6 rfl) ?_
  refine lv_iconst (v := 1) hx hb d_W_law_333 (by decide) ?_
  refine lv_iadd hx hb d_W_law_334 ?_
  refine va_sld (A := fun q => s.heap.size ≤ q) hx hb hX hbl hbA hS (vi_in (k := 1) rfl (by omega) hL) d_W_law_335 ?_
  refine lv_aload_n hx hb d_W_law_336 rfl (lv_at hl 1 rfl) ?_
  refine lv_iload hx hb d_W_law_337 (lv_at hl 6 rfl) ?_
  refine lv_iconst (v := 2) hx hb d_W_law_339 (by decide) ?_
  refine lv_iadd hx hb d_W_law_340 ?_
  refine va_sld (A := fun q => s.heap.size ≤ q) hx hb hX hbl hbA hS (vi_in (k := 2) rfl (by omega) hL) d_W_law_341 ?_
  refine lv_aload_n hx hb d_W_law_342 rfl (lv_at hl 1 rfl) ?_
  refine lv_iload hx hb d_W_law_343 (lv_at hl 6 rfl) ?_
  refine lv_iconst (v := 3) hx hb d_W_law_345 (by decide) ?_
  refine lv_iadd hx hb d_W_law_346 ?_
  refine va_sld (A := fun q => s.heap.size ≤ q) hx hb hX hbl hbA hS (vi_in (k := 3) rfl (by omega) hL) d_W_law_347 ?_
  refine bz_row hx hb d_W_law_348 d_W_law_351 d_W_law_352 d_W_law_355 ?_
  refine va_calli (va_runV (As := [.int (xs (nI i + 1).toNatClampNeg), .int (xs (nI i + 2).toNatClampNeg), .int (bz (xs (nI i + 3).toNatClampNeg))]) (rest := []) ⟨hx, hb, hml, hown, hts⟩ (c_M_moderator l DM bd kb H1.size u hm7 (xs (nI i + 1).toNatClampNeg) (xs (nI i + 2).toNatClampNeg) (bz (xs (nI i + 3).toNatClampNeg)) hz) (cwV 3 hts (gv mw_719 mw_720 mw_721 mw_6 mw_722) rfl rfl rfl (by decide +kernel) ⟨Nat.le_of_ble_eq_true rfl, Nat.le_of_ble_eq_true rfl⟩) ⟨PM_blind, va_recv hK.2.1 hw.2.1 (ci := 0) (q0 := 0) rfl at_M, fun U hU hW => ⟨rfl, LW_pm hJ hw hK hU hW⟩⟩ rfl rfl hl.1 rfl (lv_room (Nat.le_of_ble_eq_true rfl)) d_W_law_356 ⟨(show _ ≤ 601024 by omega), (show _ ≤ 7293034 by omega)⟩) hS (fun q _ h => hJ.am hS.1 h) (fun q h => hJ.am hS.1 h) (fun r2 u2 tq2 H2 locs ht2 hvm2 hR2 hB2 hz2 hk2 hS => ?_)
  have hw := LW_m hJ hw ht2 hB2 hk2
  refine lv_istore (lv' := [(7, .int r2), (6, .int kr), (0, .ref b), (1, .ref (ad 0)), (2, .ref (bd 0)), (3, .ref qo), (4, .ref qd), (5, .int (nI i))]) hx hb d_W_law_359 hl (by decide) rfl (fun ls hl => ?_)
  refine lv_goto (tgt := 957) hx hb d_W_law_361 (by decide) ?_
  refine W.widen (k := 200 + (i + 5)) (n := 3000 + 4 * (i + 5)) (by omega) (by omega) ?_
  exact l_back hx hb (fun ls hl => kk n r t2 r2 u2 hR hR2 _ _ _ _ ls hw hS hl) (lv_sub hl [2, 3, 4, 5, 6, 7] rfl)
set_option maxHeartbeats 4000000 in
set_option maxRecDepth 100000 in
theorem k_ban (C : LC p l s m meth c b L xs D DM ad bd ka kb sa qo qd kl kd) {i : Nat} (hi : i + 5 ≤ L) {t u : Mem} (ho : OKX t) (hu : MOK u)
    (kk : ∀ (n : Nat) (r : Int32) (t2 : Mem) (r2 : Int32) (u2 : Mem), banR t (xs (nI i + 1).toNatClampNeg) (xs (nI i + 2).toNatClampNeg) (bz (xs (nI i + 3).toNatClampNeg)) = (n, r, t2) → mBan u (xs (nI i + 1).toNatClampNeg) (xs (nI i + 2).toNatClampNeg) (bz (xs (nI i + 3).toNatClampNeg)) = (r2, u2) → ∀ (f : Nat → Int64) (g : Nat → UInt64) (H : Heap) (locs : List Loc) (ls : Array Slot), LW D DM ad bd ka kb qo qd kl kd t2 u2 f g H → va_S (fun q => s.heap.size ≤ q) s.heap H locs → lv_has ls 9 (lvL b ad bd qo qd (i + 5)) → W p l e room_1 s m #[Value.ref b] below meth c H locs (200 + (i + 5)) (3000 + 4 * (i + 5)) Q (F0 m 28 ls [])) :
    ∀ (f : Nat → Int64) (g : Nat → UInt64) (H : Heap) (locs : List Loc) (ls : Array Slot), LW D DM ad bd ka kb qo qd kl kd t u f g H → va_S (fun q => s.heap.size ≤ q) s.heap H locs → lv_has ls 9 (lvL b ad bd qo qd i) → W p l e room_1 s m #[Value.ref b] below meth c H locs (200 + i) (3000 + 4 * i) Q (F0 m 364 ls []) := by
  intro f g H locs ls hw hS hl
  obtain ⟨C0, hL, hl0, hJ, hK, hZ⟩ := C
  obtain ⟨hx, hb, hr, hml, hown, hts0, hX, hbl, hlocks, hgv⟩ := C0
  have hts := lts hts0
  have hbA : ¬ s.heap.size ≤ b := Nat.not_le.mpr hbl
  obtain ⟨Bd, n0, hBd, hOD, hn0, hn, hls, hb1, hb2, hb3, hm7, hm8⟩ := hu
  have hl : lv_has ls 9 [(0, .ref b), (1, .ref (ad 0)), (2, .ref (bd 0)), (3, .ref qo), (4, .ref qd), (5, .int (nI i))] := hl
  have hz : b01 (bz (xs (nI i + 3).toNatClampNeg)) := bz_01 _
  refine lv_aload_n hx hb d_W_law_364 rfl (lv_at hl 1 rfl) ?_
  refine lv_aload_n hx hb d_W_law_365 rfl (lv_at hl 0 rfl) ?_
  refine lv_iload hx hb d_W_law_366 (lv_at hl 5 rfl) ?_
  refine lv_iconst (v := 1) hx hb d_W_law_368 (by decide) ?_
  refine lv_iadd hx hb d_W_law_369 ?_
  refine va_sld (A := fun q => s.heap.size ≤ q) hx hb hX hbl hbA hS (vi_in (k := 1) rfl (by omega) hL) d_W_law_370 ?_
  refine lv_aload_n hx hb d_W_law_371 rfl (lv_at hl 0 rfl) ?_
  refine lv_iload hx hb d_W_law_372 (lv_at hl 5 rfl) ?_
  refine lv_iconst (v := 2) hx hb d_W_law_374 (by decide) ?_
  refine lv_iadd hx hb d_W_law_375 ?_
  refine va_sld (A := fun q => s.heap.size ≤ q) hx hb hX hbl hbA hS (vi_in (k := 2) rfl (by omega) hL) d_W_law_376 ?_
  refine lv_aload_n hx hb d_W_law_377 rfl (lv_at hl 0 rfl) ?_
  refine lv_iload hx hb d_W_law_378 (lv_at hl 5 rfl) ?_
  refine lv_iconst (v := 3) hx hb d_W_law_380 (by decide) ?_
  refine lv_iadd hx hb d_W_law_381 ?_
  refine va_sld (A := fun q => s.heap.size ≤ q) hx hb hX hbl hbA hS (vi_in (k := 3) rfl (by omega) hL) d_W_law_382 ?_
  refine bz_row hx hb d_W_law_383 d_W_law_386 d_W_law_387 d_W_law_390 ?_
  refine lv_aload_n hx hb d_W_law_391 rfl (lv_at hl 3 rfl) ?_
  refine va_calli (vx_runSW (As := [.ref (ad 0), .int (xs (nI i + 1).toNatClampNeg), .int (xs (nI i + 2).toNatClampNeg), .int (bz (xs (nI i + 3).toNatClampNeg)), .ref qo]) (rest := []) ⟨hx, hb, hml, hown, hts⟩ (c_W_ban l hl0 D ad ka sa H.size t ho (xs (nI i + 1).toNatClampNeg) (xs (nI i + 2).toNatClampNeg) (bz (xs (nI i + 3).toNatClampNeg)) hz qo kl f) (vx_cwSW 5 hts (gsw mw_382 mw_383 mw_0 mw_384) rfl rfl rfl (by decide +kernel) ⟨Nat.le_of_ble_eq_true rfl, Nat.le_of_ble_eq_true rfl⟩) ⟨PH_blind, fun U hU hW => ⟨rfl, PH_mk hJ hw hK hZ hS hU hW⟩⟩ rfl rfl hl.1 rfl (lv_room (Nat.le_of_ble_eq_true rfl)) d_W_law_392 ⟨(show _ ≤ 601024 by omega), (show _ ≤ 7293034 by omega)⟩) hS (fun q _ h => hJ.ao hS.1 h) (fun q h => hJ.ao hS.1 h) (fun kr zz tq H1 locs ht hvm hq hB hz1 hk1 hS => ?_)
  obtain ⟨t2, f2⟩ := zz
  obtain ⟨n, r, hkn, hn4, hR, hf2⟩ := hq
  have hw : LW D DM ad bd ka kb qo qd kl kd t2 u f2 g H1 := LW_h hJ hw ht hB hk1
  refine lv_istore (lv' := [(6, .int kr), (0, .ref b), (1, .ref (ad 0)), (2, .ref (bd 0)), (3, .ref qo), (4, .ref qd), (5, .int (nI i))]) hx hb d_W_law_395 hl (by decide) rfl (fun ls hl => ?_)
  refine lv_aload_n hx hb d_W_law_397 rfl (lv_at hl 3 rfl) ?_
  refine lv_aload_n hx hb d_W_law_398 rfl (lv_at hl 1 rfl) ?_
  refine lv_iload hx hb d_W_law_399 (lv_at hl 6 rfl) ?_
  refine lv_iconst (v := 1) hx hb d_W_law_401 (by decide) ?_
  refine lv_iadd hx hb d_W_law_402 ?_
  refine va_sld (A := fun q => s.heap.size ≤ q) hx hb hX hbl hbA hS (vi_in (k := 1) rfl (by omega) hL) d_W_law_403 ?_
  refine lv_aload_n hx hb d_W_law_404 rfl (lv_at hl 1 rfl) ?_
  refine lv_iload hx hb d_W_law_405 (lv_at hl 6 rfl) ?_
  refine lv_iconst (v := 2) hx hb d_W_law_407 (by decide) ?_
  refine lv_iadd hx hb d_W_law_408 ?_
  refine va_sld (A := fun q => s.heap.size ≤ q) hx hb hX hbl hbA hS (vi_in (k := 2) rfl (by omega) hL) d_W_law_409 ?_
  refine lv_aload_n hx hb d_W_law_410 rfl (lv_at hl 1 rfl) ?_
  refine lv_iload hx hb d_W_law_411 (lv_at hl 6 rfl) ?_
  refine lv_iconst (v := 3) hx hb d_W_law_413 (by decide) ?_
  refine lv_iadd hx hb d_W_law_414 ?_
  refine va_sld (A := fun q => s.heap.size ≤ q) hx hb hX hbl hbA hS (vi_in (k := 3) rfl (by omega) hL) d_W_law_415 ?_
  refine bz_row hx hb d_W_law_416 d_W_law_419 d_W_law_420 d_W_law_423 ?_
  refine va_calli (va_runV (As := [.int (xs (nI i + 1).toNatClampNeg), .int (xs (nI i + 2).toNatClampNeg), .int (bz (xs (nI i + 3).toNatClampNeg))]) (rest := []) ⟨hx, hb, hml, hown, hts⟩ (c_M_ban l DM bd kb H1.size u hm8 (xs (nI i + 1).toNatClampNeg) (xs (nI i + 2).toNatClampNeg) (bz (xs (nI i + 3).toNatClampNeg)) hz) (cwV 3 hts (gv mw_723 mw_724 mw_725 mw_6 mw_726) rfl rfl rfl (by decide +kernel) ⟨Nat.le_of_ble_eq_true rfl, Nat.le_of_ble_eq_true rfl⟩) ⟨PM_blind, va_recv hK.2.1 hw.2.1 (ci := 0) (q0 := 0) rfl at_M, fun U hU hW => ⟨rfl, LW_pm hJ hw hK hU hW⟩⟩ rfl rfl hl.1 rfl (lv_room (Nat.le_of_ble_eq_true rfl)) d_W_law_424 ⟨(show _ ≤ 601024 by omega), (show _ ≤ 7293034 by omega)⟩) hS (fun q _ h => hJ.am hS.1 h) (fun q h => hJ.am hS.1 h) (fun r2 u2 tq2 H2 locs ht2 hvm2 hR2 hB2 hz2 hk2 hS => ?_)
  have hw := LW_m hJ hw ht2 hB2 hk2
  refine lv_istore (lv' := [(7, .int r2), (6, .int kr), (0, .ref b), (1, .ref (ad 0)), (2, .ref (bd 0)), (3, .ref qo), (4, .ref qd), (5, .int (nI i))]) hx hb d_W_law_427 hl (by decide) rfl (fun ls hl => ?_)
  refine lv_goto (tgt := 957) hx hb d_W_law_429 (by decide) ?_
  refine W.widen (k := 200 + (i + 5)) (n := 3000 + 4 * (i + 5)) (by omega) (by omega) ?_
  exact l_back hx hb (fun ls hl => kk n r t2 r2 u2 hR hR2 _ _ _ _ ls hw hS hl) (lv_sub hl [2, 3, 4, 5, 6, 7] rfl)
set_option maxHeartbeats 4000000 in
set_option maxRecDepth 100000 in
theorem k_setting (C : LC p l s m meth c b L xs D DM ad bd ka kb sa qo qd kl kd) {i : Nat} (hi : i + 5 ≤ L) {t u : Mem} (ho : OKX t) (hu : MOK u)
    (kk : ∀ (n : Nat) (r : UInt64) (t2 : Mem) (r2 : UInt64) (u2 : Mem), setR t (xs (nI i + 1).toNatClampNeg) (xs (nI i + 2).toNatClampNeg) (FP.dmul (FP.i2d (xs (nI i + 3).toNatClampNeg)) 4593671619917905920) = (n, r, t2) → mSet u (xs (nI i + 1).toNatClampNeg) (xs (nI i + 2).toNatClampNeg) (FP.dmul (FP.i2d (xs (nI i + 3).toNatClampNeg)) 4593671619917905920) = (r2, u2) → ∀ (f : Nat → Int64) (g : Nat → UInt64) (H : Heap) (locs : List Loc) (ls : Array Slot), LW D DM ad bd ka kb qo qd kl kd t2 u2 f g H → va_S (fun q => s.heap.size ≤ q) s.heap H locs → lv_has ls 9 (lvL b ad bd qo qd (i + 5)) → W p l e room_1 s m #[Value.ref b] below meth c H locs (200 + (i + 5)) (3000 + 4 * (i + 5)) Q (F0 m 28 ls [])) :
    ∀ (f : Nat → Int64) (g : Nat → UInt64) (H : Heap) (locs : List Loc) (ls : Array Slot), LW D DM ad bd ka kb qo qd kl kd t u f g H → va_S (fun q => s.heap.size ≤ q) s.heap H locs → lv_has ls 9 (lvL b ad bd qo qd i) → W p l e room_1 s m #[Value.ref b] below meth c H locs (200 + i) (3000 + 4 * i) Q (F0 m 432 ls []) := by
  intro f g H locs ls hw hS hl
  obtain ⟨C0, hL, hl0, hJ, hK, hZ⟩ := C
  obtain ⟨hx, hb, hr, hml, hown, hts0, hX, hbl, hlocks, hgv⟩ := C0
  have hts := lts hts0
  have hbA : ¬ s.heap.size ≤ b := Nat.not_le.mpr hbl
  obtain ⟨Bd, n0, hBd, hOD, hn0, hn, hls, hb1, hb2, hb3, hm7, hm8⟩ := hu
  have hl : lv_has ls 9 [(0, .ref b), (1, .ref (ad 0)), (2, .ref (bd 0)), (3, .ref qo), (4, .ref qd), (5, .int (nI i))] := hl
  refine lv_aload_n hx hb d_W_law_432 rfl (lv_at hl 1 rfl) ?_
  refine lv_aload_n hx hb d_W_law_433 rfl (lv_at hl 0 rfl) ?_
  refine lv_iload hx hb d_W_law_434 (lv_at hl 5 rfl) ?_
  refine lv_iconst (v := 1) hx hb d_W_law_436 (by decide) ?_
  refine lv_iadd hx hb d_W_law_437 ?_
  refine va_sld (A := fun q => s.heap.size ≤ q) hx hb hX hbl hbA hS (vi_in (k := 1) rfl (by omega) hL) d_W_law_438 ?_
  refine lv_aload_n hx hb d_W_law_439 rfl (lv_at hl 0 rfl) ?_
  refine lv_iload hx hb d_W_law_440 (lv_at hl 5 rfl) ?_
  refine lv_iconst (v := 2) hx hb d_W_law_442 (by decide) ?_
  refine lv_iadd hx hb d_W_law_443 ?_
  refine va_sld (A := fun q => s.heap.size ≤ q) hx hb hX hbl hbA hS (vi_in (k := 2) rfl (by omega) hL) d_W_law_444 ?_
  refine lv_aload_n hx hb d_W_law_445 rfl (lv_at hl 0 rfl) ?_
  refine lv_iload hx hb d_W_law_446 (lv_at hl 5 rfl) ?_
  refine lv_iconst (v := 3) hx hb d_W_law_448 (by decide) ?_
  refine lv_iadd hx hb d_W_law_449 ?_
  refine va_sld (A := fun q => s.heap.size ≤ q) hx hb hX hbl hbA hS (vi_in (k := 3) rfl (by omega) hL) d_W_law_450 ?_
  refine lv_i2d hx hb d_W_law_451 ?_
  refine lv_ldc2d (own := "ListForgeLaw") (v := 4593671619917905920) hx hb hown (bg hts mw_791) d_W_law_452 ?_
  refine lv_dmul hx hb d_W_law_455 (nan_125 _) ?_
  refine lv_aload hx hb d_W_law_456 (lv_at hl 4 rfl) ?_
  refine va_calli (vx_runSW (As := [.ref (ad 0), .int (xs (nI i + 1).toNatClampNeg), .int (xs (nI i + 2).toNatClampNeg), .double (FP.dmul (FP.i2d (xs (nI i + 3).toNatClampNeg)) 4593671619917905920), .ref qd]) (rest := []) ⟨hx, hb, hml, hown, hts⟩ (c_W_setting l hl0 D ad ka sa H.size t (xs (nI i + 1).toNatClampNeg) (xs (nI i + 2).toNatClampNeg) (FP.dmul (FP.i2d (xs (nI i + 3).toNatClampNeg)) 4593671619917905920) qd kd g) (vx_cwSW 5 hts (gsw mw_389 mw_390 mw_0 mw_391) rfl rfl rfl (by decide +kernel) ⟨Nat.le_of_ble_eq_true rfl, Nat.le_of_ble_eq_true rfl⟩) ⟨PH_blind, fun U hU hW => ⟨rfl, PHd_mk hJ hw hK hZ hS hU hW⟩⟩ rfl rfl hl.1 rfl (lv_room (Nat.le_of_ble_eq_true rfl)) d_W_law_458 ⟨(show _ ≤ 601024 by omega), (show _ ≤ 7293034 by omega)⟩) hS (fun q _ h => hJ.aod hS.1 h) (fun q h => hJ.aod hS.1 h) (fun kr zz tq H1 locs ht hvm hq hB hz1 hk1 hS => ?_)
  obtain ⟨t2, g2⟩ := zz
  obtain ⟨n, r, hkn, hn4, hR, hf2⟩ := hq
  have hw : LW D DM ad bd ka kb qo qd kl kd t2 u f g2 H1 := LW_hd hJ hw ht hB hk1
  refine lv_istore (lv' := [(6, .int kr), (0, .ref b), (1, .ref (ad 0)), (2, .ref (bd 0)), (3, .ref qo), (4, .ref qd), (5, .int (nI i))]) hx hb d_W_law_461 hl (by decide) rfl (fun ls hl => ?_)
  refine lv_aload_n hx hb d_W_law_463 rfl (lv_at hl 3 rfl) ?_
  refine lv_aload_n hx hb d_W_law_464 rfl (lv_at hl 1 rfl) ?_
  refine lv_iload hx hb d_W_law_465 (lv_at hl 6 rfl) ?_
  refine lv_iconst (v := 1) hx hb d_W_law_467 (by decide) ?_
  refine lv_iadd hx hb d_W_law_468 ?_
  refine va_sld (A := fun q => s.heap.size ≤ q) hx hb hX hbl hbA hS (vi_in (k := 1) rfl (by omega) hL) d_W_law_469 ?_
  refine lv_aload_n hx hb d_W_law_470 rfl (lv_at hl 1 rfl) ?_
  refine lv_iload hx hb d_W_law_471 (lv_at hl 6 rfl) ?_
  refine lv_iconst (v := 2) hx hb d_W_law_473 (by decide) ?_
  refine lv_iadd hx hb d_W_law_474 ?_
  refine va_sld (A := fun q => s.heap.size ≤ q) hx hb hX hbl hbA hS (vi_in (k := 2) rfl (by omega) hL) d_W_law_475 ?_
  refine lv_aload_n hx hb d_W_law_476 rfl (lv_at hl 1 rfl) ?_
  refine lv_iload hx hb d_W_law_477 (lv_at hl 6 rfl) ?_
  refine lv_iconst (v := 3) hx hb d_W_law_479 (by decide) ?_
  refine lv_iadd hx hb d_W_law_480 ?_
  refine va_sld (A := fun q => s.heap.size ≤ q) hx hb hX hbl hbA hS (vi_in (k := 3) rfl (by omega) hL) d_W_law_481 ?_
  refine lv_i2d hx hb d_W_law_482 ?_
  refine lv_ldc2d (own := "ListForgeLaw") (v := 4593671619917905920) hx hb hown (bg hts mw_791) d_W_law_483 ?_
  refine lv_dmul hx hb d_W_law_486 (nan_125 _) ?_
  refine va_calld (va_runV (As := [.int (xs (nI i + 1).toNatClampNeg), .int (xs (nI i + 2).toNatClampNeg), .double (FP.dmul (FP.i2d (xs (nI i + 3).toNatClampNeg)) 4593671619917905920)]) (rest := []) ⟨hx, hb, hml, hown, hts⟩ (c_M_setting l DM bd kb H1.size u (xs (nI i + 1).toNatClampNeg) (xs (nI i + 2).toNatClampNeg) (FP.dmul (FP.i2d (xs (nI i + 3).toNatClampNeg)) 4593671619917905920)) (cwV 3 hts (gv mw_727 mw_728 mw_729 mw_6 mw_730) rfl rfl rfl (by decide +kernel) ⟨Nat.le_of_ble_eq_true rfl, Nat.le_of_ble_eq_true rfl⟩) ⟨PM_blind, va_recv hK.2.1 hw.2.1 (ci := 0) (q0 := 0) rfl at_M, fun U hU hW => ⟨rfl, LW_pm hJ hw hK hU hW⟩⟩ rfl rfl hl.1 rfl (lv_room (Nat.le_of_ble_eq_true rfl)) d_W_law_487 ⟨(show _ ≤ 601024 by omega), (show _ ≤ 7293034 by omega)⟩) hS (fun q _ h => hJ.am hS.1 h) (fun q h => hJ.am hS.1 h) (fun r2 u2 tq2 H2 locs ht2 hvm2 hR2 hB2 hz2 hk2 hS => ?_)
  have hw := LW_m hJ hw ht2 hB2 hk2
  refine lv_dstore (lv' := [(7, .double r2), (6, .int kr), (0, .ref b), (1, .ref (ad 0)), (2, .ref (bd 0)), (3, .ref qo), (4, .ref qd), (5, .int (nI i))]) hx hb d_W_law_490 hl (by decide) rfl (fun ls hl => ?_)
  refine lv_goto (tgt := 957) hx hb d_W_law_492 (by decide) ?_
  refine W.widen (k := 200 + (i + 5)) (n := 3000 + 4 * (i + 5)) (by omega) (by omega) ?_
  exact l_back hx hb (fun ls hl => kk n r t2 r2 u2 hR hR2 _ _ _ _ ls hw hS hl) (lv_sub hl [2, 3, 4, 5, 6, 7] rfl)
set_option maxHeartbeats 4000000 in
set_option maxRecDepth 100000 in
theorem k_post (C : LC p l s m meth c b L xs D DM ad bd ka kb sa qo qd kl kd) {i : Nat} (hi : i + 5 ≤ L) {t u : Mem} (ho : OKX t) (hu : MOK u)
    (kk : ∀ (n : Nat) (r : Int32) (t2 : Mem) (r2 : Int32) (u2 : Mem), postR t (xs (nI i + 1).toNatClampNeg) (xs (nI i + 2).toNatClampNeg) (xs (nI i + 3).toNatClampNeg) (xs (nI i + 4).toNatClampNeg) = (n, r, t2) → mPost u (xs (nI i + 1).toNatClampNeg) (xs (nI i + 2).toNatClampNeg) (xs (nI i + 3).toNatClampNeg) (xs (nI i + 4).toNatClampNeg) = (r2, u2) → ∀ (f : Nat → Int64) (g : Nat → UInt64) (H : Heap) (locs : List Loc) (ls : Array Slot), LW D DM ad bd ka kb qo qd kl kd t2 u2 f g H → va_S (fun q => s.heap.size ≤ q) s.heap H locs → lv_has ls 9 (lvL b ad bd qo qd (i + 5)) → W p l e room_1 s m #[Value.ref b] below meth c H locs (200 + (i + 5)) (3000 + 4 * (i + 5)) Q (F0 m 28 ls [])) :
    ∀ (f : Nat → Int64) (g : Nat → UInt64) (H : Heap) (locs : List Loc) (ls : Array Slot), LW D DM ad bd ka kb qo qd kl kd t u f g H → va_S (fun q => s.heap.size ≤ q) s.heap H locs → lv_has ls 9 (lvL b ad bd qo qd i) → W p l e room_1 s m #[Value.ref b] below meth c H locs (200 + i) (3000 + 4 * i) Q (F0 m 495 ls []) := by
  intro f g H locs ls hw hS hl
  obtain ⟨C0, hL, hl0, hJ, hK, hZ⟩ := C
  obtain ⟨hx, hb, hr, hml, hown, hts0, hX, hbl, hlocks, hgv⟩ := C0
  have hts := lts hts0
  have hbA : ¬ s.heap.size ≤ b := Nat.not_le.mpr hbl
  obtain ⟨Bd, n0, hBd, hOD, hn0, hn, hls, hb1, hb2, hb3, hm7, hm8⟩ := hu
  have hl : lv_has ls 9 [(0, .ref b), (1, .ref (ad 0)), (2, .ref (bd 0)), (3, .ref qo), (4, .ref qd), (5, .int (nI i))] := hl
  refine lv_aload_n hx hb d_W_law_495 rfl (lv_at hl 1 rfl) ?_
  refine lv_aload_n hx hb d_W_law_496 rfl (lv_at hl 0 rfl) ?_
  refine lv_iload hx hb d_W_law_497 (lv_at hl 5 rfl) ?_
  refine lv_iconst (v := 1) hx hb d_W_law_499 (by decide) ?_
  refine lv_iadd hx hb d_W_law_500 ?_
  refine va_sld (A := fun q => s.heap.size ≤ q) hx hb hX hbl hbA hS (vi_in (k := 1) rfl (by omega) hL) d_W_law_501 ?_
  refine lv_aload_n hx hb d_W_law_502 rfl (lv_at hl 0 rfl) ?_
  refine lv_iload hx hb d_W_law_503 (lv_at hl 5 rfl) ?_
  refine lv_iconst (v := 2) hx hb d_W_law_505 (by decide) ?_
  refine lv_iadd hx hb d_W_law_506 ?_
  refine va_sld (A := fun q => s.heap.size ≤ q) hx hb hX hbl hbA hS (vi_in (k := 2) rfl (by omega) hL) d_W_law_507 ?_
  refine lv_aload_n hx hb d_W_law_508 rfl (lv_at hl 0 rfl) ?_
  refine lv_iload hx hb d_W_law_509 (lv_at hl 5 rfl) ?_
  refine lv_iconst (v := 3) hx hb d_W_law_511 (by decide) ?_
  refine lv_iadd hx hb d_W_law_512 ?_
  refine va_sld (A := fun q => s.heap.size ≤ q) hx hb hX hbl hbA hS (vi_in (k := 3) rfl (by omega) hL) d_W_law_513 ?_
  refine lv_aload_n hx hb d_W_law_514 rfl (lv_at hl 0 rfl) ?_
  refine lv_iload hx hb d_W_law_515 (lv_at hl 5 rfl) ?_
  refine lv_iconst (v := 4) hx hb d_W_law_517 (by decide) ?_
  refine lv_iadd hx hb d_W_law_518 ?_
  refine va_sld (A := fun q => s.heap.size ≤ q) hx hb hX hbl hbA hS (vi_in (k := 4) rfl (by omega) hL) d_W_law_519 ?_
  refine lv_aload_n hx hb d_W_law_520 rfl (lv_at hl 3 rfl) ?_
  refine va_calli (vx_runSW (As := [.ref (ad 0), .int (xs (nI i + 1).toNatClampNeg), .int (xs (nI i + 2).toNatClampNeg), .int (xs (nI i + 3).toNatClampNeg), .int (xs (nI i + 4).toNatClampNeg), .ref qo]) (rest := []) ⟨hx, hb, hml, hown, hts⟩ (c_W_post l hl0 D ad ka sa H.size t ho (xs (nI i + 1).toNatClampNeg) (xs (nI i + 2).toNatClampNeg) (xs (nI i + 3).toNatClampNeg) (xs (nI i + 4).toNatClampNeg) qo kl f) (vx_cwSW 6 hts (gsw mw_422 mw_423 mw_0 mw_424) rfl rfl rfl (by decide +kernel) ⟨Nat.le_of_ble_eq_true rfl, Nat.le_of_ble_eq_true rfl⟩) ⟨PH_blind, fun U hU hW => ⟨rfl, PH_mk hJ hw hK hZ hS hU hW⟩⟩ rfl rfl hl.1 rfl (lv_room (Nat.le_of_ble_eq_true rfl)) d_W_law_521 ⟨(show _ ≤ 601024 by omega), (show _ ≤ 7293034 by omega)⟩) hS (fun q _ h => hJ.ao hS.1 h) (fun q h => hJ.ao hS.1 h) (fun kr zz tq H1 locs ht hvm hq hB hz1 hk1 hS => ?_)
  obtain ⟨t2, f2⟩ := zz
  obtain ⟨n, r, hkn, hn4, hR, hf2⟩ := hq
  have hw : LW D DM ad bd ka kb qo qd kl kd t2 u f2 g H1 := LW_h hJ hw ht hB hk1
  refine lv_istore (lv' := [(6, .int kr), (0, .ref b), (1, .ref (ad 0)), (2, .ref (bd 0)), (3, .ref qo), (4, .ref qd), (5, .int (nI i))]) hx hb d_W_law_524 hl (by decide) rfl (fun ls hl => ?_)
  refine lv_aload_n hx hb d_W_law_526 rfl (lv_at hl 3 rfl) ?_
  refine lv_aload_n hx hb d_W_law_527 rfl (lv_at hl 1 rfl) ?_
  refine lv_iload hx hb d_W_law_528 (lv_at hl 6 rfl) ?_
  refine lv_iconst (v := 1) hx hb d_W_law_530 (by decide) ?_
  refine lv_iadd hx hb d_W_law_531 ?_
  refine va_sld (A := fun q => s.heap.size ≤ q) hx hb hX hbl hbA hS (vi_in (k := 1) rfl (by omega) hL) d_W_law_532 ?_
  refine lv_aload_n hx hb d_W_law_533 rfl (lv_at hl 1 rfl) ?_
  refine lv_iload hx hb d_W_law_534 (lv_at hl 6 rfl) ?_
  refine lv_iconst (v := 2) hx hb d_W_law_536 (by decide) ?_
  refine lv_iadd hx hb d_W_law_537 ?_
  refine va_sld (A := fun q => s.heap.size ≤ q) hx hb hX hbl hbA hS (vi_in (k := 2) rfl (by omega) hL) d_W_law_538 ?_
  refine lv_aload_n hx hb d_W_law_539 rfl (lv_at hl 1 rfl) ?_
  refine lv_iload hx hb d_W_law_540 (lv_at hl 6 rfl) ?_
  refine lv_iconst (v := 3) hx hb d_W_law_542 (by decide) ?_
  refine lv_iadd hx hb d_W_law_543 ?_
  refine va_sld (A := fun q => s.heap.size ≤ q) hx hb hX hbl hbA hS (vi_in (k := 3) rfl (by omega) hL) d_W_law_544 ?_
  refine lv_aload_n hx hb d_W_law_545 rfl (lv_at hl 1 rfl) ?_
  refine lv_iload hx hb d_W_law_546 (lv_at hl 6 rfl) ?_
  refine lv_iconst (v := 4) hx hb d_W_law_548 (by decide) ?_
  refine lv_iadd hx hb d_W_law_549 ?_
  refine va_sld (A := fun q => s.heap.size ≤ q) hx hb hX hbl hbA hS (vi_in (k := 4) rfl (by omega) hL) d_W_law_550 ?_
  refine va_calli (va_runV (As := [.int (xs (nI i + 1).toNatClampNeg), .int (xs (nI i + 2).toNatClampNeg), .int (xs (nI i + 3).toNatClampNeg), .int (xs (nI i + 4).toNatClampNeg)]) (rest := []) ⟨hx, hb, hml, hown, hts⟩ (c_M_post l DM bd kb H1.size u Bd (by omega) hOD.1 n0 hn0 hn hb2 (xs (nI i + 1).toNatClampNeg) (xs (nI i + 2).toNatClampNeg) (xs (nI i + 3).toNatClampNeg) (xs (nI i + 4).toNatClampNeg)) (cwV 4 hts (gv mw_733 mw_734 mw_735 mw_6 mw_736) rfl rfl rfl (by decide +kernel) ⟨Nat.le_of_ble_eq_true rfl, Nat.le_of_ble_eq_true rfl⟩) ⟨PM_blind, va_recv hK.2.1 hw.2.1 (ci := 0) (q0 := 0) rfl at_M, fun U hU hW => ⟨rfl, LW_pm hJ hw hK hU hW⟩⟩ rfl rfl hl.1 rfl (lv_room (Nat.le_of_ble_eq_true rfl)) d_W_law_551 ⟨(show _ ≤ 601024 by omega), (show _ ≤ 7293034 by omega)⟩) hS (fun q _ h => hJ.am hS.1 h) (fun q h => hJ.am hS.1 h) (fun r2 u2 tq2 H2 locs ht2 hvm2 hR2 hB2 hz2 hk2 hS => ?_)
  have hw := LW_m hJ hw ht2 hB2 hk2
  refine lv_istore (lv' := [(7, .int r2), (6, .int kr), (0, .ref b), (1, .ref (ad 0)), (2, .ref (bd 0)), (3, .ref qo), (4, .ref qd), (5, .int (nI i))]) hx hb d_W_law_554 hl (by decide) rfl (fun ls hl => ?_)
  refine lv_goto (tgt := 957) hx hb d_W_law_556 (by decide) ?_
  refine W.widen (k := 200 + (i + 5)) (n := 3000 + 4 * (i + 5)) (by omega) (by omega) ?_
  exact l_back hx hb (fun ls hl => kk n r t2 r2 u2 hR hR2 _ _ _ _ ls hw hS hl) (lv_sub hl [2, 3, 4, 5, 6, 7] rfl)
end LCS
