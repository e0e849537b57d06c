section LCS
variable {p : Program} {l : Launch} {e : Env} {s : State} {m : MethodId} {below : List Frame} {meth : Method} {c : Code} {Q : State → Prop} {b L : Nat} {xs : Nat → Int32} {D DM : va_G} {ad bd : Nat → Nat} {ka kb : Nat → ClassId} {sa : Nat → Nat} {qo qd : Nat} {kl kd : ClassId}
set_option maxHeartbeats 4000000 in
set_option maxRecDepth 100000 in
theorem k_told (C : LC p l s m meth c b L xs D DM ad bd ka kb sa qo qd kl kd) {i : Nat} (hi : i + 5 ≤ L) {t u : Mem} (ho : OKX t) (hu : MOK u)
    (hag : ∀ (n : Nat) (r : Int32) (t2 : Mem) (r2 : Int32) (u2 : Mem), toldR t (xs (nI i + 1).toNatClampNeg) (xs (nI i + 2).toNatClampNeg) (xs (nI i + 3).toNatClampNeg) = (n, r, t2) → mTold u (xs (nI i + 1).toNatClampNeg) (xs (nI i + 2).toNatClampNeg) (xs (nI i + 3).toNatClampNeg) = (r2, u2) → gI u2 0 0 = nI n ∧ (n = 0 → r = r2))
    (kk : ∀ (n : Nat) (r : Int32) (t2 : Mem) (r2 : Int32) (u2 : Mem), toldR t (xs (nI i + 1).toNatClampNeg) (xs (nI i + 2).toNatClampNeg) (xs (nI i + 3).toNatClampNeg) = (n, r, t2) → mTold u (xs (nI i + 1).toNatClampNeg) (xs (nI i + 2).toNatClampNeg) (xs (nI i + 3).toNatClampNeg) = (r2, u2) → ∀ (f : Nat → Int64) (g : Nat → UInt64) (H : Heap) (locs : List Loc) (ls : Array Slot), LW D DM ad bd ka kb qo qd kl kd t2 u2 f g H → va_S (fun q => s.heap.size ≤ q) s.heap H locs → lv_has ls 9 (lvL b ad bd qo qd (i + 5)) → W p l e room_1 s m #[Value.ref b] below meth c H locs (200 + (i + 5)) (3000 + 4 * (i + 5)) Q (F0 m 28 ls [])) :
    ∀ (f : Nat → Int64) (g : Nat → UInt64) (H : Heap) (locs : List Loc) (ls : Array Slot), LW D DM ad bd ka kb qo qd kl kd t u f g H → va_S (fun q => s.heap.size ≤ q) s.heap H locs → lv_has ls 9 (lvL b ad bd qo qd i) → W p l e room_1 s m #[Value.ref b] below meth c H locs (200 + i) (3000 + 4 * i) Q (F0 m 1138 ls []) := by
  intro f g H locs ls hw hS hl
  obtain ⟨C0, hL, hl0, hJ, hK, hZ⟩ := C
  obtain ⟨hx, hb, hr, hml, hown, hts0, hX, hbl, hlocks, hgv⟩ := C0
  have hts := lts hts0
  have hbA : ¬ s.heap.size ≤ b := Nat.not_le.mpr hbl
  obtain ⟨Bd, n0, hBd, hOD, hn0, hn, hls, hb1, hb2, hb3, hm7, hm8⟩ := hu
  have hl : lv_has ls 9 [(0, .ref b), (1, .ref (ad 0)), (2, .ref (bd 0)), (3, .ref qo), (4, .ref qd), (5, .int (nI i))] := hl
  refine lv_aload_n hx hb d_W_law_1138 rfl (lv_at hl 1 rfl) ?_
  refine lv_aload_n hx hb d_W_law_1139 rfl (lv_at hl 0 rfl) ?_
  refine lv_iload hx hb d_W_law_1140 (lv_at hl 5 rfl) ?_
  refine lv_iconst (v := 1) hx hb d_W_law_1142 (by decide) ?_
  refine lv_iadd hx hb d_W_law_1143 ?_
  refine va_sld (A := fun q => s.heap.size ≤ q) hx hb hX hbl hbA hS (vi_in (k := 1) rfl (by omega) hL) d_W_law_1144 ?_
  refine lv_aload_n hx hb d_W_law_1145 rfl (lv_at hl 0 rfl) ?_
  refine lv_iload hx hb d_W_law_1146 (lv_at hl 5 rfl) ?_
  refine lv_iconst (v := 2) hx hb d_W_law_1148 (by decide) ?_
  refine lv_iadd hx hb d_W_law_1149 ?_
  refine va_sld (A := fun q => s.heap.size ≤ q) hx hb hX hbl hbA hS (vi_in (k := 2) rfl (by omega) hL) d_W_law_1150 ?_
  refine lv_aload_n hx hb d_W_law_1151 rfl (lv_at hl 0 rfl) ?_
  refine lv_iload hx hb d_W_law_1152 (lv_at hl 5 rfl) ?_
  refine lv_iconst (v := 3) hx hb d_W_law_1154 (by decide) ?_
  refine lv_iadd hx hb d_W_law_1155 ?_
  refine va_sld (A := fun q => s.heap.size ≤ q) hx hb hX hbl hbA hS (vi_in (k := 3) rfl (by omega) hL) d_W_law_1156 ?_
  refine lv_aload_n hx hb d_W_law_1157 rfl (lv_at hl 3 rfl) ?_
  refine va_calli (vx_runSW (As := [.ref (ad 0), .int (xs (nI i + 1).toNatClampNeg), .int (xs (nI i + 2).toNatClampNeg), .int (xs (nI i + 3).toNatClampNeg), .ref qo]) (rest := []) ⟨hx, hb, hml, hown, hts⟩ (c_W_told l hl0 D ad ka sa H.size t (xs (nI i + 1).toNatClampNeg) (xs (nI i + 2).toNatClampNeg) (xs (nI i + 3).toNatClampNeg) qo kl f) (vx_cwSW 5 hts (gsw mw_527 mw_528 mw_0 mw_529) rfl rfl rfl (by decide +kernel) ⟨Nat.le_of_ble_eq_true rfl, Nat.le_of_ble_eq_true rfl⟩) ⟨PH_blind, fun U hU hW => ⟨rfl, PH_mk hJ hw hK hZ hS hU hW⟩⟩ rfl rfl hl.1 rfl (lv_room (Nat.le_of_ble_eq_true rfl)) d_W_law_1158 ⟨(show _ ≤ 600002 by omega), (show _ ≤ 7302232 by omega)⟩) hS (fun q _ h => hJ.ao hS.1 h) (fun q h => hJ.ao hS.1 h) (fun kr zz tq H1 locs ht hvm hq hB hz1 hk1 hS => ?_)
  obtain ⟨t2, f2⟩ := zz
  obtain ⟨n, r, hkn, hn4, hR, hf2⟩ := hq
  have hw : LW D DM ad bd ka kb qo qd kl kd t2 u f2 g H1 := LW_h hJ hw ht hB hk1
  refine lv_istore (lv' := [(6, .int kr), (0, .ref b), (1, .ref (ad 0)), (2, .ref (bd 0)), (3, .ref qo), (4, .ref qd), (5, .int (nI i))]) hx hb d_W_law_1161 hl (by decide) rfl (fun ls hl => ?_)
  refine lv_aload_n hx hb d_W_law_1163 rfl (lv_at hl 3 rfl) ?_
  refine lv_aload_n hx hb d_W_law_1164 rfl (lv_at hl 1 rfl) ?_
  refine lv_iload hx hb d_W_law_1165 (lv_at hl 6 rfl) ?_
  refine lv_iconst (v := 1) hx hb d_W_law_1167 (by decide) ?_
  refine lv_iadd hx hb d_W_law_1168 ?_
  refine va_sld (A := fun q => s.heap.size ≤ q) hx hb hX hbl hbA hS (vi_in (k := 1) rfl (by omega) hL) d_W_law_1169 ?_
  refine lv_aload_n hx hb d_W_law_1170 rfl (lv_at hl 1 rfl) ?_
  refine lv_iload hx hb d_W_law_1171 (lv_at hl 6 rfl) ?_
  refine lv_iconst (v := 2) hx hb d_W_law_1173 (by decide) ?_
  refine lv_iadd hx hb d_W_law_1174 ?_
  refine va_sld (A := fun q => s.heap.size ≤ q) hx hb hX hbl hbA hS (vi_in (k := 2) rfl (by omega) hL) d_W_law_1175 ?_
  refine lv_aload_n hx hb d_W_law_1176 rfl (lv_at hl 1 rfl) ?_
  refine lv_iload hx hb d_W_law_1177 (lv_at hl 6 rfl) ?_
  refine lv_iconst (v := 3) hx hb d_W_law_1179 (by decide) ?_
  refine lv_iadd hx hb d_W_law_1180 ?_
  refine va_sld (A := fun q => s.heap.size ≤ q) hx hb hX hbl hbA hS (vi_in (k := 3) rfl (by omega) hL) d_W_law_1181 ?_
  refine va_calli (va_runV (As := [.int (xs (nI i + 1).toNatClampNeg), .int (xs (nI i + 2).toNatClampNeg), .int (xs (nI i + 3).toNatClampNeg)]) (rest := []) ⟨hx, hb, hml, hown, hts⟩ (c_M_told l DM bd kb H1.size u (xs (nI i + 1).toNatClampNeg) (xs (nI i + 2).toNatClampNeg) (xs (nI i + 3).toNatClampNeg)) (cwV 3 hts (gv mw_775 mw_776 mw_777 mw_6 mw_778) rfl rfl rfl (by decide +kernel) ⟨Nat.le_of_ble_eq_true rfl, Nat.le_of_ble_eq_true rfl⟩) ⟨PM_blind, va_recv hK.2.1 hw.2.1 (ci := 0) (q0 := 0) rfl at_M, fun U hU hW => ⟨rfl, LW_pm hJ hw hK hU hW⟩⟩ rfl rfl hl.1 rfl (lv_room (Nat.le_of_ble_eq_true rfl)) d_W_law_1182 ⟨(show _ ≤ 600002 by omega), (show _ ≤ 7302232 by omega)⟩) hS (fun q _ h => hJ.am hS.1 h) (fun q h => hJ.am hS.1 h) (fun r2 u2 tq2 H2 locs ht2 hvm2 hR2 hB2 hz2 hk2 hS => ?_)
  have hw := LW_m hJ hw ht2 hB2 hk2
  refine lv_istore (lv' := [(7, .int r2), (6, .int kr), (0, .ref b), (1, .ref (ad 0)), (2, .ref (bd 0)), (3, .ref qo), (4, .ref qd), (5, .int (nI i))]) hx hb d_W_law_1185 hl (by decide) rfl (fun ls hl => ?_)
  obtain ⟨ha1, ha2⟩ := hag n r t2 r2 u2 hR hR2
  refine lv_aload_n hx hb d_W_law_1187 rfl (lv_at hl 4 rfl) ?_
  refine va_calli (va_runV (As := []) (rest := []) ⟨hx, hb, hml, hown, hts⟩ (c_M_thrown l DM bd kb H2.size u2) (cwV 0 hts (gv mw_685 mw_686 mw_687 mw_6 mw_688) rfl rfl rfl (by decide +kernel) ⟨Nat.le_of_ble_eq_true rfl, Nat.le_of_ble_eq_true rfl⟩) ⟨PM_blind, va_recv hK.2.1 hw.2.1 (ci := 0) (q0 := 0) rfl at_M, fun U hU hW => ⟨rfl, LW_pm hJ hw hK hU hW⟩⟩ rfl rfl hl.1 rfl (lv_room (Nat.le_of_ble_eq_true rfl)) d_W_law_1188 ⟨(show _ ≤ 600002 by omega), (show _ ≤ 7302232 by omega)⟩) hS (fun q _ h => hJ.am hS.1 h) (fun q h => hJ.am hS.1 h) (fun r3 u3 tq3 H3 locs ht3 hvm3 hR3 hB3 hz3 hk3 hS => ?_)
  obtain ⟨hr3, hu3⟩ := hR3
  rw [hu3] at hB3
  have hw := LW_m hJ hw ht3 hB3 hk3
  refine lv_iload hx hb d_W_law_1191 (lv_at hl 1 rfl) ?_
  refine lv_icmp_eq (tgt := 1198) hx hb d_W_law_1193 (by decide) (fun c1 => ?_) (fun c1 => absurd (hr3.trans (ha1.trans hkn.symm)) c1)
  refine lv_iload hx hb d_W_law_1198 (lv_at hl 1 rfl) ?_
  refine lv_if_ne (tgt := 1215) hx hb d_W_law_1200 (by decide) (fun c2 => ?_) (fun c2 => ?_)
  ·
    refine lv_goto (tgt := 1431) hx hb d_W_law_1215 (by decide) ?_
    refine W.widen (k := 200 + (i + 5)) (n := 3000 + 4 * (i + 5)) (by omega) (by omega) ?_
    exact l_back hx hb (fun ls hl => kk n r t2 r2 u2 hR hR2 _ _ _ _ ls hw hS hl) (lv_sub hl [2, 3, 4, 5, 6, 7] rfl)
  · have hn0 : n = 0 := nI_zero (hkn.symm.trans c2) hn4
    have ha3 := ha2 hn0
    have hf3 : f2 0 = r.toInt64 := hf2 hn0
    refine lv_aload_n hx hb d_W_law_1203 rfl (lv_at hl 5 rfl) ?_
    refine lv_iconst (v := 0) hx hb d_W_law_1204 (by decide) ?_
    refine va_lald (D := D) hx hb hK.2.2.1 hw.2.2.1 0 0 rfl rfl (by unfold vp_in; decide) d_W_law_1205 ?_
    refine lv_iload hx hb d_W_law_1206 (lv_at hl 0 rfl) ?_
    refine lv_i2l hx hb d_W_law_1208 rfl ?_
    refine W.lcmp hx hb d_W_law_1209 ?_
    have hf4 : f2 (0 : Int32).toNatClampNeg = r2.toInt64 := by rw [← ha3]; exact hf3
    refine lv_if_eq (tgt := 1215) hx hb d_W_law_1210 (by decide) (fun c3 => ?_) (fun c3 => absurd (by rw [hf4]; exact cmp_self _) c3)
    refine lv_goto (tgt := 1431) hx hb d_W_law_1215 (by decide) ?_
    refine W.widen (k := 200 + (i + 5)) (n := 3000 + 4 * (i + 5)) (by omega) (by omega) ?_
    exact l_back hx hb (fun ls hl => kk n r t2 r2 u2 hR hR2 _ _ _ _ ls hw hS hl) (lv_sub hl [2, 3, 4, 5, 6, 7] rfl)
set_option maxHeartbeats 4000000 in
set_option maxRecDepth 100000 in
theorem k_score (C : LC p l s m meth c b L xs D DM ad bd ka kb sa qo qd kl kd) {i : Nat} (hi : i + 5 ≤ L) {t u : Mem} (ho : OKX t) (hu : MOK u)
    (hag : ∀ (n : Nat) (r : UInt64) (t2 : Mem) (r2 : UInt64) (u2 : Mem), scoreR t (xs (nI i + 1).toNatClampNeg) (xs (nI i + 2).toNatClampNeg) = (n, r, t2) → mScore u (xs (nI i + 1).toNatClampNeg) (xs (nI i + 2).toNatClampNeg) = (r2, u2) → gI u2 0 0 = nI n ∧ (n = 0 → r = r2))
    (kk : ∀ (n : Nat) (r : UInt64) (t2 : Mem) (r2 : UInt64) (u2 : Mem), scoreR t (xs (nI i + 1).toNatClampNeg) (xs (nI i + 2).toNatClampNeg) = (n, r, t2) → mScore u (xs (nI i + 1).toNatClampNeg) (xs (nI i + 2).toNatClampNeg) = (r2, u2) → ∀ (f : Nat → Int64) (g : Nat → UInt64) (H : Heap) (locs : List Loc) (ls : Array Slot), LW D DM ad bd ka kb qo qd kl kd t2 u2 f g H → va_S (fun q => s.heap.size ≤ q) s.heap H locs → lv_has ls 9 (lvL b ad bd qo qd (i + 5)) → W p l e room_1 s m #[Value.ref b] below meth c H locs (200 + (i + 5)) (3000 + 4 * (i + 5)) Q (F0 m 28 ls [])) :
    ∀ (f : Nat → Int64) (g : Nat → UInt64) (H : Heap) (locs : List Loc) (ls : Array Slot), LW D DM ad bd ka kb qo qd kl kd t u f g H → va_S (fun q => s.heap.size ≤ q) s.heap H locs → lv_has ls 9 (lvL b ad bd qo qd i) → W p l e room_1 s m #[Value.ref b] below meth c H locs (200 + i) (3000 + 4 * i) Q (F0 m 1218 ls []) := by
  intro f g H locs ls hw hS hl
  obtain ⟨C0, hL, hl0, hJ, hK, hZ⟩ := C
  obtain ⟨hx, hb, hr, hml, hown, hts0, hX, hbl, hlocks, hgv⟩ := C0
  have hts := lts hts0
  have hbA : ¬ s.heap.size ≤ b := Nat.not_le.mpr hbl
  obtain ⟨Bd, n0, hBd, hOD, hn0, hn, hls, hb1, hb2, hb3, hm7, hm8⟩ := hu
  have hl : lv_has ls 9 [(0, .ref b), (1, .ref (ad 0)), (2, .ref (bd 0)), (3, .ref qo), (4, .ref qd), (5, .int (nI i))] := hl
  refine lv_aload_n hx hb d_W_law_1218 rfl (lv_at hl 1 rfl) ?_
  refine lv_aload_n hx hb d_W_law_1219 rfl (lv_at hl 0 rfl) ?_
  refine lv_iload hx hb d_W_law_1220 (lv_at hl 5 rfl) ?_
  refine lv_iconst (v := 1) hx hb d_W_law_1222 (by decide) ?_
  refine lv_iadd hx hb d_W_law_1223 ?_
  refine va_sld (A := fun q => s.heap.size ≤ q) hx hb hX hbl hbA hS (vi_in (k := 1) rfl (by omega) hL) d_W_law_1224 ?_
  refine lv_aload_n hx hb d_W_law_1225 rfl (lv_at hl 0 rfl) ?_
  refine lv_iload hx hb d_W_law_1226 (lv_at hl 5 rfl) ?_
  refine lv_iconst (v := 2) hx hb d_W_law_1228 (by decide) ?_
  refine lv_iadd hx hb d_W_law_1229 ?_
  refine va_sld (A := fun q => s.heap.size ≤ q) hx hb hX hbl hbA hS (vi_in (k := 2) rfl (by omega) hL) d_W_law_1230 ?_
  refine lv_aload hx hb d_W_law_1231 (lv_at hl 4 rfl) ?_
  refine va_calli (vx_runSW (As := [.ref (ad 0), .int (xs (nI i + 1).toNatClampNeg), .int (xs (nI i + 2).toNatClampNeg), .ref qd]) (rest := []) ⟨hx, hb, hml, hown, hts⟩ (c_W_score l hl0 D ad ka sa H.size t (xs (nI i + 1).toNatClampNeg) (xs (nI i + 2).toNatClampNeg) qd kd g) (vx_cwSW 4 hts (gsw mw_534 mw_535 mw_0 mw_536) rfl rfl rfl (by decide +kernel) ⟨Nat.le_of_ble_eq_true rfl, Nat.le_of_ble_eq_true rfl⟩) ⟨PH_blind, fun U hU hW => ⟨rfl, PHd_mk hJ hw hK hZ hS hU hW⟩⟩ rfl rfl hl.1 rfl (lv_room (Nat.le_of_ble_eq_true rfl)) d_W_law_1233 ⟨(show _ ≤ 600002 by omega), (show _ ≤ 7302232 by omega)⟩) hS (fun q _ h => hJ.aod hS.1 h) (fun q h => hJ.aod hS.1 h) (fun kr zz tq H1 locs ht hvm hq hB hz1 hk1 hS => ?_)
  obtain ⟨t2, g2⟩ := zz
  obtain ⟨n, r, hkn, hn4, hR, hf2⟩ := hq
  have hw : LW D DM ad bd ka kb qo qd kl kd t2 u f g2 H1 := LW_hd hJ hw ht hB hk1
  refine lv_istore (lv' := [(6, .int kr), (0, .ref b), (1, .ref (ad 0)), (2, .ref (bd 0)), (3, .ref qo), (4, .ref qd), (5, .int (nI i))]) hx hb d_W_law_1236 hl (by decide) rfl (fun ls hl => ?_)
  refine lv_aload_n hx hb d_W_law_1238 rfl (lv_at hl 3 rfl) ?_
  refine lv_aload_n hx hb d_W_law_1239 rfl (lv_at hl 1 rfl) ?_
  refine lv_iload hx hb d_W_law_1240 (lv_at hl 6 rfl) ?_
  refine lv_iconst (v := 1) hx hb d_W_law_1242 (by decide) ?_
  refine lv_iadd hx hb d_W_law_1243 ?_
  refine va_sld (A := fun q => s.heap.size ≤ q) hx hb hX hbl hbA hS (vi_in (k := 1) rfl (by omega) hL) d_W_law_1244 ?_
  refine lv_aload_n hx hb d_W_law_1245 rfl (lv_at hl 1 rfl) ?_
  refine lv_iload hx hb d_W_law_1246 (lv_at hl 6 rfl) ?_
  refine lv_iconst (v := 2) hx hb d_W_law_1248 (by decide) ?_
  refine lv_iadd hx hb d_W_law_1249 ?_
  refine va_sld (A := fun q => s.heap.size ≤ q) hx hb hX hbl hbA hS (vi_in (k := 2) rfl (by omega) hL) d_W_law_1250 ?_
  refine va_calld (va_runV (As := [.int (xs (nI i + 1).toNatClampNeg), .int (xs (nI i + 2).toNatClampNeg)]) (rest := []) ⟨hx, hb, hml, hown, hts⟩ (c_M_score l DM bd kb H1.size u (xs (nI i + 1).toNatClampNeg) (xs (nI i + 2).toNatClampNeg)) (cwV 2 hts (gv mw_779 mw_780 mw_781 mw_6 mw_782) rfl rfl rfl (by decide +kernel) ⟨Nat.le_of_ble_eq_true rfl, Nat.le_of_ble_eq_true rfl⟩) ⟨PM_blind, va_recv hK.2.1 hw.2.1 (ci := 0) (q0 := 0) rfl at_M, fun U hU hW => ⟨rfl, LW_pm hJ hw hK hU hW⟩⟩ rfl rfl hl.1 rfl (lv_room (Nat.le_of_ble_eq_true rfl)) d_W_law_1251 ⟨(show _ ≤ 600002 by omega), (show _ ≤ 7302232 by omega)⟩) hS (fun q _ h => hJ.am hS.1 h) (fun q h => hJ.am hS.1 h) (fun r2 u2 tq2 H2 locs ht2 hvm2 hR2 hB2 hz2 hk2 hS => ?_)
  have hw := LW_m hJ hw ht2 hB2 hk2
  refine lv_dstore (lv' := [(7, .double r2), (6, .int kr), (0, .ref b), (1, .ref (ad 0)), (2, .ref (bd 0)), (3, .ref qo), (4, .ref qd), (5, .int (nI i))]) hx hb d_W_law_1254 hl (by decide) rfl (fun ls hl => ?_)
  obtain ⟨ha1, ha2⟩ := hag n r t2 r2 u2 hR hR2
  refine lv_aload_n hx hb d_W_law_1256 rfl (lv_at hl 4 rfl) ?_
  refine va_calli (va_runV (As := []) (rest := []) ⟨hx, hb, hml, hown, hts⟩ (c_M_thrown l DM bd kb H2.size u2) (cwV 0 hts (gv mw_685 mw_686 mw_687 mw_6 mw_688) rfl rfl rfl (by decide +kernel) ⟨Nat.le_of_ble_eq_true rfl, Nat.le_of_ble_eq_true rfl⟩) ⟨PM_blind, va_recv hK.2.1 hw.2.1 (ci := 0) (q0 := 0) rfl at_M, fun U hU hW => ⟨rfl, LW_pm hJ hw hK hU hW⟩⟩ rfl rfl hl.1 rfl (lv_room (Nat.le_of_ble_eq_true rfl)) d_W_law_1257 ⟨(show _ ≤ 600002 by omega), (show _ ≤ 7302232 by omega)⟩) hS (fun q _ h => hJ.am hS.1 h) (fun q h => hJ.am hS.1 h) (fun r3 u3 tq3 H3 locs ht3 hvm3 hR3 hB3 hz3 hk3 hS => ?_)
  obtain ⟨hr3, hu3⟩ := hR3
  rw [hu3] at hB3
  have hw := LW_m hJ hw ht3 hB3 hk3
  refine lv_iload hx hb d_W_law_1260 (lv_at hl 1 rfl) ?_
  refine lv_icmp_eq (tgt := 1267) hx hb d_W_law_1262 (by decide) (fun c1 => ?_) (fun c1 => absurd (hr3.trans (ha1.trans hkn.symm)) c1)
  refine lv_iload hx hb d_W_law_1267 (lv_at hl 1 rfl) ?_
  refine lv_if_ne (tgt := 1304) hx hb d_W_law_1269 (by decide) (fun c2 => ?_) (fun c2 => ?_)
  ·
    refine lv_goto (tgt := 1431) hx hb d_W_law_1304 (by decide) ?_
    refine W.widen (k := 200 + (i + 5)) (n := 3000 + 4 * (i + 5)) (by omega) (by omega) ?_
    exact l_back hx hb (fun ls hl => kk n r t2 r2 u2 hR hR2 _ _ _ _ ls hw hS hl) (lv_sub hl [2, 3, 4, 5, 6, 7] rfl)
  · have hn0 : n = 0 := nI_zero (hkn.symm.trans c2) hn4
    have ha3 := ha2 hn0
    have hf3 : g2 0 = r := hf2 hn0
    refine lv_aload hx hb d_W_law_1272 (lv_at hl 6 rfl) ?_
    refine lv_iconst (v := 0) hx hb d_W_law_1274 (by decide) ?_
    refine va_dald (D := D) hx hb hK.2.2.2 hw.2.2.2 0 0 rfl rfl (by unfold vp_in; decide) d_W_law_1275 ?_
    refine lv_dload hx hb d_W_law_1276 (lv_at hl 0 rfl) ?_
    refine lv_dcmp hx hb d_W_law_1278 ?_
    have hf4 : g2 (0 : Int32).toNatClampNeg = r2 := hf3.trans ha3
    refine lv_if_eq (tgt := 1304) hx hb d_W_law_1279 (by decide) (fun c3 => ?_) (fun c3 => ?_)
    ·
      refine lv_goto (tgt := 1431) hx hb d_W_law_1304 (by decide) ?_
      refine W.widen (k := 200 + (i + 5)) (n := 3000 + 4 * (i + 5)) (by omega) (by omega) ?_
      exact l_back hx hb (fun ls hl => kk n r t2 r2 u2 hR hR2 _ _ _ _ ls hw hS hl) (lv_sub hl [2, 3, 4, 5, 6, 7] rfl)
    · rw [hf4] at c3
      refine lv_aload hx hb d_W_law_1282 (lv_at hl 6 rfl) ?_
      refine lv_iconst (v := 0) hx hb d_W_law_1284 (by decide) ?_
      refine va_dald (D := D) hx hb hK.2.2.2 hw.2.2.2 0 0 rfl rfl (by unfold vp_in; decide) d_W_law_1285 ?_
      refine lv_aload hx hb d_W_law_1286 (lv_at hl 6 rfl) ?_
      refine lv_iconst (v := 0) hx hb d_W_law_1288 (by decide) ?_
      refine va_dald (D := D) hx hb hK.2.2.2 hw.2.2.2 0 0 rfl rfl (by unfold vp_in; decide) d_W_law_1289 ?_
      refine lv_dcmp hx hb d_W_law_1290 ?_
      refine lv_if_eq (tgt := 1302) hx hb d_W_law_1291 (by decide) (fun c4 => absurd c4 (by rw [hf4]; exact c3)) (fun c4 => ?_)
      refine lv_dload hx hb d_W_law_1294 (lv_at hl 0 rfl) ?_
      refine lv_dload hx hb d_W_law_1296 (lv_at hl 0 rfl) ?_
      refine lv_dcmp hx hb d_W_law_1298 ?_
      refine lv_if_ne (tgt := 1304) hx hb d_W_law_1299 (by decide) (fun c5 => ?_) (fun c5 => absurd c5 c3)
      refine lv_goto (tgt := 1431) hx hb d_W_law_1304 (by decide) ?_
      refine W.widen (k := 200 + (i + 5)) (n := 3000 + 4 * (i + 5)) (by omega) (by omega) ?_
      exact l_back hx hb (fun ls hl => kk n r t2 r2 u2 hR hR2 _ _ _ _ ls hw hS hl) (lv_sub hl [2, 3, 4, 5, 6, 7] rfl)
set_option maxHeartbeats 4000000 in
set_option maxRecDepth 100000 in
theorem k_sent (C : LC p l s m meth c b L xs D DM ad bd ka kb sa qo qd kl kd) {i : Nat} (hi : i + 5 ≤ L) {t u : Mem} (ho : OKX t) (hu : MOK u)
    (hag : ∀ (n : Nat) (r : Int32) (t2 : Mem) (r2 : Int32) (u2 : Mem), sentR t (xs (nI i + 1).toNatClampNeg) (xs (nI i + 2).toNatClampNeg) = (n, r, t2) → mSent u (xs (nI i + 1).toNatClampNeg) (xs (nI i + 2).toNatClampNeg) = (r2, u2) → gI u2 0 0 = nI n ∧ (n = 0 → r = r2))
    (kk : ∀ (n : Nat) (r : Int32) (t2 : Mem) (r2 : Int32) (u2 : Mem), sentR t (xs (nI i + 1).toNatClampNeg) (xs (nI i + 2).toNatClampNeg) = (n, r, t2) → mSent u (xs (nI i + 1).toNatClampNeg) (xs (nI i + 2).toNatClampNeg) = (r2, u2) → ∀ (f : Nat → Int64) (g : Nat → UInt64) (H : Heap) (locs : List Loc) (ls : Array Slot), LW D DM ad bd ka kb qo qd kl kd t2 u2 f g H → va_S (fun q => s.heap.size ≤ q) s.heap H locs → lv_has ls 9 (lvL b ad bd qo qd (i + 5)) → W p l e room_1 s m #[Value.ref b] below meth c H locs (200 + (i + 5)) (3000 + 4 * (i + 5)) Q (F0 m 28 ls [])) :
    ∀ (f : Nat → Int64) (g : Nat → UInt64) (H : Heap) (locs : List Loc) (ls : Array Slot), LW D DM ad bd ka kb qo qd kl kd t u f g H → va_S (fun q => s.heap.size ≤ q) s.heap H locs → lv_has ls 9 (lvL b ad bd qo qd i) → W p l e room_1 s m #[Value.ref b] below meth c H locs (200 + i) (3000 + 4 * i) Q (F0 m 1307 ls []) := by
  intro f g H locs ls hw hS hl
  obtain ⟨C0, hL, hl0, hJ, hK, hZ⟩ := C
  obtain ⟨hx, hb, hr, hml, hown, hts0, hX, hbl, hlocks, hgv⟩ := C0
  have hts := lts hts0
  have hbA : ¬ s.heap.size ≤ b := Nat.not_le.mpr hbl
  obtain ⟨Bd, n0, hBd, hOD, hn0, hn, hls, hb1, hb2, hb3, hm7, hm8⟩ := hu
  have hl : lv_has ls 9 [(0, .ref b), (1, .ref (ad 0)), (2, .ref (bd 0)), (3, .ref qo), (4, .ref qd), (5, .int (nI i))] := hl
  refine lv_aload_n hx hb d_W_law_1307 rfl (lv_at hl 1 rfl) ?_
  refine lv_aload_n hx hb d_W_law_1308 rfl (lv_at hl 0 rfl) ?_
  refine lv_iload hx hb d_W_law_1309 (lv_at hl 5 rfl) ?_
  refine lv_iconst (v := 1) hx hb d_W_law_1311 (by decide) ?_
  refine lv_iadd hx hb d_W_law_1312 ?_
  refine va_sld (A := fun q => s.heap.size ≤ q) hx hb hX hbl hbA hS (vi_in (k := 1) rfl (by omega) hL) d_W_law_1313 ?_
  refine lv_aload_n hx hb d_W_law_1314 rfl (lv_at hl 0 rfl) ?_
  refine lv_iload hx hb d_W_law_1315 (lv_at hl 5 rfl) ?_
  refine lv_iconst (v := 2) hx hb d_W_law_1317 (by decide) ?_
  refine lv_iadd hx hb d_W_law_1318 ?_
  refine va_sld (A := fun q => s.heap.size ≤ q) hx hb hX hbl hbA hS (vi_in (k := 2) rfl (by omega) hL) d_W_law_1319 ?_
  refine lv_aload_n hx hb d_W_law_1320 rfl (lv_at hl 3 rfl) ?_
  refine va_calli (vx_runSW (As := [.ref (ad 0), .int (xs (nI i + 1).toNatClampNeg), .int (xs (nI i + 2).toNatClampNeg), .ref qo]) (rest := []) ⟨hx, hb, hml, hown, hts⟩ (c_W_sent l hl0 D ad ka sa H.size t ho (xs (nI i + 1).toNatClampNeg) (xs (nI i + 2).toNatClampNeg) qo kl f) (vx_cwSW 4 hts (gsw mw_541 mw_542 mw_0 mw_543) rfl rfl rfl (by decide +kernel) ⟨Nat.le_of_ble_eq_true rfl, Nat.le_of_ble_eq_true rfl⟩) ⟨PH_blind, fun U hU hW => ⟨rfl, PH_mk hJ hw hK hZ hS hU hW⟩⟩ rfl rfl hl.1 rfl (lv_room (Nat.le_of_ble_eq_true rfl)) d_W_law_1321 ⟨(show _ ≤ 600002 by omega), (show _ ≤ 7302232 by omega)⟩) hS (fun q _ h => hJ.ao hS.1 h) (fun q h => hJ.ao hS.1 h) (fun kr zz tq H1 locs ht hvm hq hB hz1 hk1 hS => ?_)
  obtain ⟨t2, f2⟩ := zz
  obtain ⟨n, r, hkn, hn4, hR, hf2⟩ := hq
  have hw : LW D DM ad bd ka kb qo qd kl kd t2 u f2 g H1 := LW_h hJ hw ht hB hk1
  refine lv_istore (lv' := [(6, .int kr), (0, .ref b), (1, .ref (ad 0)), (2, .ref (bd 0)), (3, .ref qo), (4, .ref qd), (5, .int (nI i))]) hx hb d_W_law_1324 hl (by decide) rfl (fun ls hl => ?_)
  refine lv_aload_n hx hb d_W_law_1326 rfl (lv_at hl 3 rfl) ?_
  refine lv_aload_n hx hb d_W_law_1327 rfl (lv_at hl 1 rfl) ?_
  refine lv_iload hx hb d_W_law_1328 (lv_at hl 6 rfl) ?_
  refine lv_iconst (v := 1) hx hb d_W_law_1330 (by decide) ?_
  refine lv_iadd hx hb d_W_law_1331 ?_
  refine va_sld (A := fun q => s.heap.size ≤ q) hx hb hX hbl hbA hS (vi_in (k := 1) rfl (by omega) hL) d_W_law_1332 ?_
  refine lv_aload_n hx hb d_W_law_1333 rfl (lv_at hl 1 rfl) ?_
  refine lv_iload hx hb d_W_law_1334 (lv_at hl 6 rfl) ?_
  refine lv_iconst (v := 2) hx hb d_W_law_1336 (by decide) ?_
  refine lv_iadd hx hb d_W_law_1337 ?_
  refine va_sld (A := fun q => s.heap.size ≤ q) hx hb hX hbl hbA hS (vi_in (k := 2) rfl (by omega) hL) d_W_law_1338 ?_
  refine va_calli (va_runV (As := [.int (xs (nI i + 1).toNatClampNeg), .int (xs (nI i + 2).toNatClampNeg)]) (rest := []) ⟨hx, hb, hml, hown, hts⟩ (c_M_sent l DM bd kb H1.size u (xs (nI i + 1).toNatClampNeg) (xs (nI i + 2).toNatClampNeg)) (cwV 2 hts (gv mw_783 mw_784 mw_785 mw_6 mw_786) rfl rfl rfl (by decide +kernel) ⟨Nat.le_of_ble_eq_true rfl, Nat.le_of_ble_eq_true rfl⟩) ⟨PM_blind, va_recv hK.2.1 hw.2.1 (ci := 0) (q0 := 0) rfl at_M, fun U hU hW => ⟨rfl, LW_pm hJ hw hK hU hW⟩⟩ rfl rfl hl.1 rfl (lv_room (Nat.le_of_ble_eq_true rfl)) d_W_law_1339 ⟨(show _ ≤ 600002 by omega), (show _ ≤ 7302232 by omega)⟩) hS (fun q _ h => hJ.am hS.1 h) (fun q h => hJ.am hS.1 h) (fun r2 u2 tq2 H2 locs ht2 hvm2 hR2 hB2 hz2 hk2 hS => ?_)
  have hw := LW_m hJ hw ht2 hB2 hk2
  refine lv_istore (lv' := [(7, .int r2), (6, .int kr), (0, .ref b), (1, .ref (ad 0)), (2, .ref (bd 0)), (3, .ref qo), (4, .ref qd), (5, .int (nI i))]) hx hb d_W_law_1342 hl (by decide) rfl (fun ls hl => ?_)
  obtain ⟨ha1, ha2⟩ := hag n r t2 r2 u2 hR hR2
  refine lv_aload_n hx hb d_W_law_1344 rfl (lv_at hl 4 rfl) ?_
  refine va_calli (va_runV (As := []) (rest := []) ⟨hx, hb, hml, hown, hts⟩ (c_M_thrown l DM bd kb H2.size u2) (cwV 0 hts (gv mw_685 mw_686 mw_687 mw_6 mw_688) rfl rfl rfl (by decide +kernel) ⟨Nat.le_of_ble_eq_true rfl, Nat.le_of_ble_eq_true rfl⟩) ⟨PM_blind, va_recv hK.2.1 hw.2.1 (ci := 0) (q0 := 0) rfl at_M, fun U hU hW => ⟨rfl, LW_pm hJ hw hK hU hW⟩⟩ rfl rfl hl.1 rfl (lv_room (Nat.le_of_ble_eq_true rfl)) d_W_law_1345 ⟨(show _ ≤ 600002 by omega), (show _ ≤ 7302232 by omega)⟩) hS (fun q _ h => hJ.am hS.1 h) (fun q h => hJ.am hS.1 h) (fun r3 u3 tq3 H3 locs ht3 hvm3 hR3 hB3 hz3 hk3 hS => ?_)
  obtain ⟨hr3, hu3⟩ := hR3
  rw [hu3] at hB3
  have hw := LW_m hJ hw ht3 hB3 hk3
  refine lv_iload hx hb d_W_law_1348 (lv_at hl 1 rfl) ?_
  refine lv_icmp_eq (tgt := 1355) hx hb d_W_law_1350 (by decide) (fun c1 => ?_) (fun c1 => absurd (hr3.trans (ha1.trans hkn.symm)) c1)
  refine lv_iload hx hb d_W_law_1355 (lv_at hl 1 rfl) ?_
  refine lv_if_ne (tgt := 1372) hx hb d_W_law_1357 (by decide) (fun c2 => ?_) (fun c2 => ?_)
  ·
    refine lv_goto (tgt := 1431) hx hb d_W_law_1372 (by decide) ?_
    refine W.widen (k := 200 + (i + 5)) (n := 3000 + 4 * (i + 5)) (by omega) (by omega) ?_
    exact l_back hx hb (fun ls hl => kk n r t2 r2 u2 hR hR2 _ _ _ _ ls hw hS hl) (lv_sub hl [2, 3, 4, 5, 6, 7] rfl)
  · have hn0 : n = 0 := nI_zero (hkn.symm.trans c2) hn4
    have ha3 := ha2 hn0
    have hf3 : f2 0 = r.toInt64 := hf2 hn0
    refine lv_aload_n hx hb d_W_law_1360 rfl (lv_at hl 5 rfl) ?_
    refine lv_iconst (v := 0) hx hb d_W_law_1361 (by decide) ?_
    refine va_lald (D := D) hx hb hK.2.2.1 hw.2.2.1 0 0 rfl rfl (by unfold vp_in; decide) d_W_law_1362 ?_
    refine lv_iload hx hb d_W_law_1363 (lv_at hl 0 rfl) ?_
    refine lv_i2l hx hb d_W_law_1365 rfl ?_
    refine W.lcmp hx hb d_W_law_1366 ?_
    have hf4 : f2 (0 : Int32).toNatClampNeg = r2.toInt64 := by rw [← ha3]; exact hf3
    refine lv_if_eq (tgt := 1372) hx hb d_W_law_1367 (by decide) (fun c3 => ?_) (fun c3 => absurd (by rw [hf4]; exact cmp_self _) c3)
    refine lv_goto (tgt := 1431) hx hb d_W_law_1372 (by decide) ?_
    refine W.widen (k := 200 + (i + 5)) (n := 3000 + 4 * (i + 5)) (by omega) (by omega) ?_
    exact l_back hx hb (fun ls hl => kk n r t2 r2 u2 hR hR2 _ _ _ _ ls hw hS hl) (lv_sub hl [2, 3, 4, 5, 6, 7] rfl)
set_option maxHeartbeats 4000000 in
set_option maxRecDepth 100000 in
theorem k_count (C : LC p l s m meth c b L xs D DM ad bd ka kb sa qo qd kl kd) {i : Nat} (hi : i + 5 ≤ L) {t u : Mem} (ho : OKX t) (hu : MOK u)
    (hag : ∀ (n : Nat) (r : Int32) (t2 : Mem) (r2 : Int32) (u2 : Mem), countR t (xs (nI i + 1).toNatClampNeg) = (n, r, t2) → mCount u (xs (nI i + 1).toNatClampNeg) = (r2, u2) → gI u2 0 0 = nI n ∧ (n = 0 → r = r2))
    (kk : ∀ (n : Nat) (r : Int32) (t2 : Mem) (r2 : Int32) (u2 : Mem), countR t (xs (nI i + 1).toNatClampNeg) = (n, r, t2) → mCount u (xs (nI i + 1).toNatClampNeg) = (r2, u2) → ∀ (f : Nat → Int64) (g : Nat → UInt64) (H : Heap) (locs : List Loc) (ls : Array Slot), LW D DM ad bd ka kb qo qd kl kd t2 u2 f g H → va_S (fun q => s.heap.size ≤ q) s.heap H locs → lv_has ls 9 (lvL b ad bd qo qd (i + 5)) → W p l e room_1 s m #[Value.ref b] below meth c H locs (200 + (i + 5)) (3000 + 4 * (i + 5)) Q (F0 m 28 ls [])) :
    ∀ (f : Nat → Int64) (g : Nat → UInt64) (H : Heap) (locs : List Loc) (ls : Array Slot), LW D DM ad bd ka kb qo qd kl kd t u f g H → va_S (fun q => s.heap.size ≤ q) s.heap H locs → lv_has ls 9 (lvL b ad bd qo qd i) → W p l e room_1 s m #[Value.ref b] below meth c H locs (200 + i) (3000 + 4 * i) Q (F0 m 1375 ls []) := by
  intro f g H locs ls hw hS hl
  obtain ⟨C0, hL, hl0, hJ, hK, hZ⟩ := C
  obtain ⟨hx, hb, hr, hml, hown, hts0, hX, hbl, hlocks, hgv⟩ := C0
  have hts := lts hts0
  have hbA : ¬ s.heap.size ≤ b := Nat.not_le.mpr hbl
  obtain ⟨Bd, n0, hBd, hOD, hn0, hn, hls, hb1, hb2, hb3, hm7, hm8⟩ := hu
  have hl : lv_has ls 9 [(0, .ref b), (1, .ref (ad 0)), (2, .ref (bd 0)), (3, .ref qo), (4, .ref qd), (5, .int (nI i))] := hl
  refine lv_aload_n hx hb d_W_law_1375 rfl (lv_at hl 1 rfl) ?_
  refine lv_aload_n hx hb d_W_law_1376 rfl (lv_at hl 0 rfl) ?_
  refine lv_iload hx hb d_W_law_1377 (lv_at hl 5 rfl) ?_
  refine lv_iconst (v := 1) hx hb d_W_law_1379 (by decide) ?_
  refine lv_iadd hx hb d_W_law_1380 ?_
  refine va_sld (A := fun q => s.heap.size ≤ q) hx hb hX hbl hbA hS (vi_in (k := 1) rfl (by omega) hL) d_W_law_1381 ?_
  refine lv_aload_n hx hb d_W_law_1382 rfl (lv_at hl 3 rfl) ?_
  refine va_calli (vx_runSW (As := [.ref (ad 0), .int (xs (nI i + 1).toNatClampNeg), .ref qo]) (rest := []) ⟨hx, hb, hml, hown, hts⟩ (c_W_count l hl0 D ad ka sa H.size t ho (xs (nI i + 1).toNatClampNeg) qo kl f) (vx_cwSW 3 hts (gsw mw_565 mw_566 mw_0 mw_567) rfl rfl rfl (by decide +kernel) ⟨Nat.le_of_ble_eq_true rfl, Nat.le_of_ble_eq_true rfl⟩) ⟨PH_blind, fun U hU hW => ⟨rfl, PH_mk hJ hw hK hZ hS hU hW⟩⟩ rfl rfl hl.1 rfl (lv_room (Nat.le_of_ble_eq_true rfl)) d_W_law_1383 ⟨(show _ ≤ 600002 by omega), (show _ ≤ 7302232 by omega)⟩) hS (fun q _ h => hJ.ao hS.1 h) (fun q h => hJ.ao hS.1 h) (fun kr zz tq H1 locs ht hvm hq hB hz1 hk1 hS => ?_)
  obtain ⟨t2, f2⟩ := zz
  obtain ⟨n, r, hkn, hn4, hR, hf2⟩ := hq
  have hw : LW D DM ad bd ka kb qo qd kl kd t2 u f2 g H1 := LW_h hJ hw ht hB hk1
  refine lv_istore (lv' := [(6, .int kr), (0, .ref b), (1, .ref (ad 0)), (2, .ref (bd 0)), (3, .ref qo), (4, .ref qd), (5, .int (nI i))]) hx hb d_W_law_1386 hl (by decide) rfl (fun ls hl => ?_)
  refine lv_aload_n hx hb d_W_law_1388 rfl (lv_at hl 3 rfl) ?_
  refine lv_aload_n hx hb d_W_law_1389 rfl (lv_at hl 1 rfl) ?_
  refine lv_iload hx hb d_W_law_1390 (lv_at hl 6 rfl) ?_
  refine lv_iconst (v := 1) hx hb d_W_law_1392 (by decide) ?_
  refine lv_iadd hx hb d_W_law_1393 ?_
  refine va_sld (A := fun q => s.heap.size ≤ q) hx hb hX hbl hbA hS (vi_in (k := 1) rfl (by omega) hL) d_W_law_1394 ?_
  refine va_calli (va_runV (As := [.int (xs (nI i + 1).toNatClampNeg)]) (rest := []) ⟨hx, hb, hml, hown, hts⟩ (c_M_count l DM bd kb H1.size u n0 hn0 hn hb3 (xs (nI i + 1).toNatClampNeg)) (cwV 1 hts (gv mw_787 mw_788 mw_789 mw_6 mw_790) rfl rfl rfl (by decide +kernel) ⟨Nat.le_of_ble_eq_true rfl, Nat.le_of_ble_eq_true rfl⟩) ⟨PM_blind, va_recv hK.2.1 hw.2.1 (ci := 0) (q0 := 0) rfl at_M, fun U hU hW => ⟨rfl, LW_pm hJ hw hK hU hW⟩⟩ rfl rfl hl.1 rfl (lv_room (Nat.le_of_ble_eq_true rfl)) d_W_law_1395 ⟨(show _ ≤ 600002 by omega), (show _ ≤ 7302232 by omega)⟩) hS (fun q _ h => hJ.am hS.1 h) (fun q h => hJ.am hS.1 h) (fun r2 u2 tq2 H2 locs ht2 hvm2 hR2 hB2 hz2 hk2 hS => ?_)
  have hw := LW_m hJ hw ht2 hB2 hk2
  refine lv_istore (lv' := [(7, .int r2), (6, .int kr), (0, .ref b), (1, .ref (ad 0)), (2, .ref (bd 0)), (3, .ref qo), (4, .ref qd), (5, .int (nI i))]) hx hb d_W_law_1398 hl (by decide) rfl (fun ls hl => ?_)
  obtain ⟨ha1, ha2⟩ := hag n r t2 r2 u2 hR hR2
  refine lv_aload_n hx hb d_W_law_1400 rfl (lv_at hl 4 rfl) ?_
  refine va_calli (va_runV (As := []) (rest := []) ⟨hx, hb, hml, hown, hts⟩ (c_M_thrown l DM bd kb H2.size u2) (cwV 0 hts (gv mw_685 mw_686 mw_687 mw_6 mw_688) rfl rfl rfl (by decide +kernel) ⟨Nat.le_of_ble_eq_true rfl, Nat.le_of_ble_eq_true rfl⟩) ⟨PM_blind, va_recv hK.2.1 hw.2.1 (ci := 0) (q0 := 0) rfl at_M, fun U hU hW => ⟨rfl, LW_pm hJ hw hK hU hW⟩⟩ rfl rfl hl.1 rfl (lv_room (Nat.le_of_ble_eq_true rfl)) d_W_law_1401 ⟨(show _ ≤ 600002 by omega), (show _ ≤ 7302232 by omega)⟩) hS (fun q _ h => hJ.am hS.1 h) (fun q h => hJ.am hS.1 h) (fun r3 u3 tq3 H3 locs ht3 hvm3 hR3 hB3 hz3 hk3 hS => ?_)
  obtain ⟨hr3, hu3⟩ := hR3
  rw [hu3] at hB3
  have hw := LW_m hJ hw ht3 hB3 hk3
  refine lv_iload hx hb d_W_law_1404 (lv_at hl 1 rfl) ?_
  refine lv_icmp_eq (tgt := 1411) hx hb d_W_law_1406 (by decide) (fun c1 => ?_) (fun c1 => absurd (hr3.trans (ha1.trans hkn.symm)) c1)
  refine lv_iload hx hb d_W_law_1411 (lv_at hl 1 rfl) ?_
  refine lv_if_ne (tgt := 1428) hx hb d_W_law_1413 (by decide) (fun c2 => ?_) (fun c2 => ?_)
  ·
    refine lv_goto (tgt := 1431) hx hb d_W_law_1428 (by decide) ?_
    refine W.widen (k := 200 + (i + 5)) (n := 3000 + 4 * (i + 5)) (by omega) (by omega) ?_
    exact l_back hx hb (fun ls hl => kk n r t2 r2 u2 hR hR2 _ _ _ _ ls hw hS hl) (lv_sub hl [2, 3, 4, 5, 6, 7] rfl)
  · have hn0 : n = 0 := nI_zero (hkn.symm.trans c2) hn4
    have ha3 := ha2 hn0
    have hf3 : f2 0 = r.toInt64 := hf2 hn0
    refine lv_aload_n hx hb d_W_law_1416 rfl (lv_at hl 5 rfl) ?_
    refine lv_iconst (v := 0) hx hb d_W_law_1417 (by decide) ?_
    refine va_lald (D := D) hx hb hK.2.2.1 hw.2.2.1 0 0 rfl rfl (by unfold vp_in; decide) d_W_law_1418 ?_
    refine lv_iload hx hb d_W_law_1419 (lv_at hl 0 rfl) ?_
    refine lv_i2l hx hb d_W_law_1421 rfl ?_
    refine W.lcmp hx hb d_W_law_1422 ?_
    have hf4 : f2 (0 : Int32).toNatClampNeg = r2.toInt64 := by rw [← ha3]; exact hf3
    refine lv_if_eq (tgt := 1428) hx hb d_W_law_1423 (by decide) (fun c3 => ?_) (fun c3 => absurd (by rw [hf4]; exact cmp_self _) c3)
    refine lv_goto (tgt := 1431) hx hb d_W_law_1428 (by decide) ?_
    refine W.widen (k := 200 + (i + 5)) (n := 3000 + 4 * (i + 5)) (by omega) (by omega) ?_
    exact l_back hx hb (fun ls hl => kk n r t2 r2 u2 hR hR2 _ _ _ _ ls hw hS hl) (lv_sub hl [2, 3, 4, 5, 6, 7] rfl)
end LCS
