section LBK
variable {p : Program} {l : Launch} {e : Env} {s : State} {m : MethodId} {below : List Frame} {meth : Method} {c : Code} {Q : State → Prop} {b : Nat} {ad bd : Nat → Nat} {qo qd : Nat} {H : Heap} {locs : List Loc} {cells slots i : Nat} {ls : Array Slot}
theorem l_back (hx : p.tables.exec = Jvm.exec) (hb : c.code = code) (kk : ∀ ls : Array Slot, lv_has ls 9 (lvL b ad bd qo qd (i + 5)) → W p l e room_1 s m #[Value.ref b] below meth c H locs cells slots Q (F0 m 28 ls [])) (hl : lv_has ls 9 (lvL b ad bd qo qd i)) : W p l e room_1 s m #[Value.ref b] below meth c H locs cells slots Q (F0 m 957 ls []) := by
  have hl : lv_has ls 9 [(0, .ref b), (1, .ref (ad 0)), (2, .ref (bd 0)), (3, .ref qo), (4, .ref qd), (5, .int (nI i))] := hl
  refine lv_iinc (v := nI (i + 5)) (lv' := [(5, .int (nI (i + 5))), (0, .ref b), (1, .ref (ad 0)), (2, .ref (bd 0)), (3, .ref qo), (4, .ref qd)]) hx hb d_W_law_957 hl (k := 5) rfl (nI_add i 5) (by decide) rfl (fun ls hl => ?_)
  refine lv_goto (tgt := 28) hx hb d_W_law_960 (by decide) ?_
  exact kk ls (lv_sub hl [1, 2, 3, 4, 5, 0] rfl)
end LBK
section LCS
variable {p : Program} {l : Launch} {e : Env} {s : State} {m : MethodId} {below : List Frame} {meth : Method} {c : Code} {Q : State → Prop} {b L : Nat} {xs : Nat → Int32} {D DM : va_G} {ad bd : Nat → Nat} {ka kb : Nat → ClassId} {sa : Nat → Nat} {qo qd : Nat} {kl kd : ClassId}
set_option maxHeartbeats 4000000 in
set_option maxRecDepth 100000 in
theorem k_ask (C : LC p l s m meth c b L xs D DM ad bd ka kb sa qo qd kl kd) {i : Nat} (hi : i + 5 ≤ L) {t u : Mem} (ho : OKX t) (hu : MOK u)
    (kk : ∀ (n : Nat) (r : Int32) (t2 : Mem) (r2 : Int32) (u2 : Mem), askR t (xs (nI i + 1).toNatClampNeg) (xs (nI i + 2).toNatClampNeg) (xs (nI i + 3).toNatClampNeg) = (n, r, t2) → mAsk u (xs (nI i + 1).toNatClampNeg) (xs (nI i + 2).toNatClampNeg) (xs (nI i + 3).toNatClampNeg) = (r2, u2) → ∀ (f : Nat → Int64) (g : Nat → UInt64) (H : Heap) (locs : List Loc) (ls : Array Slot), LW D DM ad bd ka kb qo qd kl kd t2 u2 f g H → va_S (fun q => s.heap.size ≤ q) s.heap H locs → lv_has ls 9 (lvL b ad bd qo qd (i + 5)) → W p l e room_1 s m #[Value.ref b] below meth c H locs (200 + (i + 5)) (3000 + 4 * (i + 5)) Q (F0 m 28 ls [])) :
    ∀ (f : Nat → Int64) (g : Nat → UInt64) (H : Heap) (locs : List Loc) (ls : Array Slot), LW D DM ad bd ka kb qo qd kl kd t u f g H → va_S (fun q => s.heap.size ≤ q) s.heap H locs → lv_has ls 9 (lvL b ad bd qo qd i) → W p l e room_1 s m #[Value.ref b] below meth c H locs (200 + i) (3000 + 4 * i) Q (F0 m 124 ls []) := by
  intro f g H locs ls hw hS hl
  obtain ⟨C0, hL, hl0, hJ, hK, hZ⟩ := C
  obtain ⟨hx, hb, hr, hml, hown, hts0, hX, hbl, hlocks, hgv⟩ := C0
  have hts := lts hts0
  have hbA : ¬ s.heap.size ≤ b := Nat.not_le.mpr hbl
  obtain ⟨Bd, n0, hBd, hOD, hn0, hn, hls, hb1, hb2, hb3, hm7, hm8⟩ := hu
  have hl : lv_has ls 9 [(0, .ref b), (1, .ref (ad 0)), (2, .ref (bd 0)), (3, .ref qo), (4, .ref qd), (5, .int (nI i))] := hl
  refine lv_aload_n hx hb d_W_law_124 rfl (lv_at hl 1 rfl) ?_
  refine lv_aload_n hx hb d_W_law_125 rfl (lv_at hl 0 rfl) ?_
  refine lv_iload hx hb d_W_law_126 (lv_at hl 5 rfl) ?_
  refine lv_iconst (v := 1) hx hb d_W_law_128 (by decide) ?_
  refine lv_iadd hx hb d_W_law_129 ?_
  refine va_sld (A := fun q => s.heap.size ≤ q) hx hb hX hbl hbA hS (vi_in (k := 1) rfl (by omega) hL) d_W_law_130 ?_
  refine lv_aload_n hx hb d_W_law_131 rfl (lv_at hl 0 rfl) ?_
  refine lv_iload hx hb d_W_law_132 (lv_at hl 5 rfl) ?_
  refine lv_iconst (v := 2) hx hb d_W_law_134 (by decide) ?_
  refine lv_iadd hx hb d_W_law_135 ?_
  refine va_sld (A := fun q => s.heap.size ≤ q) hx hb hX hbl hbA hS (vi_in (k := 2) rfl (by omega) hL) d_W_law_136 ?_
  refine lv_aload_n hx hb d_W_law_137 rfl (lv_at hl 0 rfl) ?_
  refine lv_iload hx hb d_W_law_138 (lv_at hl 5 rfl) ?_
  refine lv_iconst (v := 3) hx hb d_W_law_140 (by decide) ?_
  refine lv_iadd hx hb d_W_law_141 ?_
  refine va_sld (A := fun q => s.heap.size ≤ q) hx hb hX hbl hbA hS (vi_in (k := 3) rfl (by omega) hL) d_W_law_142 ?_
  refine lv_aload_n hx hb d_W_law_143 rfl (lv_at hl 3 rfl) ?_
  refine va_calli (vx_runSW (As := [.ref (ad 0), .int (xs (nI i + 1).toNatClampNeg), .int (xs (nI i + 2).toNatClampNeg), .int (xs (nI i + 3).toNatClampNeg), .ref qo]) (rest := []) ⟨hx, hb, hml, hown, hts⟩ (c_W_ask l hl0 D ad ka sa H.size t ho (xs (nI i + 1).toNatClampNeg) (xs (nI i + 2).toNatClampNeg) (xs (nI i + 3).toNatClampNeg) qo kl f) (vx_cwSW 5 hts (gsw mw_194 mw_195 mw_0 mw_196) rfl rfl rfl (by decide +kernel) ⟨Nat.le_of_ble_eq_true rfl, Nat.le_of_ble_eq_true rfl⟩) ⟨PH_blind, fun U hU hW => ⟨rfl, PH_mk hJ hw hK hZ hS hU hW⟩⟩ rfl rfl hl.1 rfl (lv_room (Nat.le_of_ble_eq_true rfl)) d_W_law_144 ⟨(show _ ≤ 601024 by omega), (show _ ≤ 7293034 by omega)⟩) hS (fun q _ h => hJ.ao hS.1 h) (fun q h => hJ.ao hS.1 h) (fun kr zz tq H1 locs ht hvm hq hB hz1 hk1 hS => ?_)
  obtain ⟨t2, f2⟩ := zz
  obtain ⟨n, r, hkn, hn4, hR, hf2⟩ := hq
  have hw : LW D DM ad bd ka kb qo qd kl kd t2 u f2 g H1 := LW_h hJ hw ht hB hk1
  refine lv_istore (lv' := [(6, .int kr), (0, .ref b), (1, .ref (ad 0)), (2, .ref (bd 0)), (3, .ref qo), (4, .ref qd), (5, .int (nI i))]) hx hb d_W_law_147 hl (by decide) rfl (fun ls hl => ?_)
  refine lv_aload_n hx hb d_W_law_149 rfl (lv_at hl 3 rfl) ?_
  refine lv_aload_n hx hb d_W_law_150 rfl (lv_at hl 1 rfl) ?_
  refine lv_iload hx hb d_W_law_151 (lv_at hl 6 rfl) ?_
  refine lv_iconst (v := 1) hx hb d_W_law_153 (by decide) ?_
  refine lv_iadd hx hb d_W_law_154 ?_
  refine va_sld (A := fun q => s.heap.size ≤ q) hx hb hX hbl hbA hS (vi_in (k := 1) rfl (by omega) hL) d_W_law_155 ?_
  refine lv_aload_n hx hb d_W_law_156 rfl (lv_at hl 1 rfl) ?_
  refine lv_iload hx hb d_W_law_157 (lv_at hl 6 rfl) ?_
  refine lv_iconst (v := 2) hx hb d_W_law_159 (by decide) ?_
  refine lv_iadd hx hb d_W_law_160 ?_
  refine va_sld (A := fun q => s.heap.size ≤ q) hx hb hX hbl hbA hS (vi_in (k := 2) rfl (by omega) hL) d_W_law_161 ?_
  refine lv_aload_n hx hb d_W_law_162 rfl (lv_at hl 1 rfl) ?_
  refine lv_iload hx hb d_W_law_163 (lv_at hl 6 rfl) ?_
  refine lv_iconst (v := 3) hx hb d_W_law_165 (by decide) ?_
  refine lv_iadd hx hb d_W_law_166 ?_
  refine va_sld (A := fun q => s.heap.size ≤ q) hx hb hX hbl hbA hS (vi_in (k := 3) rfl (by omega) hL) d_W_law_167 ?_
  refine va_calli (va_runV (As := [.int (xs (nI i + 1).toNatClampNeg), .int (xs (nI i + 2).toNatClampNeg), .int (xs (nI i + 3).toNatClampNeg)]) (rest := []) ⟨hx, hb, hml, hown, hts⟩ (c_M_ask l DM bd kb H1.size u Bd (by omega) hOD.1 (xs (nI i + 1).toNatClampNeg) (xs (nI i + 2).toNatClampNeg) (xs (nI i + 3).toNatClampNeg)) (cwV 3 hts (gv mw_689 mw_690 mw_691 mw_6 mw_692) rfl rfl rfl (by decide +kernel) ⟨Nat.le_of_ble_eq_true rfl, Nat.le_of_ble_eq_true rfl⟩) ⟨PM_blind, va_recv hK.2.1 hw.2.1 (ci := 0) (q0 := 0) rfl at_M, fun U hU hW => ⟨rfl, LW_pm hJ hw hK hU hW⟩⟩ rfl rfl hl.1 rfl (lv_room (Nat.le_of_ble_eq_true rfl)) d_W_law_168 ⟨(show _ ≤ 601024 by omega), (show _ ≤ 7293034 by omega)⟩) hS (fun q _ h => hJ.am hS.1 h) (fun q h => hJ.am hS.1 h) (fun r2 u2 tq2 H2 locs ht2 hvm2 hR2 hB2 hz2 hk2 hS => ?_)
  have hw := LW_m hJ hw ht2 hB2 hk2
  refine lv_istore (lv' := [(7, .int r2), (6, .int kr), (0, .ref b), (1, .ref (ad 0)), (2, .ref (bd 0)), (3, .ref qo), (4, .ref qd), (5, .int (nI i))]) hx hb d_W_law_171 hl (by decide) rfl (fun ls hl => ?_)
  refine lv_goto (tgt := 957) hx hb d_W_law_173 (by decide) ?_
  refine W.widen (k := 200 + (i + 5)) (n := 3000 + 4 * (i + 5)) (by omega) (by omega) ?_
  exact l_back hx hb (fun ls hl => kk n r t2 r2 u2 hR hR2 _ _ _ _ ls hw hS hl) (lv_sub hl [2, 3, 4, 5, 6, 7] rfl)
set_option maxHeartbeats 4000000 in
set_option maxRecDepth 100000 in
theorem k_confirm (C : LC p l s m meth c b L xs D DM ad bd ka kb sa qo qd kl kd) {i : Nat} (hi : i + 5 ≤ L) {t u : Mem} (ho : OKX t) (hu : MOK u)
    (kk : ∀ (n : Nat) (r : Int32) (t2 : Mem) (r2 : Int32) (u2 : Mem), cfR t (xs (nI i + 1).toNatClampNeg) n r t2 → cfM u (xs (nI i + 1).toNatClampNeg) r2 u2 → ∀ (f : Nat → Int64) (g : Nat → UInt64) (H : Heap) (locs : List Loc) (ls : Array Slot), LW D DM ad bd ka kb qo qd kl kd t2 u2 f g H → va_S (fun q => s.heap.size ≤ q) s.heap H locs → lv_has ls 9 (lvL b ad bd qo qd (i + 5)) → W p l e room_1 s m #[Value.ref b] below meth c H locs (200 + (i + 5)) (3000 + 4 * (i + 5)) Q (F0 m 28 ls [])) :
    ∀ (f : Nat → Int64) (g : Nat → UInt64) (H : Heap) (locs : List Loc) (ls : Array Slot), LW D DM ad bd ka kb qo qd kl kd t u f g H → va_S (fun q => s.heap.size ≤ q) s.heap H locs → lv_has ls 9 (lvL b ad bd qo qd i) → W p l e room_1 s m #[Value.ref b] below meth c H locs (200 + i) (3000 + 4 * i) Q (F0 m 176 ls []) := by
  intro f g H locs ls hw hS hl
  obtain ⟨C0, hL, hl0, hJ, hK, hZ⟩ := C
  obtain ⟨hx, hb, hr, hml, hown, hts0, hX, hbl, hlocks, hgv⟩ := C0
  have hts := lts hts0
  have hbA : ¬ s.heap.size ≤ b := Nat.not_le.mpr hbl
  obtain ⟨Bd, n0, hBd, hOD, hn0, hn, hls, hb1, hb2, hb3, hm7, hm8⟩ := hu
  have hl : lv_has ls 9 [(0, .ref b), (1, .ref (ad 0)), (2, .ref (bd 0)), (3, .ref qo), (4, .ref qd), (5, .int (nI i))] := hl
  refine lv_aload_n hx hb d_W_law_176 rfl (lv_at hl 1 rfl) ?_
  refine lv_aload_n hx hb d_W_law_177 rfl (lv_at hl 0 rfl) ?_
  refine lv_iload hx hb d_W_law_178 (lv_at hl 5 rfl) ?_
  refine lv_iconst (v := 1) hx hb d_W_law_180 (by decide) ?_
  refine lv_iadd hx hb d_W_law_181 ?_
  refine va_sld (A := fun q => s.heap.size ≤ q) hx hb hX hbl hbA hS (vi_in (k := 1) rfl (by omega) hL) d_W_law_182 ?_
  refine lv_aload_n hx hb d_W_law_183 rfl (lv_at hl 3 rfl) ?_
  refine va_calli (vx_runSW (As := [.ref (ad 0), .int (xs (nI i + 1).toNatClampNeg), .ref qo]) (rest := []) ⟨hx, hb, hml, hown, hts⟩ (c_W_confirm l hl0 D ad ka sa H.size t (xs (nI i + 1).toNatClampNeg) qo kl f) (vx_cwSW 3 hts (gsw mw_323 mw_324 mw_0 mw_325) rfl rfl rfl (by decide +kernel) ⟨Nat.le_of_ble_eq_true rfl, Nat.le_of_ble_eq_true rfl⟩) ⟨PH_blind, fun U hU hW => ⟨rfl, PH_mk hJ hw hK hZ hS hU hW⟩⟩ rfl rfl hl.1 rfl (lv_room (Nat.le_of_ble_eq_true rfl)) d_W_law_184 ⟨(show _ ≤ 601024 by omega), (show _ ≤ 7293034 by omega)⟩) hS (fun q _ h => hJ.ao hS.1 h) (fun q h => hJ.ao hS.1 h) (fun kr zz tq H1 locs ht hvm hq hB hz1 hk1 hS => ?_)
  obtain ⟨t2, f2⟩ := zz
  obtain ⟨n, r, hkn, hn4, hR, hf2⟩ := hq
  have hw : LW D DM ad bd ka kb qo qd kl kd t2 u f2 g H1 := LW_h hJ hw ht hB hk1
  refine lv_istore (lv' := [(6, .int kr), (0, .ref b), (1, .ref (ad 0)), (2, .ref (bd 0)), (3, .ref qo), (4, .ref qd), (5, .int (nI i))]) hx hb d_W_law_187 hl (by decide) rfl (fun ls hl => ?_)
  refine lv_aload_n hx hb d_W_law_189 rfl (lv_at hl 3 rfl) ?_
  refine lv_aload_n hx hb d_W_law_190 rfl (lv_at hl 1 rfl) ?_
  refine lv_iload hx hb d_W_law_191 (lv_at hl 6 rfl) ?_
  refine lv_iconst (v := 1) hx hb d_W_law_193 (by decide) ?_
  refine lv_iadd hx hb d_W_law_194 ?_
  refine va_sld (A := fun q => s.heap.size ≤ q) hx hb hX hbl hbA hS (vi_in (k := 1) rfl (by omega) hL) d_W_law_195 ?_
  refine va_calli (va_runV (As := [.int (xs (nI i + 1).toNatClampNeg)]) (rest := []) ⟨hx, hb, hml, hown, hts⟩ (c_M_confirm l DM bd kb H1.size u (xs (nI i + 1).toNatClampNeg)) (cwV 1 hts (gv mw_707 mw_708 mw_709 mw_6 mw_710) rfl rfl rfl (by decide +kernel) ⟨Nat.le_of_ble_eq_true rfl, Nat.le_of_ble_eq_true rfl⟩) ⟨PM_blind, va_recv hK.2.1 hw.2.1 (ci := 0) (q0 := 0) rfl at_M, fun U hU hW => ⟨rfl, LW_pm hJ hw hK hU hW⟩⟩ rfl rfl hl.1 rfl (lv_room (Nat.le_of_ble_eq_true rfl)) d_W_law_196 ⟨(show _ ≤ 601024 by omega), (show _ ≤ 7293034 by omega)⟩) hS (fun q _ h => hJ.am hS.1 h) (fun q h => hJ.am hS.1 h) (fun r2 u2 tq2 H2 locs ht2 hvm2 hR2 hB2 hz2 hk2 hS => ?_)
  have hw := LW_m hJ hw ht2 hB2 hk2
  refine lv_istore (lv' := [(7, .int r2), (6, .int kr), (0, .ref b), (1, .ref (ad 0)), (2, .ref (bd 0)), (3, .ref qo), (4, .ref qd), (5, .int (nI i))]) hx hb d_W_law_199 hl (by decide) rfl (fun ls hl => ?_)
  refine lv_goto (tgt := 957) hx hb d_W_law_201 (by decide) ?_
  refine W.widen (k := 200 + (i + 5)) (n := 3000 + 4 * (i + 5)) (by omega) (by omega) ?_
  exact l_back hx hb (fun ls hl => kk n r t2 r2 u2 hR hR2 _ _ _ _ ls hw hS hl) (lv_sub hl [2, 3, 4, 5, 6, 7] rfl)
set_option maxHeartbeats 4000000 in
set_option maxRecDepth 100000 in
theorem k_leave (C : LC p l s m meth c b L xs D DM ad bd ka kb sa qo qd kl kd) {i : Nat} (hi : i + 5 ≤ L) {t u : Mem} (ho : OKX t) (hu : MOK u)
    (kk : ∀ (n : Nat) (r : Int32) (t2 : Mem) (r2 : Int32) (u2 : Mem), leaveR t (xs (nI i + 1).toNatClampNeg) (xs (nI i + 2).toNatClampNeg) = (n, r, t2) → mLeave u (xs (nI i + 1).toNatClampNeg) (xs (nI i + 2).toNatClampNeg) = (r2, u2) → ∀ (f : Nat → Int64) (g : Nat → UInt64) (H : Heap) (locs : List Loc) (ls : Array Slot), LW D DM ad bd ka kb qo qd kl kd t2 u2 f g H → va_S (fun q => s.heap.size ≤ q) s.heap H locs → lv_has ls 9 (lvL b ad bd qo qd (i + 5)) → W p l e room_1 s m #[Value.ref b] below meth c H locs (200 + (i + 5)) (3000 + 4 * (i + 5)) Q (F0 m 28 ls [])) :
    ∀ (f : Nat → Int64) (g : Nat → UInt64) (H : Heap) (locs : List Loc) (ls : Array Slot), LW D DM ad bd ka kb qo qd kl kd t u f g H → va_S (fun q => s.heap.size ≤ q) s.heap H locs → lv_has ls 9 (lvL b ad bd qo qd i) → W p l e room_1 s m #[Value.ref b] below meth c H locs (200 + i) (3000 + 4 * i) Q (F0 m 204 ls []) := by
  intro f g H locs ls hw hS hl
  obtain ⟨C0, hL, hl0, hJ, hK, hZ⟩ := C
  obtain ⟨hx, hb, hr, hml, hown, hts0, hX, hbl, hlocks, hgv⟩ := C0
  have hts := lts hts0
  have hbA : ¬ s.heap.size ≤ b := Nat.not_le.mpr hbl
  obtain ⟨Bd, n0, hBd, hOD, hn0, hn, hls, hb1, hb2, hb3, hm7, hm8⟩ := hu
  have hl : lv_has ls 9 [(0, .ref b), (1, .ref (ad 0)), (2, .ref (bd 0)), (3, .ref qo), (4, .ref qd), (5, .int (nI i))] := hl
  refine lv_aload_n hx hb d_W_law_204 rfl (lv_at hl 1 rfl) ?_
  refine lv_aload_n hx hb d_W_law_205 rfl (lv_at hl 0 rfl) ?_
  refine lv_iload hx hb d_W_law_206 (lv_at hl 5 rfl) ?_
  refine lv_iconst (v := 1) hx hb d_W_law_208 (by decide) ?_
  refine lv_iadd hx hb d_W_law_209 ?_
  refine va_sld (A := fun q => s.heap.size ≤ q) hx hb hX hbl hbA hS (vi_in (k := 1) rfl (by omega) hL) d_W_law_210 ?_
  refine lv_aload_n hx hb d_W_law_211 rfl (lv_at hl 0 rfl) ?_
  refine lv_iload hx hb d_W_law_212 (lv_at hl 5 rfl) ?_
  refine lv_iconst (v := 2) hx hb d_W_law_214 (by decide) ?_
  refine lv_iadd hx hb d_W_law_215 ?_
  refine va_sld (A := fun q => s.heap.size ≤ q) hx hb hX hbl hbA hS (vi_in (k := 2) rfl (by omega) hL) d_W_law_216 ?_
  refine lv_aload_n hx hb d_W_law_217 rfl (lv_at hl 3 rfl) ?_
  refine va_calli (vx_runSW (As := [.ref (ad 0), .int (xs (nI i + 1).toNatClampNeg), .int (xs (nI i + 2).toNatClampNeg), .ref qo]) (rest := []) ⟨hx, hb, hml, hown, hts⟩ (c_W_leave l hl0 D ad ka sa H.size t (xs (nI i + 1).toNatClampNeg) (xs (nI i + 2).toNatClampNeg) qo kl f) (vx_cwSW 4 hts (gsw mw_351 mw_352 mw_0 mw_353) rfl rfl rfl (by decide +kernel) ⟨Nat.le_of_ble_eq_true rfl, Nat.le_of_ble_eq_true rfl⟩) ⟨PH_blind, fun U hU hW => ⟨rfl, PH_mk hJ hw hK hZ hS hU hW⟩⟩ rfl rfl hl.1 rfl (lv_room (Nat.le_of_ble_eq_true rfl)) d_W_law_218 ⟨(show _ ≤ 601024 by omega), (show _ ≤ 7293034 by omega)⟩) hS (fun q _ h => hJ.ao hS.1 h) (fun q h => hJ.ao hS.1 h) (fun kr zz tq H1 locs ht hvm hq hB hz1 hk1 hS => ?_)
  obtain ⟨t2, f2⟩ := zz
  obtain ⟨n, r, hkn, hn4, hR, hf2⟩ := hq
  have hw : LW D DM ad bd ka kb qo qd kl kd t2 u f2 g H1 := LW_h hJ hw ht hB hk1
  refine lv_istore (lv' := [(6, .int kr), (0, .ref b), (1, .ref (ad 0)), (2, .ref (bd 0)), (3, .ref qo), (4, .ref qd), (5, .int (nI i))]) hx hb d_W_law_221 hl (by decide) rfl (fun ls hl => ?_)
  refine lv_aload_n hx hb d_W_law_223 rfl (lv_at hl 3 rfl) ?_
  refine lv_aload_n hx hb d_W_law_224 rfl (lv_at hl 1 rfl) ?_
  refine lv_iload hx hb d_W_law_225 (lv_at hl 6 rfl) ?_
  refine lv_iconst (v := 1) hx hb d_W_law_227 (by decide) ?_
  refine lv_iadd hx hb d_W_law_228 ?_
  refine va_sld (A := fun q => s.heap.size ≤ q) hx hb hX hbl hbA hS (vi_in (k := 1) rfl (by omega) hL) d_W_law_229 ?_
  refine lv_aload_n hx hb d_W_law_230 rfl (lv_at hl 1 rfl) ?_
  refine lv_iload hx hb d_W_law_231 (lv_at hl 6 rfl) ?_
  refine lv_iconst (v := 2) hx hb d_W_law_233 (by decide) ?_
  refine lv_iadd hx hb d_W_law_234 ?_
  refine va_sld (A := fun q => s.heap.size ≤ q) hx hb hX hbl hbA hS (vi_in (k := 2) rfl (by omega) hL) d_W_law_235 ?_
  refine va_calli (va_runV (As := [.int (xs (nI i + 1).toNatClampNeg), .int (xs (nI i + 2).toNatClampNeg)]) (rest := []) ⟨hx, hb, hml, hown, hts⟩ (c_M_leave l DM bd kb H1.size u (xs (nI i + 1).toNatClampNeg) (xs (nI i + 2).toNatClampNeg)) (cwV 2 hts (gv mw_711 mw_712 mw_713 mw_6 mw_714) rfl rfl rfl (by decide +kernel) ⟨Nat.le_of_ble_eq_true rfl, Nat.le_of_ble_eq_true rfl⟩) ⟨PM_blind, va_recv hK.2.1 hw.2.1 (ci := 0) (q0 := 0) rfl at_M, fun U hU hW => ⟨rfl, LW_pm hJ hw hK hU hW⟩⟩ rfl rfl hl.1 rfl (lv_room (Nat.le_of_ble_eq_true rfl)) d_W_law_236 ⟨(show _ ≤ 601024 by omega), (show _ ≤ 7293034 by omega)⟩) hS (fun q _ h => hJ.am hS.1 h) (fun q h => hJ.am hS.1 h) (fun r2 u2 tq2 H2 locs ht2 hvm2 hR2 hB2 hz2 hk2 hS => ?_)
  have hw := LW_m hJ hw ht2 hB2 hk2
  refine lv_istore (lv' := [(7, .int r2), (6, .int kr), (0, .ref b), (1, .ref (ad 0)), (2, .ref (bd 0)), (3, .ref qo), (4, .ref qd), (5, .int (nI i))]) hx hb d_W_law_239 hl (by decide) rfl (fun ls hl => ?_)
  refine lv_goto (tgt := 957) hx hb d_W_law_241 (by decide) ?_
  refine W.widen (k := 200 + (i + 5)) (n := 3000 + 4 * (i + 5)) (by omega) (by omega) ?_
  exact l_back hx hb (fun ls hl => kk n r t2 r2 u2 hR hR2 _ _ _ _ ls hw hS hl) (lv_sub hl [2, 3, 4, 5, 6, 7] rfl)
set_option maxHeartbeats 4000000 in
set_option maxRecDepth 100000 in
theorem k_way (C : LC p l s m meth c b L xs D DM ad bd ka kb sa qo qd kl kd) {i : Nat} (hi : i + 5 ≤ L) {t u : Mem} (ho : OKX t) (hu : MOK u)
    (kk : ∀ (n : Nat) (r : Int32) (t2 : Mem) (r2 : Int32) (u2 : Mem), wayR t (xs (nI i + 1).toNatClampNeg) (xs (nI i + 2).toNatClampNeg) (xs (nI i + 3).toNatClampNeg) = (n, r, t2) → mWay u (xs (nI i + 1).toNatClampNeg) (xs (nI i + 2).toNatClampNeg) (xs (nI i + 3).toNatClampNeg) = (r2, u2) → ∀ (f : Nat → Int64) (g : Nat → UInt64) (H : Heap) (locs : List Loc) (ls : Array Slot), LW D DM ad bd ka kb qo qd kl kd t2 u2 f g H → va_S (fun q => s.heap.size ≤ q) s.heap H locs → lv_has ls 9 (lvL b ad bd qo qd (i + 5)) → W p l e room_1 s m #[Value.ref b] below meth c H locs (200 + (i + 5)) (3000 + 4 * (i + 5)) Q (F0 m 28 ls [])) :
    ∀ (f : Nat → Int64) (g : Nat → UInt64) (H : Heap) (locs : List Loc) (ls : Array Slot), LW D DM ad bd ka kb qo qd kl kd t u f g H → va_S (fun q => s.heap.size ≤ q) s.heap H locs → lv_has ls 9 (lvL b ad bd qo qd i) → W p l e room_1 s m #[Value.ref b] below meth c H locs (200 + i) (3000 + 4 * i) Q (F0 m 244 ls []) := by
  intro f g H locs ls hw hS hl
  obtain ⟨C0, hL, hl0, hJ, hK, hZ⟩ := C
  obtain ⟨hx, hb, hr, hml, hown, hts0, hX, hbl, hlocks, hgv⟩ := C0
  have hts := lts hts0
  have hbA : ¬ s.heap.size ≤ b := Nat.not_le.mpr hbl
  obtain ⟨Bd, n0, hBd, hOD, hn0, hn, hls, hb1, hb2, hb3, hm7, hm8⟩ := hu
  have hl : lv_has ls 9 [(0, .ref b), (1, .ref (ad 0)), (2, .ref (bd 0)), (3, .ref qo), (4, .ref qd), (5, .int (nI i))] := hl
  refine lv_aload_n hx hb d_W_law_244 rfl (lv_at hl 1 rfl) ?_
  refine lv_aload_n hx hb d_W_law_245 rfl (lv_at hl 0 rfl) ?_
  refine lv_iload hx hb d_W_law_246 (lv_at hl 5 rfl) ?_
  refine lv_iconst (v := 1) hx hb d_W_law_248 (by decide) ?_
  refine lv_iadd hx hb d_W_law_249 ?_
  refine va_sld (A := fun q => s.heap.size ≤ q) hx hb hX hbl hbA hS (vi_in (k := 1) rfl (by omega) hL) d_W_law_250 ?_
  refine lv_aload_n hx hb d_W_law_251 rfl (lv_at hl 0 rfl) ?_
  refine lv_iload hx hb d_W_law_252 (lv_at hl 5 rfl) ?_
  refine lv_iconst (v := 2) hx hb d_W_law_254 (by decide) ?_
  refine lv_iadd hx hb d_W_law_255 ?_
  refine va_sld (A := fun q => s.heap.size ≤ q) hx hb hX hbl hbA hS (vi_in (k := 2) rfl (by omega) hL) d_W_law_256 ?_
  refine lv_aload_n hx hb d_W_law_257 rfl (lv_at hl 0 rfl) ?_
  refine lv_iload hx hb d_W_law_258 (lv_at hl 5 rfl) ?_
  refine lv_iconst (v := 3) hx hb d_W_law_260 (by decide) ?_
  refine lv_iadd hx hb d_W_law_261 ?_
  refine va_sld (A := fun q => s.heap.size ≤ q) hx hb hX hbl hbA hS (vi_in (k := 3) rfl (by omega) hL) d_W_law_262 ?_
  refine lv_aload_n hx hb d_W_law_263 rfl (lv_at hl 3 rfl) ?_
  refine va_calli (vx_runSW (As := [.ref (ad 0), .int (xs (nI i + 1).toNatClampNeg), .int (xs (nI i + 2).toNatClampNeg), .int (xs (nI i + 3).toNatClampNeg), .ref qo]) (rest := []) ⟨hx, hb, hml, hown, hts⟩ (c_W_way l hl0 D ad ka sa H.size t (xs (nI i + 1).toNatClampNeg) (xs (nI i + 2).toNatClampNeg) (xs (nI i + 3).toNatClampNeg) qo kl f) (vx_cwSW 5 hts (gsw mw_367 mw_368 mw_0 mw_369) rfl rfl rfl (by decide +kernel) ⟨Nat.le_of_ble_eq_true rfl, Nat.le_of_ble_eq_true rfl⟩) ⟨PH_blind, fun U hU hW => ⟨rfl, PH_mk hJ hw hK hZ hS hU hW⟩⟩ rfl rfl hl.1 rfl (lv_room (Nat.le_of_ble_eq_true rfl)) d_W_law_264 ⟨(show _ ≤ 601024 by omega), (show _ ≤ 7293034 by omega)⟩) hS (fun q _ h => hJ.ao hS.1 h) (fun q h => hJ.ao hS.1 h) (fun kr zz tq H1 locs ht hvm hq hB hz1 hk1 hS => ?_)
  obtain ⟨t2, f2⟩ := zz
  obtain ⟨n, r, hkn, hn4, hR, hf2⟩ := hq
  have hw : LW D DM ad bd ka kb qo qd kl kd t2 u f2 g H1 := LW_h hJ hw ht hB hk1
  refine lv_istore (lv' := [(6, .int kr), (0, .ref b), (1, .ref (ad 0)), (2, .ref (bd 0)), (3, .ref qo), (4, .ref qd), (5, .int (nI i))]) hx hb d_W_law_267 hl (by decide) rfl (fun ls hl => ?_)
  refine lv_aload_n hx hb d_W_law_269 rfl (lv_at hl 3 rfl) ?_
  refine lv_aload_n hx hb d_W_law_270 rfl (lv_at hl 1 rfl) ?_
  refine lv_iload hx hb d_W_law_271 (lv_at hl 6 rfl) ?_
  refine lv_iconst (v := 1) hx hb d_W_law_273 (by decide) ?_
  refine lv_iadd hx hb d_W_law_274 ?_
  refine va_sld (A := fun q => s.heap.size ≤ q) hx hb hX hbl hbA hS (vi_in (k := 1) rfl (by omega) hL) d_W_law_275 ?_
  refine lv_aload_n hx hb d_W_law_276 rfl (lv_at hl 1 rfl) ?_
  refine lv_iload hx hb d_W_law_277 (lv_at hl 6 rfl) ?_
  refine lv_iconst (v := 2) hx hb d_W_law_279 (by decide) ?_
  refine lv_iadd hx hb d_W_law_280 ?_
  refine va_sld (A := fun q => s.heap.size ≤ q) hx hb hX hbl hbA hS (vi_in (k := 2) rfl (by omega) hL) d_W_law_281 ?_
  refine lv_aload_n hx hb d_W_law_282 rfl (lv_at hl 1 rfl) ?_
  refine lv_iload hx hb d_W_law_283 (lv_at hl 6 rfl) ?_
  refine lv_iconst (v := 3) hx hb d_W_law_285 (by decide) ?_
  refine lv_iadd hx hb d_W_law_286 ?_
  refine va_sld (A := fun q => s.heap.size ≤ q) hx hb hX hbl hbA hS (vi_in (k := 3) rfl (by omega) hL) d_W_law_287 ?_
  refine va_calli (va_runV (As := [.int (xs (nI i + 1).toNatClampNeg), .int (xs (nI i + 2).toNatClampNeg), .int (xs (nI i + 3).toNatClampNeg)]) (rest := []) ⟨hx, hb, hml, hown, hts⟩ (c_M_way l DM bd kb H1.size u (xs (nI i + 1).toNatClampNeg) (xs (nI i + 2).toNatClampNeg) (xs (nI i + 3).toNatClampNeg)) (cwV 3 hts (gv mw_715 mw_716 mw_717 mw_6 mw_718) rfl rfl rfl (by decide +kernel) ⟨Nat.le_of_ble_eq_true rfl, Nat.le_of_ble_eq_true rfl⟩) ⟨PM_blind, va_recv hK.2.1 hw.2.1 (ci := 0) (q0 := 0) rfl at_M, fun U hU hW => ⟨rfl, LW_pm hJ hw hK hU hW⟩⟩ rfl rfl hl.1 rfl (lv_room (Nat.le_of_ble_eq_true rfl)) d_W_law_288 ⟨(show _ ≤ 601024 by omega), (show _ ≤ 7293034 by omega)⟩) hS (fun q _ h => hJ.am hS.1 h) (fun q h => hJ.am hS.1 h) (fun r2 u2 tq2 H2 locs ht2 hvm2 hR2 hB2 hz2 hk2 hS => ?_)
  have hw := LW_m hJ hw ht2 hB2 hk2
  refine lv_istore (lv' := [(7, .int r2), (6, .int kr), (0, .ref b), (1, .ref (ad 0)), (2, .ref (bd 0)), (3, .ref qo), (4, .ref qd), (5, .int (nI i))]) hx hb d_W_law_291 hl (by decide) rfl (fun ls hl => ?_)
  refine lv_goto (tgt := 957) hx hb d_W_law_293 (by decide) ?_
  refine W.widen (k := 200 + (i + 5)) (n := 3000 + 4 * (i + 5)) (by omega) (by omega) ?_
  exact l_back hx hb (fun ls hl => kk n r t2 r2 u2 hR hR2 _ _ _ _ ls hw hS hl) (lv_sub hl [2, 3, 4, 5, 6, 7] rfl)
end LCS
