set_option maxHeartbeats 4000000 in
set_option maxRecDepth 100000 in
theorem law_start {p : Program} {e : Env} {s : State} {m : MethodId} {below : List Frame} {meth : Method} {c : Code} (l : Launch) (hl0 : l.stackTraces = false) {b L : Nat} {xs : Nat → Int32} (hL : L ≤ 2560) (C0 : lw_At p s m meth c b L xs) {RI : Nat → Mem → Mem → Prop} (hST : STEPS RI L) (hR0 : RI 0 t0 (u0j 36)) : W p l e room_1 s m #[Value.ref b] below meth c s.heap [] 0 0 (lw_Z below #[Value.ref b] s) (entryFrame m ([Value.ref b] : List Value).toArray 9) := by
  obtain ⟨hx, hb, hr, hml, hown, hts0, hX, hbl, hlocks, hgv⟩ := id C0
  have hts := lts hts0
  have hAL : va_AO "ListForge$MailingList" s := va_AO.of (hts0 _ (List.mem_append_right _ (List.mem_of_getElem? (i := 24) (by decide +kernel))))
  have hAS : va_AO "ListForge$Subscription" s := va_AO.of (hts0 _ (List.mem_append_right _ (List.mem_of_getElem? (i := 31) (by decide +kernel))))
  have hAP : va_AO "ListForge$Post" s := va_AO.of (hts0 _ (List.mem_append_right _ (List.mem_of_getElem? (i := 119) (by decide +kernel))))
  have hNw : va_Nw (.methodLinkNest "ListForge" 24 y_P_init "ListForge") s := va_Nw.of rfl (hts0 _ (List.mem_append_right _ (List.mem_of_getElem? (i := 121) (by decide +kernel))))
  obtain ⟨D, DM, ka, kb, hKc, hKm⟩ := K_of hts0 hAL hAS hAP
  obtain ⟨sa, hZ⟩ := Z_of hts0 hgv
  have hl := lv_entry ([.ref b]) (n := 9) (Nat.le_of_ble_eq_true rfl)
  rw [lg_entry_eq]
  generalize (lg_sl ([.ref b]) ++ List.replicate (9 - (lg_sl ([.ref b])).length) Slot.unset).toArray = ls at hl ⊢
  have hl : lv_has ls 9 [(0, .ref b)] := hl
  have hS : va_S (fun q : Nat => s.heap.size ≤ q) s.heap s.heap [] := va_S.rf
  refine va_new (cl := cls) (D := D) (ws := []) (ci := 4) (fs := zF) (C := "ListForge") (T := T_F) (N := 6) hx hb hts in_F t_F t_F_ok hown (bg hts mw_15) (bg hts mw_16) (bg hts mw_1) hKc (fun k q h => by simp at h) (A := fun q : Nat => s.heap.size ≤ q) ⟨fun i j p q h => by simp at h, fun k q h => by simp at h⟩ hS (fun _ h => h) rfl (fun k hk => by rcases (show k = 0 ∨ k = 1 ∨ k = 2 ∨ k = 3 ∨ k = 4 ∨ k = 5 by omega) with rfl | rfl | rfl | rfl | rfl | rfl <;> rfl) (Nat.le_of_ble_eq_true rfl) (Nat.le_of_ble_eq_true rfl) d_W_law_0 (fun qf H hP hD hS => ?_)
  refine lv_dup hx hb d_W_law_3 rfl ?_
  have hFc : ∀ z, va_A ([] ++ [(qf, .inr (4, zF))]) H.size z → s.heap.size ≤ z := fun z h => h.elim (fun ⟨k, e, hk⟩ => hD.2 k _ hk) (fun h => Nat.le_trans hS.1 h)
  refine va_callv (va_runI (As := []) (rest := [.ref qf]) ⟨hx, hb, hml, hown, hts⟩ (c_F_init l D ka qf H.size []) (cwI 0 hts (gi_c mw_19 gi_0) rfl rfl rfl (bg hts mw_1) (bg hts mw_17) (bg hts mw_18) rfl (by decide +kernel) ⟨(Nat.le_of_ble_eq_true rfl), (Nat.le_of_ble_eq_true rfl)⟩) ⟨fun a U g mk q => by obtain ⟨q0, ⟨a1, a2, a3, a4⟩, q1, qP, qK, qD⟩ := q; exact ⟨q0, ⟨va_AO.moved (u := U) (U := U.calling g mk a) (Vm.Alike.refl U.vm) a1, va_AO.moved (u := U) (U := U.calling g mk a) (Vm.Alike.refl U.vm) a2, va_AO.moved (u := U) (U := U.calling g mk a) (Vm.Alike.refl U.vm) a3, va_Nw.same rfl (u := U) rfl a4⟩, q1, qP, va_K.moved (u := U) (U := U.calling g mk a) (Vm.Alike.refl U.vm) qK, qD⟩, fun U hU hW => ⟨rfl, ⟨va_AO.moved hW.alike hAL, va_AO.moved hW.alike hAS, va_AO.moved hW.alike hAP, va_Nw.warmM hW hNw⟩, by rw [hU], by rw [hU]; exact hP, va_K.moved hW.alike hKc, hD.weaken (fun _ _ _ _ => trivial)⟩⟩ rfl rfl hl.1 rfl (lv_room (Nat.le_of_ble_eq_true rfl)) d_W_law_4 ⟨(Nat.le_of_ble_eq_true rfl), (Nat.le_of_ble_eq_true rfl)⟩) hS (fun q _ h => hFc q h) hFc (fun wq t H1 locs ht hvm hwq hB hz1 hk1 hS => ?_)
  obtain ⟨hP1, hK1, hD1⟩ := hB
  obtain ⟨ql, qp, qb, q0, q1, q2, q3, Bk, a, rfl⟩ := hwq
  rw [ht] at hP1
  obtain ⟨hPc, hDc⟩ := cw_of (A := fun q : Nat => s.heap.size ≤ q) (h0 := qf) hP1 ⟨hD1.1, fun k z hk => hFc _ (hD1.2 k z hk)⟩
  obtain ⟨ad, hadE⟩ : ∃ ad, ad = adF qf ql qp qb q0 q1 q2 q3 Bk a := ⟨_, rfl⟩
  rw [← hadE] at hPc hDc
  have h00 : qf = ad 0 := by rw [hadE]; rfl
  refine lv_astore_n (lv' := [(1, .ref qf), (0, .ref b)]) hx hb d_W_law_7 rfl hl (by decide) rfl (fun ls hl => ?_)
  rw [h00] at hl
  refine va_forget (fun q hq => hS.2.2 q hq) ?_
  have hsz1 : s.heap.size ≤ H1.size := hS.1
  have hs1 : ∀ q : Nat, q < s.heap.size → H1[q]? = s.heap[q]? := fun q h => hS.2.1 q h (Nat.not_le.mpr h)
  refine va_new (cl := clm) (D := DM) (ws := []) (ci := 0) (fs := zM) (C := "ListForgeModel") (T := T_M) (N := 31) hx hb hts in_M t_M t_M_ok hown (bg hts mw_583) (bg hts mw_584) (bg hts mw_6) hKm (fun k q h => by simp at h) (A := fun q : Nat => H1.size ≤ q) ⟨fun i j p q h => by simp at h, fun k q h => by simp at h⟩ (va_S.rf (H0 := H1)) (fun _ h => h) rfl (fun k hk => by rcases (show k = 0 ∨ k = 1 ∨ k = 2 ∨ k = 3 ∨ k = 4 ∨ k = 5 ∨ k = 6 ∨ k = 7 ∨ k = 8 ∨ k = 9 ∨ k = 10 ∨ k = 11 ∨ k = 12 ∨ k = 13 ∨ k = 14 ∨ k = 15 ∨ k = 16 ∨ k = 17 ∨ k = 18 ∨ k = 19 ∨ k = 20 ∨ k = 21 ∨ k = 22 ∨ k = 23 ∨ k = 24 ∨ k = 25 ∨ k = 26 ∨ k = 27 ∨ k = 28 ∨ k = 29 ∨ k = 30 by omega) with rfl | rfl | rfl | rfl | rfl | rfl | rfl | rfl | rfl | rfl | rfl | rfl | rfl | rfl | rfl | rfl | rfl | rfl | rfl | rfl | rfl | rfl | rfl | rfl | rfl | rfl | rfl | rfl | rfl | rfl | rfl <;> rfl) (Nat.le_of_ble_eq_true rfl) (Nat.le_of_ble_eq_true rfl) d_W_law_8 (fun qm H2 hPm hDm hS2 => ?_)
  refine lv_dup hx hb d_W_law_11 rfl ?_
  have hFm : ∀ z, va_A ([(qm, .inr (0, zM))]) H2.size z → H1.size ≤ z := fun z h => h.elim (fun ⟨k, e, hk⟩ => hDm.2 k _ hk) (fun h => Nat.le_trans hS2.1 h)
  refine va_callv (va_runI (As := []) (rest := [.ref qm]) ⟨hx, hb, hml, hown, hts⟩ (c_M_init l DM kb qm H2.size) (cwI 0 hts (gi_c mw_587 gi_0) rfl rfl rfl (bg hts mw_6) (bg hts mw_585) (bg hts mw_586) rfl (by decide +kernel) ⟨(Nat.le_of_ble_eq_true rfl), (Nat.le_of_ble_eq_true rfl)⟩) ⟨fun a U g mk q => by obtain ⟨q0, q1, qP, qK, qD⟩ := q; exact ⟨q0, q1, qP, va_K.moved (u := U) (U := U.calling g mk a) (Vm.Alike.refl U.vm) qK, qD⟩, fun U hU hW => ⟨rfl, by rw [hU], by rw [hU]; exact hPm, va_K.moved hW.alike hKm, hDm.weaken (fun _ _ _ _ => trivial)⟩⟩ rfl rfl hl.1 rfl (lv_room (Nat.le_of_ble_eq_true rfl)) d_W_law_12 ⟨(Nat.le_of_ble_eq_true rfl), (Nat.le_of_ble_eq_true rfl)⟩) hS2 (fun q _ h => hFm q h) hFm (fun bd t H3 locs ht3 hvm3 hw3 hB3 hz3 hk3 hS3 => ?_)
  obtain ⟨hPm3, hKm3, hDm3⟩ := hB3
  rw [ht3] at hPm3
  refine lv_astore_n (lv' := [(2, .ref qm), (1, .ref (ad 0)), (0, .ref b)]) hx hb d_W_law_15 rfl hl (by decide) rfl (fun ls hl => ?_)
  rw [← hw3] at hl
  refine va_forget (fun q hq => Nat.le_trans hsz1 (hS3.2.2 q hq)) ?_
  have hs3 : ∀ q : Nat, q < H1.size → H3[q]? = H1[q]? := fun q h => hS3.2.1 q h (Nat.not_le.mpr h)
  have hsz3 : H1.size ≤ H3.size := hS3.1
  refine lv_iconst (v := 1) hx hb d_W_law_16 (by decide) ?_
  refine va_newa (D := D) (cl := cls) (tys := []) (ws := []) (A := fun q : Nat => H3.size ≤ q) (atype := .long) (ty := .long) hx hb (bg hts mw_792) rfl ⟨hKc.1, fun k q h => by simp at h⟩ (fun k q h => by simp at h) ⟨fun i j p q h => by simp at h, fun k q h => by simp at h⟩ (va_S.rf (H0 := H3)) (fun _ h => h) (N' := 1) (a0 := (1, .inr (.inl (fun _ => 0)))) (fun cA => rfl) (by decide) (by decide) (by decide) (Nat.le_of_ble_eq_true rfl) (Nat.le_of_ble_eq_true rfl) d_W_law_17 (fun qo kl H4 hKl hPo hDo hS4 => ?_)
  refine lv_astore_n (lv' := [(3, .ref qo), (2, .ref (bd 0)), (1, .ref (ad 0)), (0, .ref b)]) hx hb d_W_law_19 rfl hl (by decide) rfl (fun ls hl => ?_)
  refine lv_iconst (v := 1) hx hb d_W_law_20 (by decide) ?_
  refine va_newa (D := D) (cl := cls) (tys := []) (ws := []) (A := fun q : Nat => H4.size ≤ q) (atype := .double) (ty := .double) hx hb (bg hts mw_684) rfl ⟨hKc.1, fun k q h => by simp at h⟩ (fun k q h => by simp at h) ⟨fun i j p q h => by simp at h, fun k q h => by simp at h⟩ (va_S.rf (H0 := H4)) (fun _ h => h) (N' := 1) (a0 := (1, .inr (.inr (.inr (.inl (fun _ => 0)))))) (fun cA => rfl) (by decide) (by decide) (by decide) (Nat.le_of_ble_eq_true rfl) (Nat.le_of_ble_eq_true rfl) d_W_law_21 (fun qd kd H5 hKd hPd hDd hS5 => ?_)
  refine lv_astore (lv' := [(4, .ref qd), (3, .ref qo), (2, .ref (bd 0)), (1, .ref (ad 0)), (0, .ref b)]) hx hb d_W_law_23 hl (by decide) rfl (fun ls hl => ?_)
  refine lv_iconst (v := 0) hx hb d_W_law_25 (by decide) ?_
  refine lv_istore (lv' := [(5, .int 0), (4, .ref qd), (3, .ref qo), (2, .ref (bd 0)), (1, .ref (ad 0)), (0, .ref b)]) hx hb d_W_law_26 hl (by decide) rfl (fun ls hl => ?_)
  have hs4 : ∀ q : Nat, q < H3.size → H4[q]? = H3[q]? := fun q h => hS4.2.1 q h (Nat.not_le.mpr h)
  have hsz4 : H3.size ≤ H4.size := hS4.1
  have hs5 : ∀ q : Nat, q < H4.size → H5[q]? = H4[q]? := fun q h => hS5.2.1 q h (Nat.not_le.mpr h)
  have hsz5 : H4.size ≤ H5.size := hS5.1
  have hPo : va_P D cls [(qo, .inl (kl, oL (fun _ => 0)))] H4 := hPo
  have hPd : va_P D cls [(qd, .inl (kd, oD (fun _ => 0)))] H5 := hPd
  have lo3 : H3.size ≤ qo := hDo.2 0 _ rfl
  have lo4 : qo < H4.size := (hPo 0 _ rfl).lt
  have ld4 : H4.size ≤ qd := hDd.2 0 _ rfl
  have la : ∀ i, i < 96 → s.heap.size ≤ ad i ∧ ad i < H1.size := fun i hi => ⟨hDc.2 i _ (fw_at hi), (hPc i _ (fw_at hi)).lt⟩
  have lb : ∀ i, i < 27 → H1.size ≤ bd i ∧ bd i < H3.size := fun i hi => ⟨hFm _ (hDm3.2 i _ (fw_at hi)), (hPm3 i _ (fw_at hi)).lt⟩
  have hJ : LJ s.heap.size ad bd qo qd := by
    refine ⟨fun i hi => ?_, fun j hj => ?_, ⟨by omega, by omega, by omega⟩, fun i j hi hj e => hDc.1 i j _ _ (fw_at hi) (fw_at hj) e, fun i j hi hj e => hDm3.1 i j _ _ (fw_at hi) (fw_at hj) e⟩
    · have h1 := la i hi
      refine ⟨h1.1, by omega, by omega, fun j hj => ?_⟩
      have h2 := lb j hj
      omega
    · have h2 := lb j hj
      exact ⟨by omega, by omega, by omega⟩
  have hw : LW D DM ad bd ka kb qo qd kl kd t0 (u0j 36) (fun _ => 0) (fun _ => 0) H5 := by
    refine ⟨hPc.kept (fun k q hk => ?_), hPm3.kept (fun k q hk => ?_), hPo.kept (fun k q hk => ?_), hPd⟩
    · have h1 := (hPc k q hk).lt
      rw [hs5 q.1 (by omega), hs4 q.1 (by omega), hs3 q.1 h1]
    · have h1 := (hPm3 k q hk).lt
      rw [hs5 q.1 (by omega), hs4 q.1 h1]
    · have h1 := (hPo k q hk).lt
      rw [hs5 q.1 h1]
  have hS9 : va_S (fun q : Nat => s.heap.size ≤ q) s.heap H5 [] := ⟨by omega, fun q h1 _ => by rw [hs5 q (by omega), hs4 q (by omega), hs3 q (by omega), hs1 q h1], fun _ h => absurd h List.not_mem_nil⟩
  refine W.widen (k := 200 + 0) (n := 3000 + 4 * 0) (by decide) (by decide) ?_
  exact law_loop (xs := xs) (sa := sa) ⟨C0, hL, hl0, hJ, ⟨hKc, hKm, hKl, hKd⟩, hZ⟩ hST (L + 1) 0 t0 (u0j 36) _ _ H5 [] ls (Nat.zero_le _) (by omega) hR0 hw hS9 (lv_sub hl [5, 4, 3, 2, 1, 0] rfl)
