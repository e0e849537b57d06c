def isW (n lo hi : Int32) : Int32 := if n < lo then 0 else if hi < n then 0 else 1
def plz (x a : Int32) : Int32 := if isW x 0 2 = 0 then 0 else if isW a 0 11 = 0 then 0 else 1
def PLc (x a : Int32) : Prop := ¬ plz x a = 0
def cl (x : Int32) : Nat := x.toNatClampNeg
def jj (x a : Int32) : Nat := 12 * cl x + cl a
theorem cl_of {x : Int32} {u : Nat} (h : x = nI u) (hu : u < 2 ^ 31) : cl x = u := by rw [h]; exact nI_clamp hu
theorem isW_n {x M : Int32} {n : Nat} (hM : M.toInt = n) (h : ¬ isW x 0 M = 0) : ∃ u : Nat, u < n + 1 ∧ x = nI u := by
  unfold isW at h
  split at h
  · exact absurd rfl h
  · rename_i h1
    split at h
    · exact absurd rfl h
    · rename_i h2
      obtain ⟨j, hj, e⟩ := nI_of2 hM h1 (Int32.not_lt.mp h2)
      exact ⟨j, by omega, e⟩
theorem PL_of {x a : Int32} (h : PLc x a) : ∃ u : Nat, u < 3 ∧ x = nI u ∧ ∃ a0 : Nat, a0 < 12 ∧ a = nI a0 := by
  have h1 : ¬ isW x 0 2 = 0 := fun q => h (by simp [plz, q])
  have h2 : ¬ isW a 0 11 = 0 := fun q => h (by simp [plz, q])
  obtain ⟨u, hu, e⟩ := isW_n (n := 2) (by decide) h1
  obtain ⟨b, hb, e2⟩ := isW_n (n := 11) (by decide) h2
  exact ⟨u, hu, e, b, hb, e2⟩
set_option maxHeartbeats 4000000 in
set_option maxRecDepth 100000 in
theorem c_F_isWithin (l : Launch) (D : va_G) (ad : Nat → Nat) (ka : Nat → ClassId) (sz : Nat) (t : Mem) (n0 lo hi : Int32) : Met l y_F_isWithin (Cond.code y_F_isWithin b_F_isWithin 3 (some .boolean) :: big) ({ frames := 0, cells := 0, slots := 0, locals := 0 }) (va_Pc [.int (n0), .int (lo), .int (hi)] (PX D ad ka sz t)) (va_Qi (fun (r : Int32) (t' : Mem) => r = isW n0 lo hi ∧ t' = t) (BX D ad ka sz) (AX ad sz)) 0 0 (AX ad sz) := by
  refine Met.ofW (cc := b_F_isWithin) (maxL := 3) (ret := (some .boolean)) (by decide) rfl ?_
  intro p e s m args below meth c s₁ B hml hv
  obtain ⟨rfl, hsz, hP, hK, hD0⟩ := hv
  have hx := B.exec
  have hb := B.bytes
  have hr := B.returns
  have hlocks := B.notSynchronized
  have hts := atoms_spec (ws := Cond.code y_F_isWithin b_F_isWithin 3 (some .boolean) :: big) B.pre
  have hown : s.vm.findClass "ListForge" = some m.cls := findClass_of_methodNamed B.named
  subst hsz
  have hD : va_D (AX ad s.heap.size) (cw ad ka t) := AX_D hD0
  have hS : va_S (AX ad s.heap.size) s.heap s.heap [] := va_S.rf
  have hl := lv_entry ([.int (n0), .int (lo), .int (hi)]) (n := 3) (Nat.le_of_ble_eq_true rfl)
  rw [lg_entry_eq]
  generalize (lg_sl ([.int (n0), .int (lo), .int (hi)]) ++ List.replicate (3 - (lg_sl ([.int (n0), .int (lo), .int (hi)])).length) Slot.unset).toArray = ls at hl ⊢
  have hl : lv_has ls 3 [(0, .int (n0)), (1, .int (lo)), (2, .int (hi))] := hl

  refine lv_iload_n hx hb d_F_isWithin_0 rfl (lv_at hl 0 rfl) ?_
  refine lv_iload_n hx hb d_F_isWithin_1 rfl (lv_at hl 1 rfl) ?_
  refine lv_icmp_lt (tgt := 14) hx hb d_F_isWithin_2 (by decide) (fun c1 => ?_) (fun c1 => ?_)
  · have _u : True := trivial
    refine lv_iconst (v := 0) hx hb d_F_isWithin_14 (by decide) ?_
    exact W.zret (v := 0) hx hb hr rfl (fun t9 ht hW => ⟨⟨0, t, rfl, ⟨by simp [isW, c1], rfl⟩, BX_at ht hW hP hK hD⟩, hS.F ht⟩) hS.2.2 d_F_isWithin_15
  · have _u : True := trivial
    refine lv_iload_n hx hb d_F_isWithin_5 rfl (lv_at hl 0 rfl) ?_
    refine lv_iload_n hx hb d_F_isWithin_6 rfl (lv_at hl 2 rfl) ?_
    refine lv_icmp_gt (tgt := 14) hx hb d_F_isWithin_7 (by decide) (fun c2 => ?_) (fun c2 => ?_)
    · have _u : True := trivial
      refine lv_iconst (v := 0) hx hb d_F_isWithin_14 (by decide) ?_
      exact W.zret (v := 0) hx hb hr rfl (fun t9 ht hW => ⟨⟨0, t, rfl, ⟨by simp [isW, c1, c2], rfl⟩, BX_at ht hW hP hK hD⟩, hS.F ht⟩) hS.2.2 d_F_isWithin_15
    · have _u : True := trivial
      refine lv_iconst (v := 1) hx hb d_F_isWithin_10 (by decide) ?_
      refine lv_goto (tgt := 15) hx hb d_F_isWithin_11 (by decide) ?_
      exact W.zret (v := 1) hx hb hr rfl (fun t9 ht hW => ⟨⟨1, t, rfl, ⟨by simp [isW, c1, c2], rfl⟩, BX_at ht hW hP hK hD⟩, hS.F ht⟩) hS.2.2 d_F_isWithin_15
set_option maxHeartbeats 4000000 in
set_option maxRecDepth 100000 in
theorem c_F_require (l : Launch) (hl0 : l.stackTraces = false) (D : va_G) (ad : Nat → Nat) (ka : Nat → ClassId) (sa : Nat → Nat) (sz : Nat) (t : Mem) (z : Int32) : vx_Met l y_F_require (Cond.code y_F_require b_F_require 1 none :: big) ({ frames := 6, cells := 1, slots := 6, locals := 82 }) (va_Pc [.int (z)] (PZ D ad ka sa sz t)) (va_Qv (fun t' : Mem => t' = t ∧ ¬ z = 0) (BX D ad ka sz) (AX ad sz)) (XT D ad ka sz t (fun E => E = e_IAE ∧ z = 0)) 1 6 (AX ad sz) := by
  refine vx_ofW (cc := b_F_require) (maxL := 1) (ret := none) (by decide) rfl ?_
  intro p e s m args below meth c s₁ B hml hTb hv
  obtain ⟨rfl, ⟨hsz, hP, hK, hD0⟩, hZ⟩ := hv
  have hx := B.exec
  have hb := B.bytes
  have hr := B.returns
  have hlocks := B.notSynchronized
  have hts := atoms_spec (ws := Cond.code y_F_require b_F_require 1 none :: big) B.pre
  have hown : s.vm.findClass "ListForge" = some m.cls := findClass_of_methodNamed B.named
  subst hsz
  have hD : va_D (AX ad s.heap.size) (cw ad ka t) := AX_D hD0
  have hS : va_S (AX ad s.heap.size) s.heap s.heap [] := va_S.rf
  have hl := lv_entry ([.int (z)]) (n := 1) (Nat.le_of_ble_eq_true rfl)
  rw [lg_entry_eq]
  generalize (lg_sl ([.int (z)]) ++ List.replicate (1 - (lg_sl ([.int (z)])).length) Slot.unset).toArray = ls at hl ⊢
  have hl : lv_has ls 1 [(0, .int (z))] := hl

  refine lv_iload_n hx hb d_F_require_0 rfl (lv_at hl 0 rfl) ?_
  refine lv_if_ne (tgt := 14) hx hb d_F_require_1 (by decide) (fun c1 => ?_) (fun c1 => ?_)
  · have _u : True := trivial
    refine vx_ret (W.widen (k := 1) (n := 6) (by decide) (by decide) ?_)
    exact W.vret hx hb hr (fun t9 ht hW => ⟨⟨t, rfl, ⟨rfl, c1⟩, BX_at ht hW hP hK hD⟩, hS.F ht⟩) hS.2.2 d_F_require_14
  · have _u : True := trivial
    exact vx_throwS (names := RTE) (own := "ListForge") (cls := e_IAE) (text := "a number is not as said") hx hb hl0 hown (by decide) (by decide) (bg hts mw_213) (bg hts mw_10) (hZ.2.2.2 (252, "a number is not as said") (by decide)) (hatO hts hZ.1 ag_IAE an_IAE) ao_IAE hZ.2.1 hZ.2.2.1 hS (by rw [hml]; exact hl.1) d_F_require_4 d_F_require_7 d_F_require_8 d_F_require_10 d_F_require_13 (fun x hx9 => (hTb x hx9).elim) (by decide) (Nat.le_of_ble_eq_true rfl) (by decide) (by decide) hlocks (fun t9 a9 z9 k9 => XT_at hP hK hD hS ⟨rfl, c1⟩ a9 z9 k9) (fun z hz => hS.2.2 z hz) (by decide) (by decide)
set_option maxHeartbeats 4000000 in
set_option maxRecDepth 100000 in
theorem c_F_requirePlace (l : Launch) (hl0 : l.stackTraces = false) (D : va_G) (ad : Nat → Nat) (ka : Nat → ClassId) (sa : Nat → Nat) (sz : Nat) (t : Mem) (x a : Int32) : vx_Met l y_F_requirePlace (Cond.code y_F_requirePlace b_F_requirePlace 2 none :: big) ({ frames := 7, cells := 1, slots := 6, locals := 102 }) (va_Pc [.int (x), .int (a)] (PZ D ad ka sa sz t)) (va_Qv (fun t' : Mem => t' = t ∧ PLc x a) (BX D ad ka sz) (AX ad sz)) (XT D ad ka sz t (fun E => E = e_IAE ∧ ¬ PLc x a)) 1 6 (AX ad sz) := by
  refine vx_ofW (cc := b_F_requirePlace) (maxL := 2) (ret := none) (by decide) rfl ?_
  intro p e s m args below meth c s₁ B hml hTb hv
  obtain ⟨rfl, ⟨hsz, hP, hK, hD0⟩, hZ⟩ := hv
  have hx := B.exec
  have hb := B.bytes
  have hr := B.returns
  have hlocks := B.notSynchronized
  have hts := atoms_spec (ws := Cond.code y_F_requirePlace b_F_requirePlace 2 none :: big) B.pre
  have hown : s.vm.findClass "ListForge" = some m.cls := findClass_of_methodNamed B.named
  subst hsz
  have hD : va_D (AX ad s.heap.size) (cw ad ka t) := AX_D hD0
  have hS : va_S (AX ad s.heap.size) s.heap s.heap [] := va_S.rf
  have hl := lv_entry ([.int (x), .int (a)]) (n := 2) (Nat.le_of_ble_eq_true rfl)
  rw [lg_entry_eq]
  generalize (lg_sl ([.int (x), .int (a)]) ++ List.replicate (2 - (lg_sl ([.int (x), .int (a)])).length) Slot.unset).toArray = ls at hl ⊢
  have hl : lv_has ls 2 [(0, .int (x)), (1, .int (a))] := hl

  refine lv_iload_n hx hb d_F_requirePlace_0 rfl (lv_at hl 0 rfl) ?_
  refine lv_iconst (v := 0) hx hb d_F_requirePlace_1 (by decide) ?_
  refine lv_iconst (v := 2) hx hb d_F_requirePlace_2 (by decide) ?_
  have hA1 := hS.1
  refine va_calli (va_runS (As := [.int (x), .int (0), .int (2)]) (rest := []) ⟨hx, hb, hml, hown, hts⟩ (c_F_isWithin l D ad ka s.heap.size t x 0 2) (cwS 3 hts (gs mw_207 mw_208 mw_1 mw_209) rfl rfl rfl (by decide +kernel) ⟨Nat.le_of_ble_eq_true rfl, Nat.le_of_ble_eq_true rfl⟩) ⟨PX_blind, fun U hU hW => ⟨rfl, PX_at hU hW hP hK hD⟩⟩ rfl rfl hl.1 rfl (lv_room (Nat.le_of_ble_eq_true rfl)) d_F_requirePlace_3 ⟨Nat.le_of_ble_eq_true rfl, Nat.le_of_ble_eq_true rfl⟩) hS (fun q _ h => AX_up hA1 q h) (AX_up hA1) (fun r1 t3 tq H1 locs ht hvm hw2 hB hz1 hk1 hS => ?_)
  obtain ⟨hP, hD⟩ := BX_back ht hB (AX_up hA1)
  generalize H1 = H at hP hS ⊢
  obtain ⟨hwr, hwt⟩ := hw2
  rw [hwt] at hP hD
  rw [hwr]
  refine lv_if_eq (tgt := 23) hx hb d_F_requirePlace_6 (by decide) (fun c4 => ?_) (fun c4 => ?_)
  · have _u : True := trivial
    refine lv_iconst (v := 0) hx hb d_F_requirePlace_23 (by decide) ?_
    have hA1 := hS.1
    refine vx_callv (vx_runS (As := [.int (0)]) (rest := []) ⟨hx, hb, hml, hown, hts⟩ (c_F_require l hl0 D ad ka sa H.size t 0) (cwS 1 hts (gs mw_210 mw_211 mw_1 mw_212) rfl rfl rfl (by decide +kernel) ⟨Nat.le_of_ble_eq_true rfl, Nat.le_of_ble_eq_true rfl⟩) ⟨PZ_blind, fun U hU hW => ⟨rfl, PX_at hU hW hP hK hD, ZX_at hU hW hZ hS⟩⟩ rfl rfl hl.1 rfl (lv_room (Nat.le_of_ble_eq_true rfl)) d_F_requirePlace_24 ⟨Nat.le_of_ble_eq_true rfl, Nat.le_of_ble_eq_true rfl⟩) hS (fun q _ h => AX_up hA1 q h) (AX_up hA1) (fun q _ h => AX_up hA1 q h) (fun E ce q9 _ tq H1 locs ht hvm _ hB hz1 hk1 hS hce hcv hcl => vx_out (fun x hx9 => (hTb x hx9).elim) hlocks hce hcv hcl (fun t9 e9 a9 => XT_out ht hB.2 (AX_up hA1) hK hS ⟨hB.1.1, by simp [PLc, plz, c4]⟩ e9 a9) (fun z hz => hS.2.2 z hz) (by decide) (by decide)) (fun t7 tq H1 locs ht hvm hw6 hB hz1 hk1 hS => ?_)
    obtain ⟨hP, hD⟩ := BX_back ht hB (AX_up hA1)
    generalize H1 = H at hP hS ⊢
    obtain ⟨hwt, hz24⟩ := hw6
    exact absurd rfl hz24
  · have _u : True := trivial
    refine lv_iload_n hx hb d_F_requirePlace_9 rfl (lv_at hl 1 rfl) ?_
    refine lv_iconst (v := 0) hx hb d_F_requirePlace_10 (by decide) ?_
    refine lv_bipush (v := 11) hx hb d_F_requirePlace_11 (by decide) ?_
    have hA1 := hS.1
    refine va_calli (va_runS (As := [.int (a), .int (0), .int (11)]) (rest := []) ⟨hx, hb, hml, hown, hts⟩ (c_F_isWithin l D ad ka H.size t a 0 11) (cwS 3 hts (gs mw_207 mw_208 mw_1 mw_209) rfl rfl rfl (by decide +kernel) ⟨Nat.le_of_ble_eq_true rfl, Nat.le_of_ble_eq_true rfl⟩) ⟨PX_blind, fun U hU hW => ⟨rfl, PX_at hU hW hP hK hD⟩⟩ rfl rfl hl.1 rfl (lv_room (Nat.le_of_ble_eq_true rfl)) d_F_requirePlace_13 ⟨Nat.le_of_ble_eq_true rfl, Nat.le_of_ble_eq_true rfl⟩) hS (fun q _ h => AX_up hA1 q h) (AX_up hA1) (fun r8 t10 tq H1 locs ht hvm hw9 hB hz1 hk1 hS => ?_)
    obtain ⟨hP, hD⟩ := BX_back ht hB (AX_up hA1)
    generalize H1 = H at hP hS ⊢
    obtain ⟨hwr, hwt⟩ := hw9
    rw [hwt] at hP hD
    rw [hwr]
    refine lv_if_eq (tgt := 23) hx hb d_F_requirePlace_16 (by decide) (fun c11 => ?_) (fun c11 => ?_)
    · have _u : True := trivial
      refine lv_iconst (v := 0) hx hb d_F_requirePlace_23 (by decide) ?_
      have hA1 := hS.1
      refine vx_callv (vx_runS (As := [.int (0)]) (rest := []) ⟨hx, hb, hml, hown, hts⟩ (c_F_require l hl0 D ad ka sa H.size t 0) (cwS 1 hts (gs mw_210 mw_211 mw_1 mw_212) rfl rfl rfl (by decide +kernel) ⟨Nat.le_of_ble_eq_true rfl, Nat.le_of_ble_eq_true rfl⟩) ⟨PZ_blind, fun U hU hW => ⟨rfl, PX_at hU hW hP hK hD, ZX_at hU hW hZ hS⟩⟩ rfl rfl hl.1 rfl (lv_room (Nat.le_of_ble_eq_true rfl)) d_F_requirePlace_24 ⟨Nat.le_of_ble_eq_true rfl, Nat.le_of_ble_eq_true rfl⟩) hS (fun q _ h => AX_up hA1 q h) (AX_up hA1) (fun q _ h => AX_up hA1 q h) (fun E ce q9 _ tq H1 locs ht hvm _ hB hz1 hk1 hS hce hcv hcl => vx_out (fun x hx9 => (hTb x hx9).elim) hlocks hce hcv hcl (fun t9 e9 a9 => XT_out ht hB.2 (AX_up hA1) hK hS ⟨hB.1.1, by simp [PLc, plz, c4, c11]⟩ e9 a9) (fun z hz => hS.2.2 z hz) (by decide) (by decide)) (fun t14 tq H1 locs ht hvm hw13 hB hz1 hk1 hS => ?_)
      obtain ⟨hP, hD⟩ := BX_back ht hB (AX_up hA1)
      generalize H1 = H at hP hS ⊢
      obtain ⟨hwt, hz24⟩ := hw13
      exact absurd rfl hz24
    · have _u : True := trivial
      refine lv_iconst (v := 1) hx hb d_F_requirePlace_19 (by decide) ?_
      refine lv_goto (tgt := 24) hx hb d_F_requirePlace_20 (by decide) ?_
      have hA1 := hS.1
      refine vx_callv (vx_runS (As := [.int (1)]) (rest := []) ⟨hx, hb, hml, hown, hts⟩ (c_F_require l hl0 D ad ka sa H.size t 1) (cwS 1 hts (gs mw_210 mw_211 mw_1 mw_212) rfl rfl rfl (by decide +kernel) ⟨Nat.le_of_ble_eq_true rfl, Nat.le_of_ble_eq_true rfl⟩) ⟨PZ_blind, fun U hU hW => ⟨rfl, PX_at hU hW hP hK hD, ZX_at hU hW hZ hS⟩⟩ rfl rfl hl.1 rfl (lv_room (Nat.le_of_ble_eq_true rfl)) d_F_requirePlace_24 ⟨Nat.le_of_ble_eq_true rfl, Nat.le_of_ble_eq_true rfl⟩) hS (fun q _ h => AX_up hA1 q h) (AX_up hA1) (fun q _ h => AX_up hA1 q h) (fun E ce q9 _ tq H1 locs ht hvm _ hB hz1 hk1 hS hce hcv hcl => vx_out (fun x hx9 => (hTb x hx9).elim) hlocks hce hcv hcl (fun t9 e9 a9 => XT_out ht hB.2 (AX_up hA1) hK hS (absurd hB.1.2 (by decide)) e9 a9) (fun z hz => hS.2.2 z hz) (by decide) (by decide)) (fun t17 tq H1 locs ht hvm hw16 hB hz1 hk1 hS => ?_)
      obtain ⟨hP, hD⟩ := BX_back ht hB (AX_up hA1)
      generalize H1 = H at hP hS ⊢
      obtain ⟨hwt, hz24⟩ := hw16
      rw [hwt] at hP hD
      refine vx_ret (W.widen (k := 1) (n := 6) (by decide) (by decide) ?_)
      exact W.vret hx hb hr (fun t9 ht hW => ⟨⟨t, rfl, ⟨rfl, by simp [PLc, plz, c4, c11]⟩, BX_at ht hW hP hK hD⟩, hS.F ht⟩) hS.2.2 d_F_requirePlace_27
set_option maxHeartbeats 4000000 in
set_option maxRecDepth 100000 in
theorem c_F_existing (l : Launch) (hl0 : l.stackTraces = false) (D : va_G) (ad : Nat → Nat) (ka : Nat → ClassId) (sa : Nat → Nat) (sz : Nat) (t : Mem) (x a : Int32) : vx_Met l y_F_existing (Cond.code y_F_existing b_F_existing 4 (some (.object "ListForge$Subscription")) :: big) ({ frames := 8, cells := 2, slots := 12, locals := 123 }) (va_Pc [.ref (ad (0)), .int (x), .int (a)] (PZ D ad ka sa sz t)) (va_Qr (fun q : Nat × Nat => q.1 < 3 ∧ q.2 < 12 ∧ x = nI q.1 ∧ a = nI q.2 ∧ ¬ plz x a = 0 ∧ ¬ gI t 0 (12 * q.1 + q.2) = -1) (fun (q : Nat × Nat) (ra : Nat) (U : State) => ra = ad (60 + (12 * q.1 + q.2)) ∧ BX D ad ka sz t U) (AX ad sz)) (XT D ad ka sz t (fun E => (E = e_IAE ∧ plz x a = 0) ∨ (E = e_NSE ∧ ¬ plz x a = 0 ∧ gI t 0 (jj x a) = -1))) 2 12 (AX ad sz) := by
  refine vx_ofW (cc := b_F_existing) (maxL := 4) (ret := (some (.object "ListForge$Subscription"))) (by decide) rfl ?_
  intro p e s m args below meth c s₁ B hml hTb hv
  obtain ⟨rfl, ⟨hsz, hP, hK, hD0⟩, hZ⟩ := hv
  have hx := B.exec
  have hb := B.bytes
  have hr := B.returns
  have hlocks := B.notSynchronized
  have hts := atoms_spec (ws := Cond.code y_F_existing b_F_existing 4 (some (.object "ListForge$Subscription")) :: big) B.pre
  have hown : s.vm.findClass "ListForge" = some m.cls := findClass_of_methodNamed B.named
  subst hsz
  have hD : va_D (AX ad s.heap.size) (cw ad ka t) := AX_D hD0
  have hS : va_S (AX ad s.heap.size) s.heap s.heap [] := va_S.rf
  have hl := lv_entry ([.ref (ad (0)), .int (x), .int (a)]) (n := 4) (Nat.le_of_ble_eq_true rfl)
  rw [lg_entry_eq]
  generalize (lg_sl ([.ref (ad (0)), .int (x), .int (a)]) ++ List.replicate (4 - (lg_sl ([.ref (ad (0)), .int (x), .int (a)])).length) Slot.unset).toArray = ls at hl ⊢
  have hl : lv_has ls 4 [(0, .ref (ad (0))), (1, .int (x)), (2, .int (a))] := hl

  refine lv_iload_n hx hb d_F_existing_0 rfl (lv_at hl 1 rfl) ?_
  refine lv_iload_n hx hb d_F_existing_1 rfl (lv_at hl 2 rfl) ?_
  have hA1 := hS.1
  refine vx_callv (vx_runS (As := [.int (x), .int (a)]) (rest := []) ⟨hx, hb, hml, hown, hts⟩ (c_F_requirePlace l hl0 D ad ka sa s.heap.size t x a) (cwS 2 hts (gs mw_204 mw_205 mw_1 mw_206) rfl rfl rfl (by decide +kernel) ⟨Nat.le_of_ble_eq_true rfl, Nat.le_of_ble_eq_true rfl⟩) ⟨PZ_blind, fun U hU hW => ⟨rfl, PX_at hU hW hP hK hD, ZX_at hU hW hZ hS⟩⟩ rfl rfl hl.1 rfl (lv_room (Nat.le_of_ble_eq_true rfl)) d_F_existing_2 ⟨Nat.le_of_ble_eq_true rfl, Nat.le_of_ble_eq_true rfl⟩) hS (fun q _ h => AX_up hA1 q h) (AX_up hA1) (fun q _ h => AX_up hA1 q h) (fun E ce q9 _ tq H1 locs ht hvm _ hB hz1 hk1 hS hce hcv hcl => vx_out (fun x hx9 => (hTb x hx9).elim) hlocks hce hcv hcl (fun t9 e9 a9 => XT_out ht hB.2 (AX_up hA1) hK hS (Or.inl ⟨hB.1.1, Decidable.not_not.mp hB.1.2⟩) e9 a9) (fun z hz => hS.2.2 z hz) (by decide) (by decide)) (fun t3 tq H1 locs ht hvm hw2 hB hz1 hk1 hS => ?_)
  obtain ⟨hP, hD⟩ := BX_back ht hB (AX_up hA1)
  generalize H1 = H at hP hS ⊢
  obtain ⟨hwt, hpl⟩ := hw2
  rw [hwt] at hP hD
  obtain ⟨u, hu, hxu, a0, ha0, hau⟩ := PL_of hpl
  have hpl : ¬ plz x a = 0 := hpl
  have hcx : cl x = u := cl_of hxu (by omega)
  have hca : cl a = a0 := cl_of hau (by omega)
  have hj : jj x a = 12 * u + a0 := by rw [jj, hcx, hca]
  refine lv_aload_n hx hb d_F_existing_5 rfl (lv_at hl 0 rfl) ?_
  refine g_F_lists hx hb hts hown hK hP mw_175 d_F_existing_6 ?_
  refine lv_iload_n hx hb d_F_existing_9 rfl (lv_at hl 1 rfl) ?_
  refine a_lists hx hb hK hP (r := u) hu hxu d_F_existing_10 ?_
  refine g_L_subscriptions hx hb hts hown hK hP hu mw_77 d_F_existing_11 ?_
  refine lv_iload_n hx hb d_F_existing_14 rfl (lv_at hl 2 rfl) ?_
  refine a_subs hx hb hK hP hu (r := a0) ha0 hau d_F_existing_15 ?_
  refine lv_astore_n (lv' := [(3, .ref (ad (60 + (12 * u + a0)))), (0, .ref (ad (0))), (1, .int (x)), (2, .int (a))]) hx hb d_F_existing_16 rfl hl (by decide) rfl (fun ls hl => ?_)
  refine lv_aload_n hx hb d_F_existing_17 rfl (lv_at hl 0 rfl) ?_
  refine g_S_state hx hb hts hown hK hP (by omega) mw_38 d_F_existing_18 ?_
  refine lv_iconst (v := -1) hx hb d_F_existing_21 (by decide) ?_
  refine lv_icmp_ne (tgt := 35) hx hb d_F_existing_22 (by decide) (fun c4 => ?_) (fun c4 => ?_)
  · have _u : True := trivial
    refine lv_aload_n hx hb d_F_existing_35 rfl (lv_at hl 0 rfl) ?_
    refine vx_ret (W.widen (k := 2) (n := 12) (by decide) (by decide) ?_)
    exact W.aret (v := .ref (ad (60 + (12 * u + a0)))) hx hb hr (Or.inl ⟨_, rfl⟩) (Or.inr ⟨_, rfl⟩) (fun t9 ht hW => ⟨⟨(u, a0), ad (60 + (12 * u + a0)), rfl, ⟨hu, ha0, hxu, hau, hpl, c4⟩, rfl, BX_at ht hW hP hK hD⟩, hS.F ht⟩) hS.2.2 d_F_existing_36
  · have _u : True := trivial
    exact nt_throw (own := "ListForge") (cls := e_NSE) (text := "there is no subscription") hx hb hl0 hown (by decide) (bg hts mw_335) (bg hts mw_13) (hZ.2.2.2 (248, "there is no subscription") (by decide)) (hatO hts hZ.1 ag_NSE an_NSE) ao_NSE hZ.2.1 hZ.2.2.1 hS (by rw [hml]; exact hl.1) d_F_existing_25 d_F_existing_28 d_F_existing_29 d_F_existing_31 d_F_existing_34 (fun x hx9 => (hTb x hx9).elim) (by decide) (Nat.le_of_ble_eq_true rfl) (by decide) (by decide) hlocks (fun t9 a9 z9 k9 => XT_at hP hK hD hS (Or.inr ⟨rfl, hpl, by rw [hj]; exact c4⟩) a9 z9 k9) (fun z hz => hS.2.2 z hz) (by decide) (by decide)
