def cofR (t : Mem) (u : Nat) (q : Int32) : Int32 := if q = 1 then L_subs t u else if q = 2 then L_lives t u else if q = 3 then gI t 14 u else gI t 15 u
def countR (t : Mem) (w : Int32) : Nat × Int32 × Mem := if w = 0 then (0, gI t 32 0, t) else if w = 1 then (0, gI t 30 0, t) else if w = 2 then (0, cntR t 0, t) else if w = 3 then (0, cntR t 1, t) else if w = 4 then (0, gI t 29 0, t) else if isW w 10 49 = 0 then (1, 0, t) else if 3 ≤ w - w / 10 * 10 then (1, 0, t) else (0, cofR t (cl (w - w / 10 * 10)) (w / 10), t)
theorem isW_r {w : Int32} (h : ¬ isW w 10 49 = 0) (h3 : ¬ 3 ≤ w - w / 10 * 10) : ∃ q : Nat, q < 3 ∧ w - w / 10 * 10 = nI q := by
  unfold isW at h
  split at h
  · exact absurd rfl h
  · rename_i h1
    split at h
    · exact absurd rfl h
    · rename_i h2
      obtain ⟨j, hj, e⟩ := nI_of2 (M := 49) (n := 49) (by decide) (x := w) (fun q => h1 (Int32.lt_trans q (by decide))) (Int32.not_lt.mp h2)
      have e2 : w - w / 10 * 10 = nI (j % 10) := by rw [e]; exact pk_rem (d := 10) (by omega) (by decide) (by decide)
      refine ⟨j % 10, ?_, e2⟩
      rcases Nat.lt_or_ge (j % 10) 3 with q | q
      · exact q
      · exact absurd (by rw [e2]; exact nI_le q (by omega)) h3
def tickD (t : Mem) : Mem := lp (fun u t => L_day t u (gI t 32 0)) 3 0 (pI t 32 0 (gI t 32 0 + 1))
def tickT (t : Mem) (d : Int32) : Mem := lp (fun _ t => tickD t) (cl d) 0 t
def tickR (t : Mem) (d : Int32) : Nat × Int32 × Mem := if isW d 1 20 = 0 then (1, 0, t) else (0, gI (tickT t d) 32 0, tickT t d)
theorem OKX_tickD {t : Mem} (h : OKX t) : OKX (tickD t) := lp_inv OKX (fun a t h => OKX_day h) _ _ _ (OKX_f h (by decide))
theorem OKX_tick {t : Mem} {d : Int32} (h : OKX t) : OKX (tickT t d) := lp_inv OKX (fun a t h => OKX_tickD h) _ _ _ h
theorem isW_1 {w : Int32} (h : ¬ isW w 1 20 = 0) : ∃ q : Nat, q ≤ 20 ∧ w = nI q := by
  unfold isW at h
  split at h
  · exact absurd rfl h
  · rename_i h1
    split at h
    · exact absurd rfl h
    · rename_i h2
      obtain ⟨j, hj, e⟩ := nI_of2 (M := 20) (n := 20) (by decide) (x := w) (fun q => h1 (Int32.lt_trans q (by decide))) (Int32.not_lt.mp h2)
      exact ⟨j, hj, e⟩
def mchR (t : Mem) (k : Int32) (j : Nat) : Prop := gI t 0 j = 0 ∧ gI t 2 j = k
set_option maxHeartbeats 4000000 in
set_option maxRecDepth 100000 in
theorem c_F_post (l : Launch) (hl0 : l.stackTraces = false) (D : va_G) (ad : Nat → Nat) (ka : Nat → ClassId) (sa : Nat → Nat) (sz : Nat) (t : Mem) (ho : OKX t) (x a z w : Int32) : vx_Met l y_F_post (Cond.code y_F_post b_F_post 7 (some .int) :: big) ({ frames := 8, cells := 3, slots := 18, locals := 123 }) (va_Pc [.ref (ad (0)), .int (x), .int (a), .int (z), .int (w)] (PZ D ad ka sa sz t)) (va_Qi (fun (r : Int32) (t' : Mem) => postR t x a z w = (0, r, t')) (BX D ad ka sz) (AX ad sz)) (XT D ad ka sz t (fun E => (E = e_IAE ∧ (postR t x a z w).1 = 1) ∨ (E = e_ISE ∧ (postR t x a z w).1 = 2) ∨ (E = e_UOE ∧ (postR t x a z w).1 = 3))) 3 18 (AX ad sz) := by
  refine vx_ofW (cc := b_F_post) (maxL := 7) (ret := (some .int)) (by decide) rfl ?_
  intro p e s m args below meth c s₁ B hml hTb hv
  obtain ⟨rfl, ⟨hsz, hP, hK, hD0⟩, hZ⟩ := hv
  have hx := B.exec
  have hb := B.bytes
  have hr := B.returns
  have hlocks := B.notSynchronized
  have hts := atoms_spec (ws := Cond.code y_F_post b_F_post 7 (some .int) :: big) B.pre
  have hown : s.vm.findClass "ListForge" = some m.cls := findClass_of_methodNamed B.named
  subst hsz
  have hD : va_D (AX ad s.heap.size) (cw ad ka t) := AX_D hD0
  have hS : va_S (AX ad s.heap.size) s.heap s.heap [] := va_S.rf
  have hl := lv_entry ([.ref (ad (0)), .int (x), .int (a), .int (z), .int (w)]) (n := 7) (Nat.le_of_ble_eq_true rfl)
  rw [lg_entry_eq]
  generalize (lg_sl ([.ref (ad (0)), .int (x), .int (a), .int (z), .int (w)]) ++ List.replicate (7 - (lg_sl ([.ref (ad (0)), .int (x), .int (a), .int (z), .int (w)])).length) Slot.unset).toArray = ls at hl ⊢
  have hl : lv_has ls 7 [(0, .ref (ad (0))), (1, .int (x)), (2, .int (a)), (3, .int (z)), (4, .int (w))] := hl

  obtain ⟨n0, hn0, hn⟩ := OKX_posts ho
  have hcn : cl (gI t 30 0) = n0 := cl_of hn (by omega)
  refine lv_iload_n hx hb d_F_post_0 rfl (lv_at hl 1 rfl) ?_
  refine lv_iload_n hx hb d_F_post_1 rfl (lv_at hl 2 rfl) ?_
  have hA1 := hS.1
  refine vx_callv (vx_runS (As := [.int (x), .int (a)]) (rest := []) ⟨hx, hb, hml, hown, hts⟩ (c_F_requirePlace l hl0 D ad ka sa s.heap.size t x a) (cwS 2 hts (gs mw_204 mw_205 mw_1 mw_206) rfl rfl rfl (by decide +kernel) ⟨Nat.le_of_ble_eq_true rfl, Nat.le_of_ble_eq_true rfl⟩) ⟨PZ_blind, fun U hU hW => ⟨rfl, PX_at hU hW hP hK hD, ZX_at hU hW hZ hS⟩⟩ rfl rfl hl.1 rfl (lv_room (Nat.le_of_ble_eq_true rfl)) d_F_post_2 ⟨Nat.le_of_ble_eq_true rfl, Nat.le_of_ble_eq_true rfl⟩) hS (fun q _ h => AX_up hA1 q h) (AX_up hA1) (fun q _ h => AX_up hA1 q h) (fun E ce q9 _ tq H1 locs ht hvm _ hB hz1 hk1 hS hce hcv hcl => vx_out (fun x hx9 => (hTb x hx9).elim) hlocks hce hcv hcl (fun t9 e9 a9 => XT_out ht hB.2 (AX_up hA1) hK hS (Or.inl ⟨hB.1.1, by simp [postR, Decidable.not_not.mp hB.1.2]⟩) e9 a9) (fun z hz => hS.2.2 z hz) (by decide) (by decide)) (fun t3 tq H1 locs ht hvm hw2 hB hz1 hk1 hS => ?_)
  obtain ⟨hP, hD⟩ := BX_back ht hB (AX_up hA1)
  generalize H1 = H at hP hS ⊢
  obtain ⟨hwt, hpl⟩ := hw2
  rw [hwt] at hP hD
  obtain ⟨u, hu, hxu, a0, ha0, hau⟩ := PL_of hpl
  have hpl : ¬ plz x a = 0 := hpl
  have hcx : cl x = u := cl_of hxu (by omega)
  have hca : cl a = a0 := cl_of hau (by omega)
  have hj : jj x a = 12 * u + a0 := by rw [jj, hcx, hca]
  refine lv_iload_n hx hb d_F_post_5 rfl (lv_at hl 3 rfl) ?_
  refine lv_iconst (v := 1) hx hb d_F_post_6 (by decide) ?_
  refine lv_sipush (v := 1000) hx hb d_F_post_7 (by decide) ?_
  have hA1 := hS.1
  refine va_calli (va_runS (As := [.int (z), .int (1), .int (1000)]) (rest := []) ⟨hx, hb, hml, hown, hts⟩ (c_F_isWithin l D ad ka H.size t z 1 1000) (cwS 3 hts (gs mw_207 mw_208 mw_1 mw_209) rfl rfl rfl (by decide +kernel) ⟨Nat.le_of_ble_eq_true rfl, Nat.le_of_ble_eq_true rfl⟩) ⟨PX_blind, fun U hU hW => ⟨rfl, PX_at hU hW hP hK hD⟩⟩ rfl rfl hl.1 rfl (lv_room (Nat.le_of_ble_eq_true rfl)) d_F_post_10 ⟨Nat.le_of_ble_eq_true rfl, Nat.le_of_ble_eq_true rfl⟩) hS (fun q _ h => AX_up hA1 q h) (AX_up hA1) (fun r4 t6 tq H1 locs ht hvm hw5 hB hz1 hk1 hS => ?_)
  obtain ⟨hP, hD⟩ := BX_back ht hB (AX_up hA1)
  generalize H1 = H at hP hS ⊢
  obtain ⟨hwr, hwt⟩ := hw5
  rw [hwt] at hP hD
  rw [hwr]
  refine lv_if_eq (tgt := 31) hx hb d_F_post_13 (by decide) (fun c7 => ?_) (fun c7 => ?_)
  · have _u : True := trivial
    refine lv_iconst (v := 0) hx hb d_F_post_31 (by decide) ?_
    have hA1 := hS.1
    refine vx_callv (vx_runS (As := [.int (0)]) (rest := []) ⟨hx, hb, hml, hown, hts⟩ (c_F_require l hl0 D ad ka sa H.size t 0) (cwS 1 hts (gs mw_210 mw_211 mw_1 mw_212) rfl rfl rfl (by decide +kernel) ⟨Nat.le_of_ble_eq_true rfl, Nat.le_of_ble_eq_true rfl⟩) ⟨PZ_blind, fun U hU hW => ⟨rfl, PX_at hU hW hP hK hD, ZX_at hU hW hZ hS⟩⟩ rfl rfl hl.1 rfl (lv_room (Nat.le_of_ble_eq_true rfl)) d_F_post_32 ⟨Nat.le_of_ble_eq_true rfl, Nat.le_of_ble_eq_true rfl⟩) hS (fun q _ h => AX_up hA1 q h) (AX_up hA1) (fun q _ h => AX_up hA1 q h) (fun E ce q9 _ tq H1 locs ht hvm _ hB hz1 hk1 hS hce hcv hcl => vx_out (fun x hx9 => (hTb x hx9).elim) hlocks hce hcv hcl (fun t9 e9 a9 => XT_out ht hB.2 (AX_up hA1) hK hS (Or.inl ⟨hB.1.1, by simp [postR, hpl, c7]⟩) e9 a9) (fun z hz => hS.2.2 z hz) (by decide) (by decide)) (fun t10 tq H1 locs ht hvm hw9 hB hz1 hk1 hS => ?_)
    obtain ⟨hP, hD⟩ := BX_back ht hB (AX_up hA1)
    generalize H1 = H at hP hS ⊢
    obtain ⟨hwt, hz32⟩ := hw9
    exact absurd rfl hz32
  · have _u : True := trivial
    refine lv_iload hx hb d_F_post_16 (lv_at hl 4 rfl) ?_
    refine lv_iconst (v := 0) hx hb d_F_post_18 (by decide) ?_
    refine lv_bipush (v := 9) hx hb d_F_post_19 (by decide) ?_
    have hA1 := hS.1
    refine va_calli (va_runS (As := [.int (w), .int (0), .int (9)]) (rest := []) ⟨hx, hb, hml, hown, hts⟩ (c_F_isWithin l D ad ka H.size t w 0 9) (cwS 3 hts (gs mw_207 mw_208 mw_1 mw_209) rfl rfl rfl (by decide +kernel) ⟨Nat.le_of_ble_eq_true rfl, Nat.le_of_ble_eq_true rfl⟩) ⟨PX_blind, fun U hU hW => ⟨rfl, PX_at hU hW hP hK hD⟩⟩ rfl rfl hl.1 rfl (lv_room (Nat.le_of_ble_eq_true rfl)) d_F_post_21 ⟨Nat.le_of_ble_eq_true rfl, Nat.le_of_ble_eq_true rfl⟩) hS (fun q _ h => AX_up hA1 q h) (AX_up hA1) (fun r11 t13 tq H1 locs ht hvm hw12 hB hz1 hk1 hS => ?_)
    obtain ⟨hP, hD⟩ := BX_back ht hB (AX_up hA1)
    generalize H1 = H at hP hS ⊢
    obtain ⟨hwr, hwt⟩ := hw12
    rw [hwt] at hP hD
    rw [hwr]
    refine lv_if_eq (tgt := 31) hx hb d_F_post_24 (by decide) (fun c14 => ?_) (fun c14 => ?_)
    · have _u : True := trivial
      refine lv_iconst (v := 0) hx hb d_F_post_31 (by decide) ?_
      have hA1 := hS.1
      refine vx_callv (vx_runS (As := [.int (0)]) (rest := []) ⟨hx, hb, hml, hown, hts⟩ (c_F_require l hl0 D ad ka sa H.size t 0) (cwS 1 hts (gs mw_210 mw_211 mw_1 mw_212) rfl rfl rfl (by decide +kernel) ⟨Nat.le_of_ble_eq_true rfl, Nat.le_of_ble_eq_true rfl⟩) ⟨PZ_blind, fun U hU hW => ⟨rfl, PX_at hU hW hP hK hD, ZX_at hU hW hZ hS⟩⟩ rfl rfl hl.1 rfl (lv_room (Nat.le_of_ble_eq_true rfl)) d_F_post_32 ⟨Nat.le_of_ble_eq_true rfl, Nat.le_of_ble_eq_true rfl⟩) hS (fun q _ h => AX_up hA1 q h) (AX_up hA1) (fun q _ h => AX_up hA1 q h) (fun E ce q9 _ tq H1 locs ht hvm _ hB hz1 hk1 hS hce hcv hcl => vx_out (fun x hx9 => (hTb x hx9).elim) hlocks hce hcv hcl (fun t9 e9 a9 => XT_out ht hB.2 (AX_up hA1) hK hS (Or.inl ⟨hB.1.1, by simp [postR, hpl, c7, c14]⟩) e9 a9) (fun z hz => hS.2.2 z hz) (by decide) (by decide)) (fun t17 tq H1 locs ht hvm hw16 hB hz1 hk1 hS => ?_)
      obtain ⟨hP, hD⟩ := BX_back ht hB (AX_up hA1)
      generalize H1 = H at hP hS ⊢
      obtain ⟨hwt, hz32⟩ := hw16
      exact absurd rfl hz32
    · have _u : True := trivial
      obtain ⟨q, hq, hwq⟩ := isW_n (n := 9) (by decide) c14
      have hcw : cl w = q := cl_of hwq (by omega)
      refine lv_iconst (v := 1) hx hb d_F_post_27 (by decide) ?_
      refine lv_goto (tgt := 32) hx hb d_F_post_28 (by decide) ?_
      have hA1 := hS.1
      refine vx_callv (vx_runS (As := [.int (1)]) (rest := []) ⟨hx, hb, hml, hown, hts⟩ (c_F_require l hl0 D ad ka sa H.size t 1) (cwS 1 hts (gs mw_210 mw_211 mw_1 mw_212) rfl rfl rfl (by decide +kernel) ⟨Nat.le_of_ble_eq_true rfl, Nat.le_of_ble_eq_true rfl⟩) ⟨PZ_blind, fun U hU hW => ⟨rfl, PX_at hU hW hP hK hD, ZX_at hU hW hZ hS⟩⟩ rfl rfl hl.1 rfl (lv_room (Nat.le_of_ble_eq_true rfl)) d_F_post_32 ⟨Nat.le_of_ble_eq_true rfl, Nat.le_of_ble_eq_true rfl⟩) hS (fun q _ h => AX_up hA1 q h) (AX_up hA1) (fun q _ h => AX_up hA1 q h) (fun E ce q9 _ tq H1 locs ht hvm _ hB hz1 hk1 hS hce hcv hcl => vx_out (fun x hx9 => (hTb x hx9).elim) hlocks hce hcv hcl (fun t9 e9 a9 => XT_out ht hB.2 (AX_up hA1) hK hS (absurd hB.1.2 (by decide)) e9 a9) (fun z hz => hS.2.2 z hz) (by decide) (by decide)) (fun t20 tq H1 locs ht hvm hw19 hB hz1 hk1 hS => ?_)
      obtain ⟨hP, hD⟩ := BX_back ht hB (AX_up hA1)
      generalize H1 = H at hP hS ⊢
      obtain ⟨hwt, hz32⟩ := hw19
      rw [hwt] at hP hD
      refine lv_aload_n hx hb d_F_post_35 rfl (lv_at hl 0 rfl) ?_
      refine g_F_postCount hx hb hts hown hK hP mw_178 d_F_post_36 ?_
      refine lv_bipush (v := 40) hx hb d_F_post_39 (by decide) ?_
      refine lv_icmp_lt (tgt := 54) hx hb d_F_post_41 (by decide) (fun c21 => ?_) (fun c21 => ?_)
      · have _u : True := trivial
        have hn4 : n0 < 40 := by rw [hn] at c21; exact (nI_ltI (a := n0) (b := 40) (by omega) (by decide)).mp c21
        refine lv_aload_n hx hb d_F_post_54 rfl (lv_at hl 0 rfl) ?_
        refine g_F_lists hx hb hts hown hK hP mw_175 d_F_post_55 ?_
        refine lv_iload_n hx hb d_F_post_58 rfl (lv_at hl 1 rfl) ?_
        refine a_lists hx hb hK hP (r := u) hu hxu d_F_post_59 ?_
        refine lv_astore (lv' := [(5, .ref (ad (8 + u))), (0, .ref (ad (0))), (1, .int (x)), (2, .int (a)), (3, .int (z)), (4, .int (w))]) hx hb d_F_post_60 hl (by decide) rfl (fun ls hl => ?_)
        refine lv_aload hx hb d_F_post_62 (lv_at hl 0 rfl) ?_
        refine lv_iload_n hx hb d_F_post_64 rfl (lv_at hl 3 rfl) ?_
        have hA1 := hS.1
        refine va_calli (va_runV (As := [.int (a)]) (rest := []) ⟨hx, hb, hml, hown, hts⟩ (c_L_refusesSender l D ad ka H.size t u hu a0 ha0 a hau) (cwV 1 hts (gv mw_430 mw_431 mw_432 mw_2 mw_433) rfl rfl rfl (by decide +kernel) ⟨Nat.le_of_ble_eq_true rfl, Nat.le_of_ble_eq_true rfl⟩) ⟨PX_blind, va_recv hK hP (ci := 0) (q0 := 8 + u) rfl (at_L hu), fun U hU hW => ⟨rfl, PX_at hU hW hP hK hD⟩⟩ rfl rfl hl.1 rfl (lv_room (Nat.le_of_ble_eq_true rfl)) d_F_post_65 ⟨Nat.le_of_ble_eq_true rfl, Nat.le_of_ble_eq_true rfl⟩) hS (fun q _ h => AX_up hA1 q h) (AX_up hA1) (fun r22 t24 tq H1 locs ht hvm hw23 hB hz1 hk1 hS => ?_)
        obtain ⟨hP, hD⟩ := BX_back ht hB (AX_up hA1)
        generalize H1 = H at hP hS ⊢
        obtain ⟨hwr, hwt⟩ := hw23
        rw [hwt] at hP hD
        rw [hwr]
        refine lv_if_eq (tgt := 81) hx hb d_F_post_68 (by decide) (fun c25 => ?_) (fun c25 => ?_)
        · have _u : True := trivial
          refine lv_aload_n hx hb d_F_post_81 rfl (lv_at hl 1 rfl) ?_
          refine g_F_postCount hx hb hts hown hK hP mw_178 d_F_post_82 ?_
          refine lv_istore (lv' := [(6, .int (gI t 30 0)), (5, .ref (ad (8 + u))), (0, .ref (ad (0))), (1, .int (x)), (2, .int (a)), (3, .int (z)), (4, .int (w))]) hx hb d_F_post_85 hl (by decide) rfl (fun ls hl => ?_)
          refine lv_aload_n hx hb d_F_post_87 rfl (lv_at hl 2 rfl) ?_
          refine lv_dup hx hb d_F_post_88 rfl ?_
          refine g_F_postCount hx hb hts hown hK hP mw_178 d_F_post_89 ?_
          refine lv_iconst (v := 1) hx hb d_F_post_92 (by decide) ?_
          refine lv_iadd hx hb d_F_post_93 ?_
          refine p_F_postCount hx hb hts hown hK hP hD hS mw_178 d_F_post_94 (fun H locs hP hD hS => ?_)
          refine lv_aload_n hx hb d_F_post_97 rfl (lv_at hl 2 rfl) ?_
          refine g_F_posts hx hb hts hown hK hP mw_176 d_F_post_98 ?_
          refine lv_iload hx hb d_F_post_101 (lv_at hl 0 rfl) ?_
          refine a_posts hx hb hK hP (r := n0) hn4 hn d_F_post_103 ?_
          refine lv_iload_n hx hb d_F_post_104 rfl (lv_at hl 3 rfl) ?_
          refine lv_iload_n hx hb d_F_post_105 rfl (lv_at hl 4 rfl) ?_
          refine lv_iload_n hx hb d_F_post_106 rfl (lv_at hl 5 rfl) ?_
          have hA1 := hS.1
          refine va_callv (va_runV (As := [.int (x), .int (a), .int (z)]) (rest := []) ⟨hx, hb, hml, hown, hts⟩ (c_P_comeIn l D ad ka H.size (pI t 30 0 ((gI t 30 0) + 1)) n0 hn4 x a z) (cwV 3 hts (gv mw_435 mw_436 mw_437 mw_4 mw_438) rfl rfl rfl (by decide +kernel) ⟨Nat.le_of_ble_eq_true rfl, Nat.le_of_ble_eq_true rfl⟩) ⟨PX_blind, va_recv hK hP (ci := 2) (q0 := 20 + n0) rfl (at_P hn4), fun U hU hW => ⟨rfl, PX_at hU hW hP hK hD⟩⟩ rfl rfl hl.1 rfl (lv_room (Nat.le_of_ble_eq_true rfl)) d_F_post_107 ⟨Nat.le_of_ble_eq_true rfl, Nat.le_of_ble_eq_true rfl⟩) hS (fun q _ h => AX_up hA1 q h) (AX_up hA1) (fun t28 tq H1 locs ht hvm hw27 hB hz1 hk1 hS => ?_)
          obtain ⟨hP, hD⟩ := BX_back ht hB (AX_up hA1)
          generalize H1 = H at hP hS ⊢
          rw [hw27] at hP hD
          refine lv_aload hx hb d_F_post_110 (lv_at hl 1 rfl) ?_
          refine lv_iload_n hx hb d_F_post_112 rfl (lv_at hl 4 rfl) ?_
          refine lv_iload_n hx hb d_F_post_113 rfl (lv_at hl 5 rfl) ?_
          refine lv_iload hx hb d_F_post_114 (lv_at hl 6 rfl) ?_
          have hA1 := hS.1
          refine va_calli (va_runV (As := [.int (a), .int (z), .int (w)]) (rest := []) ⟨hx, hb, hml, hown, hts⟩ (c_L_holdsBack l D ad ka H.size (P_comeIn (pI t 30 0 ((gI t 30 0) + 1)) n0 x a z) u hu a0 ha0 a hau z q hq w hwq) (cwV 3 hts (gv mw_439 mw_440 mw_441 mw_2 mw_442) rfl rfl rfl (by decide +kernel) ⟨Nat.le_of_ble_eq_true rfl, Nat.le_of_ble_eq_true rfl⟩) ⟨PX_blind, va_recv hK hP (ci := 0) (q0 := 8 + u) rfl (at_L hu), fun U hU hW => ⟨rfl, PX_at hU hW hP hK hD⟩⟩ rfl rfl hl.1 rfl (lv_room (Nat.le_of_ble_eq_true rfl)) d_F_post_116 ⟨Nat.le_of_ble_eq_true rfl, Nat.le_of_ble_eq_true rfl⟩) hS (fun q _ h => AX_up hA1 q h) (AX_up hA1) (fun r29 t31 tq H1 locs ht hvm hw30 hB hz1 hk1 hS => ?_)
          obtain ⟨hP, hD⟩ := BX_back ht hB (AX_up hA1)
          generalize H1 = H at hP hS ⊢
          obtain ⟨hwr, hwt⟩ := hw30
          rw [hwt] at hP hD
          rw [hwr]
          refine lv_if_eq (tgt := 136) hx hb d_F_post_119 (by decide) (fun c32 => ?_) (fun c32 => ?_)
          · have _u : True := trivial
            refine lv_aload_n hx hb d_F_post_136 rfl (lv_at hl 2 rfl) ?_
            refine lv_iload hx hb d_F_post_137 (lv_at hl 0 rfl) ?_
            have hA1 := hS.1
            refine va_callv (va_runV (As := [.int (gI t 30 0)]) (rest := []) ⟨hx, hb, hml, hown, hts⟩ (c_F_letThrough l D ad ka H.size (P_comeIn (pI t 30 0 ((gI t 30 0) + 1)) n0 x a z) (OKX_comeIn (OKX_pI ho (fun q => absurd q (by omega)) (fun q => absurd q (by omega)) (fun _ => ⟨n0 + 1, by omega, by rw [hn, nI_1]⟩) (fun q => absurd q (by omega))) ⟨u, hu, hxu⟩) n0 hn4 (gI t 30 0) hn) (cwV 1 hts (gv mw_448 mw_450 (big_sel (i := 2) (by decide +kernel) (by decide +kernel)) mw_1 mw_451) rfl rfl rfl (by decide +kernel) ⟨Nat.le_of_ble_eq_true rfl, Nat.le_of_ble_eq_true rfl⟩) ⟨PX_blind, va_recv hK hP (ci := 4) (q0 := 0) rfl (at_F), fun U hU hW => ⟨rfl, PX_at hU hW hP hK hD⟩⟩ rfl rfl hl.1 rfl (lv_room (Nat.le_of_ble_eq_true rfl)) d_F_post_139 ⟨Nat.le_of_ble_eq_true rfl, Nat.le_of_ble_eq_true rfl⟩) hS (fun q _ h => AX_up hA1 q h) (AX_up hA1) (fun t35 tq H1 locs ht hvm hw34 hB hz1 hk1 hS => ?_)
            obtain ⟨hP, hD⟩ := BX_back ht hB (AX_up hA1)
            generalize H1 = H at hP hS ⊢
            rw [hw34] at hP hD
            refine lv_iload hx hb d_F_post_142 (lv_at hl 0 rfl) ?_
            refine vx_ret (W.widen (k := 3) (n := 18) (by decide) (by decide) ?_)
            exact W.iret (v := gI t 30 0) hx hb hr (fun t9 ht hW => ⟨⟨gI t 30 0, (passR (P_comeIn (pI t 30 0 ((gI t 30 0) + 1)) n0 x a z) n0 (gI t 30 0)), rfl, (by simp [postR, postT, hpl, hcx, hca, hcw, hcn, c7, c14, c21, c25, c32]), BX_at ht hW hP hK hD⟩, hS.F ht⟩) hS.2.2 d_F_post_144
          · have _u : True := trivial
            refine lv_aload hx hb d_F_post_122 (lv_at hl 1 rfl) ?_
            refine lv_iload hx hb d_F_post_124 (lv_at hl 0 rfl) ?_
            refine lv_aload_n hx hb d_F_post_126 rfl (lv_at hl 2 rfl) ?_
            refine g_F_outbox hx hb hts hown hK hP mw_177 d_F_post_127 ?_
            have hA1 := hS.1
            refine va_callv (va_runV (As := [.int (gI t 30 0), .ref (ad (3))]) (rest := []) ⟨hx, hb, hml, hown, hts⟩ (c_L_tellModerators l D ad ka H.size (P_comeIn (pI t 30 0 ((gI t 30 0) + 1)) n0 x a z) u hu (OKX_comeIn (OKX_pI ho (fun q => absurd q (by omega)) (fun q => absurd q (by omega)) (fun _ => ⟨n0 + 1, by omega, by rw [hn, nI_1]⟩) (fun q => absurd q (by omega))) ⟨u, hu, hxu⟩) (gI t 30 0)) (cwV 2 hts (gv mw_443 mw_444 mw_445 mw_2 mw_446) rfl rfl rfl (by decide +kernel) ⟨Nat.le_of_ble_eq_true rfl, Nat.le_of_ble_eq_true rfl⟩) ⟨PX_blind, va_recv hK hP (ci := 0) (q0 := 8 + u) rfl (at_L hu), fun U hU hW => ⟨rfl, PX_at hU hW hP hK hD⟩⟩ rfl rfl hl.1 rfl (lv_room (Nat.le_of_ble_eq_true rfl)) d_F_post_130 ⟨Nat.le_of_ble_eq_true rfl, Nat.le_of_ble_eq_true rfl⟩) hS (fun q _ h => AX_up hA1 q h) (AX_up hA1) (fun t38 tq H1 locs ht hvm hw37 hB hz1 hk1 hS => ?_)
            obtain ⟨hP, hD⟩ := BX_back ht hB (AX_up hA1)
            generalize H1 = H at hP hS ⊢
            rw [hw37] at hP hD
            refine lv_goto (tgt := 142) hx hb d_F_post_133 (by decide) ?_
            refine lv_iload hx hb d_F_post_142 (lv_at hl 0 rfl) ?_
            refine vx_ret (W.widen (k := 3) (n := 18) (by decide) (by decide) ?_)
            exact W.iret (v := gI t 30 0) hx hb hr (fun t9 ht hW => ⟨⟨gI t 30 0, (L_tell (P_comeIn (pI t 30 0 ((gI t 30 0) + 1)) n0 x a z) u (gI t 30 0)), rfl, (by simp [postR, postT, hpl, hcx, hca, hcw, hcn, c7, c14, c21, c25, c32]), BX_at ht hW hP hK hD⟩, hS.F ht⟩) hS.2.2 d_F_post_144
        · have _u : True := trivial
          exact vx_throwS (names := RTE) (own := "ListForge") (cls := e_UOE) (text := "the sender may not post here") hx hb hl0 hown (by decide) (by decide) (bg hts mw_299) (bg hts mw_12) (hZ.2.2.2 (146, "the sender may not post here") (by decide)) (hatO hts hZ.1 ag_UOE an_UOE) ao_UOE hZ.2.1 hZ.2.2.1 hS (by rw [hml]; exact hl.1) d_F_post_71 d_F_post_74 d_F_post_75 d_F_post_77 d_F_post_80 (fun x hx9 => (hTb x hx9).elim) (by decide) (Nat.le_of_ble_eq_true rfl) (by decide) (by decide) hlocks (fun t9 a9 z9 k9 => XT_at hP hK hD hS (Or.inr (Or.inr ⟨rfl, by simp [postR, hpl, hcx, hca, c7, c14, c21, c25]⟩)) a9 z9 k9) (fun z hz => hS.2.2 z hz) (by decide) (by decide)
      · have _u : True := trivial
        exact vx_throwS (names := RTE) (own := "ListForge") (cls := e_ISE) (text := "there is no room for another post") hx hb hl0 hown (by decide) (by decide) (bg hts mw_283) (bg hts mw_11) (hZ.2.2.2 (140, "there is no room for another post") (by decide)) (hatO hts hZ.1 ag_ISE an_ISE) ao_ISE hZ.2.1 hZ.2.2.1 hS (by rw [hml]; exact hl.1) d_F_post_44 d_F_post_47 d_F_post_48 d_F_post_50 d_F_post_53 (fun x hx9 => (hTb x hx9).elim) (by decide) (Nat.le_of_ble_eq_true rfl) (by decide) (by decide) hlocks (fun t9 a9 z9 k9 => XT_at hP hK hD hS (Or.inr (Or.inl ⟨rfl, by simp [postR, hpl, hcx, hca, c7, c14, c21]⟩)) a9 z9 k9) (fun z hz => hS.2.2 z hz) (by decide) (by decide)
set_option maxHeartbeats 4000000 in
set_option maxRecDepth 100000 in
theorem c_F_judge (l : Launch) (hl0 : l.stackTraces = false) (D : va_G) (ad : Nat → Nat) (ka : Nat → ClassId) (sa : Nat → Nat) (sz : Nat) (t : Mem) (ho : OKX t) (m0 p0 h0 : Int32) : vx_Met l y_F_judge (Cond.code y_F_judge b_F_judge 5 (some .int) :: big) ({ frames := 7, cells := 2, slots := 12, locals := 102 }) (va_Pc [.ref (ad (0)), .int (m0), .int (p0), .int (h0)] (PZ D ad ka sa sz t)) (va_Qi (fun (r : Int32) (t' : Mem) => judR t m0 p0 h0 = (0, r, t')) (BX D ad ka sz) (AX ad sz)) (XT D ad ka sz t (fun E => (E = e_IAE ∧ (judR t m0 p0 h0).1 = 1) ∨ (E = e_NSE ∧ (judR t m0 p0 h0).1 = 2) ∨ (E = e_UOE ∧ (judR t m0 p0 h0).1 = 3))) 2 12 (AX ad sz) := by
  refine vx_ofW (cc := b_F_judge) (maxL := 5) (ret := (some .int)) (by decide) rfl ?_
  intro p e s m args below meth c s₁ B hml hTb hv
  obtain ⟨rfl, ⟨hsz, hP, hK, hD0⟩, hZ⟩ := hv
  have hx := B.exec
  have hb := B.bytes
  have hr := B.returns
  have hlocks := B.notSynchronized
  have hts := atoms_spec (ws := Cond.code y_F_judge b_F_judge 5 (some .int) :: big) B.pre
  have hown : s.vm.findClass "ListForge" = some m.cls := findClass_of_methodNamed B.named
  subst hsz
  have hD : va_D (AX ad s.heap.size) (cw ad ka t) := AX_D hD0
  have hS : va_S (AX ad s.heap.size) s.heap s.heap [] := va_S.rf
  have hl := lv_entry ([.ref (ad (0)), .int (m0), .int (p0), .int (h0)]) (n := 5) (Nat.le_of_ble_eq_true rfl)
  rw [lg_entry_eq]
  generalize (lg_sl ([.ref (ad (0)), .int (m0), .int (p0), .int (h0)]) ++ List.replicate (5 - (lg_sl ([.ref (ad (0)), .int (m0), .int (p0), .int (h0)])).length) Slot.unset).toArray = ls at hl ⊢
  have hl : lv_has ls 5 [(0, .ref (ad (0))), (1, .int (m0)), (2, .int (p0)), (3, .int (h0))] := hl

  obtain ⟨n0, hn0, hn⟩ := OKX_posts ho
  refine lv_iload_n hx hb d_F_judge_0 rfl (lv_at hl 1 rfl) ?_
  refine lv_iconst (v := 0) hx hb d_F_judge_1 (by decide) ?_
  refine lv_bipush (v := 11) hx hb d_F_judge_2 (by decide) ?_
  have hA1 := hS.1
  refine va_calli (va_runS (As := [.int (m0), .int (0), .int (11)]) (rest := []) ⟨hx, hb, hml, hown, hts⟩ (c_F_isWithin l D ad ka s.heap.size t m0 0 11) (cwS 3 hts (gs mw_207 mw_208 mw_1 mw_209) rfl rfl rfl (by decide +kernel) ⟨Nat.le_of_ble_eq_true rfl, Nat.le_of_ble_eq_true rfl⟩) ⟨PX_blind, fun U hU hW => ⟨rfl, PX_at hU hW hP hK hD⟩⟩ rfl rfl hl.1 rfl (lv_room (Nat.le_of_ble_eq_true rfl)) d_F_judge_4 ⟨Nat.le_of_ble_eq_true rfl, Nat.le_of_ble_eq_true rfl⟩) hS (fun q _ h => AX_up hA1 q h) (AX_up hA1) (fun r1 t3 tq H1 locs ht hvm hw2 hB hz1 hk1 hS => ?_)
  obtain ⟨hP, hD⟩ := BX_back ht hB (AX_up hA1)
  generalize H1 = H at hP hS ⊢
  obtain ⟨hwr, hwt⟩ := hw2
  rw [hwt] at hP hD
  rw [hwr]
  refine lv_if_eq (tgt := 23) hx hb d_F_judge_7 (by decide) (fun c4 => ?_) (fun c4 => ?_)
  · have _u : True := trivial
    refine lv_iconst (v := 0) hx hb d_F_judge_23 (by decide) ?_
    have hA1 := hS.1
    refine vx_callv (vx_runS (As := [.int (0)]) (rest := []) ⟨hx, hb, hml, hown, hts⟩ (c_F_require l hl0 D ad ka sa H.size t 0) (cwS 1 hts (gs mw_210 mw_211 mw_1 mw_212) rfl rfl rfl (by decide +kernel) ⟨Nat.le_of_ble_eq_true rfl, Nat.le_of_ble_eq_true rfl⟩) ⟨PZ_blind, fun U hU hW => ⟨rfl, PX_at hU hW hP hK hD, ZX_at hU hW hZ hS⟩⟩ rfl rfl hl.1 rfl (lv_room (Nat.le_of_ble_eq_true rfl)) d_F_judge_24 ⟨Nat.le_of_ble_eq_true rfl, Nat.le_of_ble_eq_true rfl⟩) hS (fun q _ h => AX_up hA1 q h) (AX_up hA1) (fun q _ h => AX_up hA1 q h) (fun E ce q9 _ tq H1 locs ht hvm _ hB hz1 hk1 hS hce hcv hcl => vx_out (fun x hx9 => (hTb x hx9).elim) hlocks hce hcv hcl (fun t9 e9 a9 => XT_out ht hB.2 (AX_up hA1) hK hS (Or.inl ⟨hB.1.1, by simp [judR, c4]⟩) e9 a9) (fun z hz => hS.2.2 z hz) (by decide) (by decide)) (fun t7 tq H1 locs ht hvm hw6 hB hz1 hk1 hS => ?_)
    obtain ⟨hP, hD⟩ := BX_back ht hB (AX_up hA1)
    generalize H1 = H at hP hS ⊢
    obtain ⟨hwt, hz24⟩ := hw6
    exact absurd rfl hz24
  · have _u : True := trivial
    obtain ⟨a0, ha0, hau⟩ := isW_n (n := 11) (by decide) c4
    have hca : cl m0 = a0 := cl_of hau (by omega)
    refine lv_iload_n hx hb d_F_judge_10 rfl (lv_at hl 3 rfl) ?_
    refine lv_iconst (v := 0) hx hb d_F_judge_11 (by decide) ?_
    refine lv_iconst (v := 2) hx hb d_F_judge_12 (by decide) ?_
    have hA1 := hS.1
    refine va_calli (va_runS (As := [.int (h0), .int (0), .int (2)]) (rest := []) ⟨hx, hb, hml, hown, hts⟩ (c_F_isWithin l D ad ka H.size t h0 0 2) (cwS 3 hts (gs mw_207 mw_208 mw_1 mw_209) rfl rfl rfl (by decide +kernel) ⟨Nat.le_of_ble_eq_true rfl, Nat.le_of_ble_eq_true rfl⟩) ⟨PX_blind, fun U hU hW => ⟨rfl, PX_at hU hW hP hK hD⟩⟩ rfl rfl hl.1 rfl (lv_room (Nat.le_of_ble_eq_true rfl)) d_F_judge_13 ⟨Nat.le_of_ble_eq_true rfl, Nat.le_of_ble_eq_true rfl⟩) hS (fun q _ h => AX_up hA1 q h) (AX_up hA1) (fun r8 t10 tq H1 locs ht hvm hw9 hB hz1 hk1 hS => ?_)
    obtain ⟨hP, hD⟩ := BX_back ht hB (AX_up hA1)
    generalize H1 = H at hP hS ⊢
    obtain ⟨hwr, hwt⟩ := hw9
    rw [hwt] at hP hD
    rw [hwr]
    refine lv_if_eq (tgt := 23) hx hb d_F_judge_16 (by decide) (fun c11 => ?_) (fun c11 => ?_)
    · have _u : True := trivial
      refine lv_iconst (v := 0) hx hb d_F_judge_23 (by decide) ?_
      have hA1 := hS.1
      refine vx_callv (vx_runS (As := [.int (0)]) (rest := []) ⟨hx, hb, hml, hown, hts⟩ (c_F_require l hl0 D ad ka sa H.size t 0) (cwS 1 hts (gs mw_210 mw_211 mw_1 mw_212) rfl rfl rfl (by decide +kernel) ⟨Nat.le_of_ble_eq_true rfl, Nat.le_of_ble_eq_true rfl⟩) ⟨PZ_blind, fun U hU hW => ⟨rfl, PX_at hU hW hP hK hD, ZX_at hU hW hZ hS⟩⟩ rfl rfl hl.1 rfl (lv_room (Nat.le_of_ble_eq_true rfl)) d_F_judge_24 ⟨Nat.le_of_ble_eq_true rfl, Nat.le_of_ble_eq_true rfl⟩) hS (fun q _ h => AX_up hA1 q h) (AX_up hA1) (fun q _ h => AX_up hA1 q h) (fun E ce q9 _ tq H1 locs ht hvm _ hB hz1 hk1 hS hce hcv hcl => vx_out (fun x hx9 => (hTb x hx9).elim) hlocks hce hcv hcl (fun t9 e9 a9 => XT_out ht hB.2 (AX_up hA1) hK hS (Or.inl ⟨hB.1.1, by simp [judR, c4, c11]⟩) e9 a9) (fun z hz => hS.2.2 z hz) (by decide) (by decide)) (fun t14 tq H1 locs ht hvm hw13 hB hz1 hk1 hS => ?_)
      obtain ⟨hP, hD⟩ := BX_back ht hB (AX_up hA1)
      generalize H1 = H at hP hS ⊢
      obtain ⟨hwt, hz24⟩ := hw13
      exact absurd rfl hz24
    · have _u : True := trivial
      refine lv_iconst (v := 1) hx hb d_F_judge_19 (by decide) ?_
      refine lv_goto (tgt := 24) hx hb d_F_judge_20 (by decide) ?_
      have hA1 := hS.1
      refine vx_callv (vx_runS (As := [.int (1)]) (rest := []) ⟨hx, hb, hml, hown, hts⟩ (c_F_require l hl0 D ad ka sa H.size t 1) (cwS 1 hts (gs mw_210 mw_211 mw_1 mw_212) rfl rfl rfl (by decide +kernel) ⟨Nat.le_of_ble_eq_true rfl, Nat.le_of_ble_eq_true rfl⟩) ⟨PZ_blind, fun U hU hW => ⟨rfl, PX_at hU hW hP hK hD, ZX_at hU hW hZ hS⟩⟩ rfl rfl hl.1 rfl (lv_room (Nat.le_of_ble_eq_true rfl)) d_F_judge_24 ⟨Nat.le_of_ble_eq_true rfl, Nat.le_of_ble_eq_true rfl⟩) hS (fun q _ h => AX_up hA1 q h) (AX_up hA1) (fun q _ h => AX_up hA1 q h) (fun E ce q9 _ tq H1 locs ht hvm _ hB hz1 hk1 hS hce hcv hcl => vx_out (fun x hx9 => (hTb x hx9).elim) hlocks hce hcv hcl (fun t9 e9 a9 => XT_out ht hB.2 (AX_up hA1) hK hS (absurd hB.1.2 (by decide)) e9 a9) (fun z hz => hS.2.2 z hz) (by decide) (by decide)) (fun t17 tq H1 locs ht hvm hw16 hB hz1 hk1 hS => ?_)
      obtain ⟨hP, hD⟩ := BX_back ht hB (AX_up hA1)
      generalize H1 = H at hP hS ⊢
      obtain ⟨hwt, hz24⟩ := hw16
      rw [hwt] at hP hD
      refine lv_iload_n hx hb d_F_judge_27 rfl (lv_at hl 2 rfl) ?_
      refine lv_iconst (v := 0) hx hb d_F_judge_28 (by decide) ?_
      refine lv_aload_n hx hb d_F_judge_29 rfl (lv_at hl 0 rfl) ?_
      refine g_F_postCount hx hb hts hown hK hP mw_178 d_F_judge_30 ?_
      refine lv_iconst (v := 1) hx hb d_F_judge_33 (by decide) ?_
      refine lv_isub hx hb d_F_judge_34 ?_
      have hA1 := hS.1
      refine va_calli (va_runS (As := [.int (p0), .int (0), .int ((gI t 30 0) - 1)]) (rest := []) ⟨hx, hb, hml, hown, hts⟩ (c_F_isWithin l D ad ka H.size t p0 0 ((gI t 30 0) - 1)) (cwS 3 hts (gs mw_207 mw_208 mw_1 mw_209) rfl rfl rfl (by decide +kernel) ⟨Nat.le_of_ble_eq_true rfl, Nat.le_of_ble_eq_true rfl⟩) ⟨PX_blind, fun U hU hW => ⟨rfl, PX_at hU hW hP hK hD⟩⟩ rfl rfl hl.1 rfl (lv_room (Nat.le_of_ble_eq_true rfl)) d_F_judge_35 ⟨Nat.le_of_ble_eq_true rfl, Nat.le_of_ble_eq_true rfl⟩) hS (fun q _ h => AX_up hA1 q h) (AX_up hA1) (fun r18 t20 tq H1 locs ht hvm hw19 hB hz1 hk1 hS => ?_)
      obtain ⟨hP, hD⟩ := BX_back ht hB (AX_up hA1)
      generalize H1 = H at hP hS ⊢
      obtain ⟨hwr, hwt⟩ := hw19
      rw [hwt] at hP hD
      rw [hwr]
      refine lv_if_eq (tgt := 53) hx hb d_F_judge_38 (by decide) (fun c21 => ?_) (fun c21 => ?_)
      · have _u : True := trivial
        exact nt_throw (own := "ListForge") (cls := e_NSE) (text := "no such post is held") hx hb hl0 hown (by decide) (bg hts mw_335) (bg hts mw_13) (hZ.2.2.2 (164, "no such post is held") (by decide)) (hatO hts hZ.1 ag_NSE an_NSE) ao_NSE hZ.2.1 hZ.2.2.1 hS (by rw [hml]; exact hl.1) d_F_judge_53 d_F_judge_56 d_F_judge_57 d_F_judge_59 d_F_judge_62 (fun x hx9 => (hTb x hx9).elim) (by decide) (Nat.le_of_ble_eq_true rfl) (by decide) (by decide) hlocks (fun t9 a9 z9 k9 => XT_at hP hK hD hS (Or.inr (Or.inl ⟨rfl, by simp [judR, c4, c11, c21]⟩)) a9 z9 k9) (fun z hz => hS.2.2 z hz) (by decide) (by decide)
      · have _u : True := trivial
        obtain ⟨r, hr0, hpr⟩ := isW_k (n := n0) (by omega) (by rw [← hn]; exact c21)
        have hcp : cl p0 = r := cl_of hpr (by omega)
        obtain ⟨v, hv, hve⟩ := OKX_list ho r
        have hcv : cl (gI t 20 r) = v := cl_of hve (by omega)
        refine lv_aload_n hx hb d_F_judge_41 rfl (lv_at hl 0 rfl) ?_
        refine g_F_posts hx hb hts hown hK hP mw_176 d_F_judge_42 ?_
        refine lv_iload_n hx hb d_F_judge_45 rfl (lv_at hl 2 rfl) ?_
        refine a_posts hx hb hK hP (r := r) (by omega) hpr d_F_judge_46 ?_
        refine g_P_fate hx hb hts hown hK hP (by omega) mw_133 d_F_judge_47 ?_
        refine lv_if_eq (tgt := 63) hx hb d_F_judge_50 (by decide) (fun c22 => ?_) (fun c22 => ?_)
        · have _u : True := trivial
          refine lv_aload_n hx hb d_F_judge_63 rfl (lv_at hl 0 rfl) ?_
          refine g_F_posts hx hb hts hown hK hP mw_176 d_F_judge_64 ?_
          refine lv_iload_n hx hb d_F_judge_67 rfl (lv_at hl 2 rfl) ?_
          refine a_posts hx hb hK hP (r := r) (by omega) hpr d_F_judge_68 ?_
          refine lv_astore (lv' := [(4, .ref (ad (20 + r))), (0, .ref (ad (0))), (1, .int (m0)), (2, .int (p0)), (3, .int (h0))]) hx hb d_F_judge_69 hl (by decide) rfl (fun ls hl => ?_)
          refine lv_aload_n hx hb d_F_judge_71 rfl (lv_at hl 1 rfl) ?_
          refine g_F_lists hx hb hts hown hK hP mw_175 d_F_judge_72 ?_
          refine lv_aload hx hb d_F_judge_75 (lv_at hl 0 rfl) ?_
          refine g_P_list hx hb hts hown hK hP (by omega) mw_126 d_F_judge_77 ?_
          refine a_lists hx hb hK hP (r := v) hv hve d_F_judge_80 ?_
          refine g_L_subscriptions hx hb hts hown hK hP hv mw_77 d_F_judge_81 ?_
          refine lv_iload_n hx hb d_F_judge_84 rfl (lv_at hl 2 rfl) ?_
          refine a_subs hx hb hK hP hv (r := a0) ha0 hau d_F_judge_85 ?_
          refine g_S_moderates hx hb hts hown hK hP (by omega) mw_53 d_F_judge_86 ?_
          refine lv_if_ne (tgt := 102) hx hb d_F_judge_89 (by decide) (fun c23 => ?_) (fun c23 => ?_)
          · have _u : True := trivial
            refine lv_iload_n hx hb d_F_judge_102 rfl (lv_at hl 4 rfl) ?_
            refine lv_if_ne (tgt := 114) hx hb d_F_judge_103 (by decide) (fun c24 => ?_) (fun c24 => ?_)
            · have _u : True := trivial
              refine lv_aload hx hb d_F_judge_114 (lv_at hl 0 rfl) ?_
              refine lv_iconst (v := 2) hx hb d_F_judge_116 (by decide) ?_
              refine p_P_fate hx hb hts hown hK hP hD hS (by omega) mw_133 d_F_judge_117 (fun H locs hP hD hS => ?_)
              refine lv_iload_n hx hb d_F_judge_120 rfl (lv_at hl 4 rfl) ?_
              refine lv_iconst (v := 1) hx hb d_F_judge_121 (by decide) ?_
              refine lv_icmp_ne (tgt := 144) hx hb d_F_judge_122 (by decide) (fun c25 => ?_) (fun c25 => ?_)
              · have _u : True := trivial
                refine lv_aload_n hx hb d_F_judge_144 rfl (lv_at hl 1 rfl) ?_
                refine lv_iconst (v := 0) hx hb d_F_judge_145 (by decide) ?_
                have hA1 := hS.1
                refine va_calli (va_runV (As := [.int (0)]) (rest := []) ⟨hx, hb, hml, hown, hts⟩ (c_F_postsThatAre l D ad ka H.size (pI t 23 r 2) (OKX_f ho (by decide)) 0) (cwV 1 hts (gv mw_477 mw_479 (big_sel (i := 3) (by decide +kernel) (by decide +kernel)) mw_1 mw_480) rfl rfl rfl (by decide +kernel) ⟨Nat.le_of_ble_eq_true rfl, Nat.le_of_ble_eq_true rfl⟩) ⟨PX_blind, va_recv hK hP (ci := 4) (q0 := 0) rfl (at_F), fun U hU hW => ⟨rfl, PX_at hU hW hP hK hD⟩⟩ rfl rfl hl.1 rfl (lv_room (Nat.le_of_ble_eq_true rfl)) d_F_judge_146 ⟨Nat.le_of_ble_eq_true rfl, Nat.le_of_ble_eq_true rfl⟩) hS (fun q _ h => AX_up hA1 q h) (AX_up hA1) (fun r26 t28 tq H1 locs ht hvm hw27 hB hz1 hk1 hS => ?_)
                obtain ⟨hP, hD⟩ := BX_back ht hB (AX_up hA1)
                generalize H1 = H at hP hS ⊢
                obtain ⟨hwr, hwt⟩ := hw27
                rw [hwt] at hP hD
                rw [hwr]
                refine vx_ret (W.widen (k := 2) (n := 12) (by decide) (by decide) ?_)
                exact W.iret (v := cntR (pI t 23 r 2) 0) hx hb hr (fun t9 ht hW => ⟨⟨cntR (pI t 23 r 2) 0, (pI t 23 r 2), rfl, (by first | (simp [judR, judU, judT, hcp, hca, hcv, c4, c11, c21, c22, c23, c24, c25] <;> decide) | (exfalso; simp_all; done)), BX_at ht hW hP hK hD⟩, hS.F ht⟩) hS.2.2 d_F_judge_149
              · have _u : True := trivial
                refine lv_aload_n hx hb d_F_judge_125 rfl (lv_at hl 1 rfl) ?_
                refine g_F_outbox hx hb hts hown hK hP mw_177 d_F_judge_126 ?_
                refine lv_aload hx hb d_F_judge_129 (lv_at hl 0 rfl) ?_
                refine g_P_sender hx hb hts hown hK hP (by omega) mw_128 d_F_judge_131 ?_
                refine lv_aload hx hb d_F_judge_134 (lv_at hl 0 rfl) ?_
                refine g_P_list hx hb hts hown hK hP (by omega) mw_126 d_F_judge_136 ?_
                refine lv_iconst (v := 4) hx hb d_F_judge_139 (by decide) ?_
                refine lv_iload_n hx hb d_F_judge_140 rfl (lv_at hl 3 rfl) ?_
                have hA1 := hS.1
                refine va_callv (va_runV (As := [.int (gI (pI t 23 r 2) 21 r), .int (gI (pI t 23 r 2) 20 r), .int (4), .int (p0)]) (rest := []) ⟨hx, hb, hml, hown, hts⟩ (c_O_add l D ad ka H.size (pI t 23 r 2) (OKX_f ho (by decide)) (gI (pI t 23 r 2) 21 r) (gI (pI t 23 r 2) 20 r) 4 p0) (cwV 4 hts (gv mw_319 mw_320 mw_321 mw_5 mw_322) rfl rfl rfl (by decide +kernel) ⟨Nat.le_of_ble_eq_true rfl, Nat.le_of_ble_eq_true rfl⟩) ⟨PX_blind, va_recv hK hP (ci := 1) (q0 := 3) rfl (at_O), fun U hU hW => ⟨rfl, PX_at hU hW hP hK hD⟩⟩ rfl rfl hl.1 rfl (lv_room (Nat.le_of_ble_eq_true rfl)) d_F_judge_141 ⟨Nat.le_of_ble_eq_true rfl, Nat.le_of_ble_eq_true rfl⟩) hS (fun q _ h => AX_up hA1 q h) (AX_up hA1) (fun t31 tq H1 locs ht hvm hw30 hB hz1 hk1 hS => ?_)
                obtain ⟨hP, hD⟩ := BX_back ht hB (AX_up hA1)
                generalize H1 = H at hP hS ⊢
                rw [hw30] at hP hD
                refine lv_aload_n hx hb d_F_judge_144 rfl (lv_at hl 1 rfl) ?_
                refine lv_iconst (v := 0) hx hb d_F_judge_145 (by decide) ?_
                have hA1 := hS.1
                refine va_calli (va_runV (As := [.int (0)]) (rest := []) ⟨hx, hb, hml, hown, hts⟩ (c_F_postsThatAre l D ad ka H.size (O_add (pI t 23 r 2) (gI (pI t 23 r 2) 21 r) (gI (pI t 23 r 2) 20 r) 4 p0) (OKX_add (OKX_f ho (by decide))) 0) (cwV 1 hts (gv mw_477 mw_479 (big_sel (i := 3) (by decide +kernel) (by decide +kernel)) mw_1 mw_480) rfl rfl rfl (by decide +kernel) ⟨Nat.le_of_ble_eq_true rfl, Nat.le_of_ble_eq_true rfl⟩) ⟨PX_blind, va_recv hK hP (ci := 4) (q0 := 0) rfl (at_F), fun U hU hW => ⟨rfl, PX_at hU hW hP hK hD⟩⟩ rfl rfl hl.1 rfl (lv_room (Nat.le_of_ble_eq_true rfl)) d_F_judge_146 ⟨Nat.le_of_ble_eq_true rfl, Nat.le_of_ble_eq_true rfl⟩) hS (fun q _ h => AX_up hA1 q h) (AX_up hA1) (fun r32 t34 tq H1 locs ht hvm hw33 hB hz1 hk1 hS => ?_)
                obtain ⟨hP, hD⟩ := BX_back ht hB (AX_up hA1)
                generalize H1 = H at hP hS ⊢
                obtain ⟨hwr, hwt⟩ := hw33
                rw [hwt] at hP hD
                rw [hwr]
                refine vx_ret (W.widen (k := 2) (n := 12) (by decide) (by decide) ?_)
                exact W.iret (v := cntR (O_add (pI t 23 r 2) (gI (pI t 23 r 2) 21 r) (gI (pI t 23 r 2) 20 r) 4 p0) 0) hx hb hr (fun t9 ht hW => ⟨⟨cntR (O_add (pI t 23 r 2) (gI (pI t 23 r 2) 21 r) (gI (pI t 23 r 2) 20 r) 4 p0) 0, (O_add (pI t 23 r 2) (gI (pI t 23 r 2) 21 r) (gI (pI t 23 r 2) 20 r) 4 p0), rfl, (by first | (simp [judR, judU, judT, hcp, hca, hcv, c4, c11, c21, c22, c23, c24, c25] <;> decide) | (exfalso; simp_all; done)), BX_at ht hW hP hK hD⟩, hS.F ht⟩) hS.2.2 d_F_judge_149
            · have _u : True := trivial
              refine lv_aload_n hx hb d_F_judge_106 rfl (lv_at hl 1 rfl) ?_
              refine lv_iload_n hx hb d_F_judge_107 rfl (lv_at hl 3 rfl) ?_
              have hA1 := hS.1
              refine va_callv (va_runV (As := [.int (p0)]) (rest := []) ⟨hx, hb, hml, hown, hts⟩ (c_F_letThrough l D ad ka H.size t ho r (by omega) p0 hpr) (cwV 1 hts (gv mw_448 mw_450 (big_sel (i := 2) (by decide +kernel) (by decide +kernel)) mw_1 mw_451) rfl rfl rfl (by decide +kernel) ⟨Nat.le_of_ble_eq_true rfl, Nat.le_of_ble_eq_true rfl⟩) ⟨PX_blind, va_recv hK hP (ci := 4) (q0 := 0) rfl (at_F), fun U hU hW => ⟨rfl, PX_at hU hW hP hK hD⟩⟩ rfl rfl hl.1 rfl (lv_room (Nat.le_of_ble_eq_true rfl)) d_F_judge_108 ⟨Nat.le_of_ble_eq_true rfl, Nat.le_of_ble_eq_true rfl⟩) hS (fun q _ h => AX_up hA1 q h) (AX_up hA1) (fun t37 tq H1 locs ht hvm hw36 hB hz1 hk1 hS => ?_)
              obtain ⟨hP, hD⟩ := BX_back ht hB (AX_up hA1)
              generalize H1 = H at hP hS ⊢
              rw [hw36] at hP hD
              refine lv_goto (tgt := 120) hx hb d_F_judge_111 (by decide) ?_
              refine lv_iload_n hx hb d_F_judge_120 rfl (lv_at hl 4 rfl) ?_
              refine lv_iconst (v := 1) hx hb d_F_judge_121 (by decide) ?_
              refine lv_icmp_ne (tgt := 144) hx hb d_F_judge_122 (by decide) (fun c38 => ?_) (fun c38 => ?_)
              · have _u : True := trivial
                refine lv_aload_n hx hb d_F_judge_144 rfl (lv_at hl 1 rfl) ?_
                refine lv_iconst (v := 0) hx hb d_F_judge_145 (by decide) ?_
                have hA1 := hS.1
                refine va_calli (va_runV (As := [.int (0)]) (rest := []) ⟨hx, hb, hml, hown, hts⟩ (c_F_postsThatAre l D ad ka H.size (passR t r p0) (OKX_pass ho) 0) (cwV 1 hts (gv mw_477 mw_479 (big_sel (i := 3) (by decide +kernel) (by decide +kernel)) mw_1 mw_480) rfl rfl rfl (by decide +kernel) ⟨Nat.le_of_ble_eq_true rfl, Nat.le_of_ble_eq_true rfl⟩) ⟨PX_blind, va_recv hK hP (ci := 4) (q0 := 0) rfl (at_F), fun U hU hW => ⟨rfl, PX_at hU hW hP hK hD⟩⟩ rfl rfl hl.1 rfl (lv_room (Nat.le_of_ble_eq_true rfl)) d_F_judge_146 ⟨Nat.le_of_ble_eq_true rfl, Nat.le_of_ble_eq_true rfl⟩) hS (fun q _ h => AX_up hA1 q h) (AX_up hA1) (fun r39 t41 tq H1 locs ht hvm hw40 hB hz1 hk1 hS => ?_)
                obtain ⟨hP, hD⟩ := BX_back ht hB (AX_up hA1)
                generalize H1 = H at hP hS ⊢
                obtain ⟨hwr, hwt⟩ := hw40
                rw [hwt] at hP hD
                rw [hwr]
                refine vx_ret (W.widen (k := 2) (n := 12) (by decide) (by decide) ?_)
                exact W.iret (v := cntR (passR t r p0) 0) hx hb hr (fun t9 ht hW => ⟨⟨cntR (passR t r p0) 0, (passR t r p0), rfl, (by first | (simp [judR, judU, judT, hcp, hca, hcv, c4, c11, c21, c22, c23, c24, c38] <;> decide) | (exfalso; simp_all; done)), BX_at ht hW hP hK hD⟩, hS.F ht⟩) hS.2.2 d_F_judge_149
              · have _u : True := trivial
                refine lv_aload_n hx hb d_F_judge_125 rfl (lv_at hl 1 rfl) ?_
                refine g_F_outbox hx hb hts hown hK hP mw_177 d_F_judge_126 ?_
                refine lv_aload hx hb d_F_judge_129 (lv_at hl 0 rfl) ?_
                refine g_P_sender hx hb hts hown hK hP (by omega) mw_128 d_F_judge_131 ?_
                refine lv_aload hx hb d_F_judge_134 (lv_at hl 0 rfl) ?_
                refine g_P_list hx hb hts hown hK hP (by omega) mw_126 d_F_judge_136 ?_
                refine lv_iconst (v := 4) hx hb d_F_judge_139 (by decide) ?_
                refine lv_iload_n hx hb d_F_judge_140 rfl (lv_at hl 3 rfl) ?_
                have hA1 := hS.1
                refine va_callv (va_runV (As := [.int (gI (passR t r p0) 21 r), .int (gI (passR t r p0) 20 r), .int (4), .int (p0)]) (rest := []) ⟨hx, hb, hml, hown, hts⟩ (c_O_add l D ad ka H.size (passR t r p0) (OKX_pass ho) (gI (passR t r p0) 21 r) (gI (passR t r p0) 20 r) 4 p0) (cwV 4 hts (gv mw_319 mw_320 mw_321 mw_5 mw_322) rfl rfl rfl (by decide +kernel) ⟨Nat.le_of_ble_eq_true rfl, Nat.le_of_ble_eq_true rfl⟩) ⟨PX_blind, va_recv hK hP (ci := 1) (q0 := 3) rfl (at_O), fun U hU hW => ⟨rfl, PX_at hU hW hP hK hD⟩⟩ rfl rfl hl.1 rfl (lv_room (Nat.le_of_ble_eq_true rfl)) d_F_judge_141 ⟨Nat.le_of_ble_eq_true rfl, Nat.le_of_ble_eq_true rfl⟩) hS (fun q _ h => AX_up hA1 q h) (AX_up hA1) (fun t44 tq H1 locs ht hvm hw43 hB hz1 hk1 hS => ?_)
                obtain ⟨hP, hD⟩ := BX_back ht hB (AX_up hA1)
                generalize H1 = H at hP hS ⊢
                rw [hw43] at hP hD
                refine lv_aload_n hx hb d_F_judge_144 rfl (lv_at hl 1 rfl) ?_
                refine lv_iconst (v := 0) hx hb d_F_judge_145 (by decide) ?_
                have hA1 := hS.1
                refine va_calli (va_runV (As := [.int (0)]) (rest := []) ⟨hx, hb, hml, hown, hts⟩ (c_F_postsThatAre l D ad ka H.size (O_add (passR t r p0) (gI (passR t r p0) 21 r) (gI (passR t r p0) 20 r) 4 p0) (OKX_add (OKX_pass ho)) 0) (cwV 1 hts (gv mw_477 mw_479 (big_sel (i := 3) (by decide +kernel) (by decide +kernel)) mw_1 mw_480) rfl rfl rfl (by decide +kernel) ⟨Nat.le_of_ble_eq_true rfl, Nat.le_of_ble_eq_true rfl⟩) ⟨PX_blind, va_recv hK hP (ci := 4) (q0 := 0) rfl (at_F), fun U hU hW => ⟨rfl, PX_at hU hW hP hK hD⟩⟩ rfl rfl hl.1 rfl (lv_room (Nat.le_of_ble_eq_true rfl)) d_F_judge_146 ⟨Nat.le_of_ble_eq_true rfl, Nat.le_of_ble_eq_true rfl⟩) hS (fun q _ h => AX_up hA1 q h) (AX_up hA1) (fun r45 t47 tq H1 locs ht hvm hw46 hB hz1 hk1 hS => ?_)
                obtain ⟨hP, hD⟩ := BX_back ht hB (AX_up hA1)
                generalize H1 = H at hP hS ⊢
                obtain ⟨hwr, hwt⟩ := hw46
                rw [hwt] at hP hD
                rw [hwr]
                refine vx_ret (W.widen (k := 2) (n := 12) (by decide) (by decide) ?_)
                exact W.iret (v := cntR (O_add (passR t r p0) (gI (passR t r p0) 21 r) (gI (passR t r p0) 20 r) 4 p0) 0) hx hb hr (fun t9 ht hW => ⟨⟨cntR (O_add (passR t r p0) (gI (passR t r p0) 21 r) (gI (passR t r p0) 20 r) 4 p0) 0, (O_add (passR t r p0) (gI (passR t r p0) 21 r) (gI (passR t r p0) 20 r) 4 p0), rfl, (by first | (simp [judR, judU, judT, hcp, hca, hcv, c4, c11, c21, c22, c23, c24, c38] <;> decide) | (exfalso; simp_all; done)), BX_at ht hW hP hK hD⟩, hS.F ht⟩) hS.2.2 d_F_judge_149
          · have _u : True := trivial
            exact vx_throwS (names := RTE) (own := "ListForge") (cls := e_UOE) (text := "only a moderator of the list may judge") hx hb hl0 hown (by decide) (by decide) (bg hts mw_299) (bg hts mw_12) (hZ.2.2.2 (169, "only a moderator of the list may judge") (by decide)) (hatO hts hZ.1 ag_UOE an_UOE) ao_UOE hZ.2.1 hZ.2.2.1 hS (by rw [hml]; exact hl.1) d_F_judge_92 d_F_judge_95 d_F_judge_96 d_F_judge_98 d_F_judge_101 (fun x hx9 => (hTb x hx9).elim) (by decide) (Nat.le_of_ble_eq_true rfl) (by decide) (by decide) hlocks (fun t9 a9 z9 k9 => XT_at hP hK hD hS (Or.inr (Or.inr ⟨rfl, by simp [judR, c4, c11, c21, c22, c23, hcp, hca, hcv]⟩)) a9 z9 k9) (fun z hz => hS.2.2 z hz) (by decide) (by decide)
        · have _u : True := trivial
          exact nt_throw (own := "ListForge") (cls := e_NSE) (text := "no such post is held") hx hb hl0 hown (by decide) (bg hts mw_335) (bg hts mw_13) (hZ.2.2.2 (164, "no such post is held") (by decide)) (hatO hts hZ.1 ag_NSE an_NSE) ao_NSE hZ.2.1 hZ.2.2.1 hS (by rw [hml]; exact hl.1) d_F_judge_53 d_F_judge_56 d_F_judge_57 d_F_judge_59 d_F_judge_62 (fun x hx9 => (hTb x hx9).elim) (by decide) (Nat.le_of_ble_eq_true rfl) (by decide) (by decide) hlocks (fun t9 a9 z9 k9 => XT_at hP hK hD hS (Or.inr (Or.inl ⟨rfl, by simp [judR, c4, c11, c21, c22, hcp]⟩)) a9 z9 k9) (fun z hz => hS.2.2 z hz) (by decide) (by decide)
set_option maxHeartbeats 4000000 in
set_option maxRecDepth 100000 in
theorem c_F_countOfList (l : Launch) (D : va_G) (ad : Nat → Nat) (ka : Nat → ClassId) (sz : Nat) (t : Mem) (u : Nat) (hu : u < 3) (q0 : Int32) : Met l y_F_countOfList (Cond.code y_F_countOfList b_F_countOfList 2 (some .int) :: big) ({ frames := 1, cells := 0, slots := 0, locals := 22 }) (va_Pc [.ref (ad (8 + u)), .int (q0)] (PX D ad ka sz t)) (va_Qi (fun (r : Int32) (t' : Mem) => r = cofR t u q0 ∧ t' = t) (BX D ad ka sz) (AX ad sz)) 0 0 (AX ad sz) := by
  refine Met.ofW (cc := b_F_countOfList) (maxL := 2) (ret := (some .int)) (by decide) rfl ?_
  intro p e s m args below meth c s₁ B hml hv
  obtain ⟨rfl, hsz, hP, hK, hD0⟩ := hv
  have hx := B.exec
  have hb := B.bytes
  have hr := B.returns
  have hlocks := B.notSynchronized
  have hts := atoms_spec (ws := Cond.code y_F_countOfList b_F_countOfList 2 (some .int) :: big) B.pre
  have hown : s.vm.findClass "ListForge" = some m.cls := findClass_of_methodNamed B.named
  subst hsz
  have hD : va_D (AX ad s.heap.size) (cw ad ka t) := AX_D hD0
  have hS : va_S (AX ad s.heap.size) s.heap s.heap [] := va_S.rf
  have hl := lv_entry ([.ref (ad (8 + u)), .int (q0)]) (n := 2) (Nat.le_of_ble_eq_true rfl)
  rw [lg_entry_eq]
  generalize (lg_sl ([.ref (ad (8 + u)), .int (q0)]) ++ List.replicate (2 - (lg_sl ([.ref (ad (8 + u)), .int (q0)])).length) Slot.unset).toArray = ls at hl ⊢
  have hl : lv_has ls 2 [(0, .ref (ad (8 + u))), (1, .int (q0))] := hl

  refine lv_iload_n hx hb d_F_countOfList_0 rfl (lv_at hl 1 rfl) ?_
  by_cases k1 : q0 = 1
  · have _u : True := trivial
    refine lv_tableIn (off := 27) (tgt := 28) hx hb d_F_countOfList_1 (by rw [k1]; decide) (by rw [k1]; decide) (by rw [k1]; decide) (by decide) ?_
    refine lv_aload_n hx hb d_F_countOfList_28 rfl (lv_at hl 0 rfl) ?_
    have hA1 := hS.1
    refine va_calli (va_runV (As := []) (rest := []) ⟨hx, hb, hml, hown, hts⟩ (c_L_subscriptionCount l D ad ka s.heap.size t u hu) (cwV 0 hts (gv mw_575 mw_576 mw_577 mw_2 mw_578) rfl rfl rfl (by decide +kernel) ⟨Nat.le_of_ble_eq_true rfl, Nat.le_of_ble_eq_true rfl⟩) ⟨PX_blind, va_recv hK hP (ci := 0) (q0 := 8 + u) rfl (at_L hu), fun U hU hW => ⟨rfl, PX_at hU hW hP hK hD⟩⟩ rfl rfl hl.1 rfl (lv_room (Nat.le_of_ble_eq_true rfl)) d_F_countOfList_29 ⟨Nat.le_of_ble_eq_true rfl, Nat.le_of_ble_eq_true rfl⟩) hS (fun q _ h => AX_up hA1 q h) (AX_up hA1) (fun r2 t4 tq H1 locs ht hvm hw3 hB hz1 hk1 hS => ?_)
    obtain ⟨hP, hD⟩ := BX_back ht hB (AX_up hA1)
    generalize H1 = H at hP hS ⊢
    obtain ⟨hwr, hwt⟩ := hw3
    rw [hwt] at hP hD
    rw [hwr]
    exact W.iret (v := L_subs t u) hx hb hr (fun t9 ht hW => ⟨⟨L_subs t u, t, rfl, ⟨by simp [cofR, k1], rfl⟩, BX_at ht hW hP hK hD⟩, hS.F ht⟩) hS.2.2 d_F_countOfList_32
  by_cases k5 : q0 = 2
  · have _u : True := trivial
    refine lv_tableIn (off := 32) (tgt := 33) hx hb d_F_countOfList_1 (by rw [k5]; decide) (by rw [k5]; decide) (by rw [k5]; decide) (by decide) ?_
    refine lv_aload_n hx hb d_F_countOfList_33 rfl (lv_at hl 0 rfl) ?_
    have hA1 := hS.1
    refine va_calli (va_runV (As := []) (rest := []) ⟨hx, hb, hml, hown, hts⟩ (c_L_liveCount l D ad ka s.heap.size t u hu) (cwV 0 hts (gv mw_579 mw_580 mw_581 mw_2 mw_582) rfl rfl rfl (by decide +kernel) ⟨Nat.le_of_ble_eq_true rfl, Nat.le_of_ble_eq_true rfl⟩) ⟨PX_blind, va_recv hK hP (ci := 0) (q0 := 8 + u) rfl (at_L hu), fun U hU hW => ⟨rfl, PX_at hU hW hP hK hD⟩⟩ rfl rfl hl.1 rfl (lv_room (Nat.le_of_ble_eq_true rfl)) d_F_countOfList_34 ⟨Nat.le_of_ble_eq_true rfl, Nat.le_of_ble_eq_true rfl⟩) hS (fun q _ h => AX_up hA1 q h) (AX_up hA1) (fun r6 t8 tq H1 locs ht hvm hw7 hB hz1 hk1 hS => ?_)
    obtain ⟨hP, hD⟩ := BX_back ht hB (AX_up hA1)
    generalize H1 = H at hP hS ⊢
    obtain ⟨hwr, hwt⟩ := hw7
    rw [hwt] at hP hD
    rw [hwr]
    exact W.iret (v := L_lives t u) hx hb hr (fun t9 ht hW => ⟨⟨L_lives t u, t, rfl, ⟨by simp [cofR, k1, k5], rfl⟩, BX_at ht hW hP hK hD⟩, hS.F ht⟩) hS.2.2 d_F_countOfList_37
  by_cases k9 : q0 = 3
  · have _u : True := trivial
    refine lv_tableIn (off := 37) (tgt := 38) hx hb d_F_countOfList_1 (by rw [k9]; decide) (by rw [k9]; decide) (by rw [k9]; decide) (by decide) ?_
    refine lv_aload_n hx hb d_F_countOfList_38 rfl (lv_at hl 0 rfl) ?_
    refine g_L_bundlePosts hx hb hts hown hK hP hu mw_88 d_F_countOfList_39 ?_
    exact W.iret (v := gI t 14 u) hx hb hr (fun t9 ht hW => ⟨⟨gI t 14 u, t, rfl, ⟨by simp [cofR, k1, k5, k9], rfl⟩, BX_at ht hW hP hK hD⟩, hS.F ht⟩) hS.2.2 d_F_countOfList_42
  refine lv_tableOut (tgt := 43) hx hb d_F_countOfList_1 (by have ek1 := lv_neT (a := 1) k1 rfl; have ek5 := lv_neT (a := 2) k5 rfl; have ek9 := lv_neT (a := 3) k9 rfl; omega) (by decide) ?_
  refine lv_aload_n hx hb d_F_countOfList_43 rfl (lv_at hl 0 rfl) ?_
  refine g_L_bundleSizes hx hb hts hown hK hP hu mw_90 d_F_countOfList_44 ?_
  exact W.iret (v := gI t 15 u) hx hb hr (fun t9 ht hW => ⟨⟨gI t 15 u, t, rfl, ⟨by simp [cofR, k1, k5, k9], rfl⟩, BX_at ht hW hP hK hD⟩, hS.F ht⟩) hS.2.2 d_F_countOfList_47
set_option maxHeartbeats 4000000 in
set_option maxRecDepth 100000 in
theorem c_F_count (l : Launch) (hl0 : l.stackTraces = false) (D : va_G) (ad : Nat → Nat) (ka : Nat → ClassId) (sa : Nat → Nat) (sz : Nat) (t : Mem) (ho : OKX t) (w : Int32) : vx_Met l y_F_count (Cond.code y_F_count b_F_count 2 (some .int) :: big) ({ frames := 7, cells := 1, slots := 6, locals := 102 }) (va_Pc [.ref (ad (0)), .int (w)] (PZ D ad ka sa sz t)) (va_Qi (fun (r : Int32) (t' : Mem) => countR t w = (0, r, t')) (BX D ad ka sz) (AX ad sz)) (XT D ad ka sz t (fun E => (E = e_IAE ∧ (countR t w).1 = 1))) 1 6 (AX ad sz) := by
  refine vx_ofW (cc := b_F_count) (maxL := 2) (ret := (some .int)) (by decide) rfl ?_
  intro p e s m args below meth c s₁ B hml hTb hv
  obtain ⟨rfl, ⟨hsz, hP, hK, hD0⟩, hZ⟩ := hv
  have hx := B.exec
  have hb := B.bytes
  have hr := B.returns
  have hlocks := B.notSynchronized
  have hts := atoms_spec (ws := Cond.code y_F_count b_F_count 2 (some .int) :: big) B.pre
  have hown : s.vm.findClass "ListForge" = some m.cls := findClass_of_methodNamed B.named
  subst hsz
  have hD : va_D (AX ad s.heap.size) (cw ad ka t) := AX_D hD0
  have hS : va_S (AX ad s.heap.size) s.heap s.heap [] := va_S.rf
  have hl := lv_entry ([.ref (ad (0)), .int (w)]) (n := 2) (Nat.le_of_ble_eq_true rfl)
  rw [lg_entry_eq]
  generalize (lg_sl ([.ref (ad (0)), .int (w)]) ++ List.replicate (2 - (lg_sl ([.ref (ad (0)), .int (w)])).length) Slot.unset).toArray = ls at hl ⊢
  have hl : lv_has ls 2 [(0, .ref (ad (0))), (1, .int (w))] := hl

  refine lv_iload_n hx hb d_F_count_0 rfl (lv_at hl 1 rfl) ?_
  by_cases k1 : w = 0
  · have _u : True := trivial
    refine lv_tableIn (off := 35) (tgt := 36) hx hb d_F_count_1 (by rw [k1]; decide) (by rw [k1]; decide) (by rw [k1]; decide) (by decide) ?_
    refine lv_aload_n hx hb d_F_count_36 rfl (lv_at hl 0 rfl) ?_
    refine g_F_today hx hb hts hown hK hP mw_180 d_F_count_37 ?_
    refine vx_ret (W.widen (k := 1) (n := 6) (by decide) (by decide) ?_)
    exact W.iret (v := gI t 32 0) hx hb hr (fun t9 ht hW => ⟨⟨gI t 32 0, t, rfl, (by simp [countR, k1]), BX_at ht hW hP hK hD⟩, hS.F ht⟩) hS.2.2 d_F_count_40
  by_cases k2 : w = 1
  · have _u : True := trivial
    refine lv_tableIn (off := 40) (tgt := 41) hx hb d_F_count_1 (by rw [k2]; decide) (by rw [k2]; decide) (by rw [k2]; decide) (by decide) ?_
    refine lv_aload_n hx hb d_F_count_41 rfl (lv_at hl 0 rfl) ?_
    refine g_F_postCount hx hb hts hown hK hP mw_178 d_F_count_42 ?_
    refine vx_ret (W.widen (k := 1) (n := 6) (by decide) (by decide) ?_)
    exact W.iret (v := gI t 30 0) hx hb hr (fun t9 ht hW => ⟨⟨gI t 30 0, t, rfl, (by simp [countR, k1, k2]), BX_at ht hW hP hK hD⟩, hS.F ht⟩) hS.2.2 d_F_count_45
  by_cases k3 : w = 2
  · have _u : True := trivial
    refine lv_tableIn (off := 45) (tgt := 46) hx hb d_F_count_1 (by rw [k3]; decide) (by rw [k3]; decide) (by rw [k3]; decide) (by decide) ?_
    refine lv_aload_n hx hb d_F_count_46 rfl (lv_at hl 0 rfl) ?_
    refine lv_iconst (v := 0) hx hb d_F_count_47 (by decide) ?_
    have hA1 := hS.1
    refine va_calli (va_runV (As := [.int (0)]) (rest := []) ⟨hx, hb, hml, hown, hts⟩ (c_F_postsThatAre l D ad ka s.heap.size t ho 0) (cwV 1 hts (gv mw_477 mw_479 (big_sel (i := 3) (by decide +kernel) (by decide +kernel)) mw_1 mw_480) rfl rfl rfl (by decide +kernel) ⟨Nat.le_of_ble_eq_true rfl, Nat.le_of_ble_eq_true rfl⟩) ⟨PX_blind, va_recv hK hP (ci := 4) (q0 := 0) rfl (at_F), fun U hU hW => ⟨rfl, PX_at hU hW hP hK hD⟩⟩ rfl rfl hl.1 rfl (lv_room (Nat.le_of_ble_eq_true rfl)) d_F_count_48 ⟨Nat.le_of_ble_eq_true rfl, Nat.le_of_ble_eq_true rfl⟩) hS (fun q _ h => AX_up hA1 q h) (AX_up hA1) (fun r4 t6 tq H1 locs ht hvm hw5 hB hz1 hk1 hS => ?_)
    obtain ⟨hP, hD⟩ := BX_back ht hB (AX_up hA1)
    generalize H1 = H at hP hS ⊢
    obtain ⟨hwr, hwt⟩ := hw5
    rw [hwt] at hP hD
    rw [hwr]
    refine vx_ret (W.widen (k := 1) (n := 6) (by decide) (by decide) ?_)
    exact W.iret (v := cntR t 0) hx hb hr (fun t9 ht hW => ⟨⟨cntR t 0, t, rfl, (by simp [countR, k1, k2, k3]), BX_at ht hW hP hK hD⟩, hS.F ht⟩) hS.2.2 d_F_count_51
  by_cases k7 : w = 3
  · have _u : True := trivial
    refine lv_tableIn (off := 51) (tgt := 52) hx hb d_F_count_1 (by rw [k7]; decide) (by rw [k7]; decide) (by rw [k7]; decide) (by decide) ?_
    refine lv_aload_n hx hb d_F_count_52 rfl (lv_at hl 0 rfl) ?_
    refine lv_iconst (v := 1) hx hb d_F_count_53 (by decide) ?_
    have hA1 := hS.1
    refine va_calli (va_runV (As := [.int (1)]) (rest := []) ⟨hx, hb, hml, hown, hts⟩ (c_F_postsThatAre l D ad ka s.heap.size t ho 1) (cwV 1 hts (gv mw_477 mw_479 (big_sel (i := 3) (by decide +kernel) (by decide +kernel)) mw_1 mw_480) rfl rfl rfl (by decide +kernel) ⟨Nat.le_of_ble_eq_true rfl, Nat.le_of_ble_eq_true rfl⟩) ⟨PX_blind, va_recv hK hP (ci := 4) (q0 := 0) rfl (at_F), fun U hU hW => ⟨rfl, PX_at hU hW hP hK hD⟩⟩ rfl rfl hl.1 rfl (lv_room (Nat.le_of_ble_eq_true rfl)) d_F_count_54 ⟨Nat.le_of_ble_eq_true rfl, Nat.le_of_ble_eq_true rfl⟩) hS (fun q _ h => AX_up hA1 q h) (AX_up hA1) (fun r8 t10 tq H1 locs ht hvm hw9 hB hz1 hk1 hS => ?_)
    obtain ⟨hP, hD⟩ := BX_back ht hB (AX_up hA1)
    generalize H1 = H at hP hS ⊢
    obtain ⟨hwr, hwt⟩ := hw9
    rw [hwt] at hP hD
    rw [hwr]
    refine vx_ret (W.widen (k := 1) (n := 6) (by decide) (by decide) ?_)
    exact W.iret (v := cntR t 1) hx hb hr (fun t9 ht hW => ⟨⟨cntR t 1, t, rfl, (by simp [countR, k1, k2, k3, k7]), BX_at ht hW hP hK hD⟩, hS.F ht⟩) hS.2.2 d_F_count_57
  by_cases k11 : w = 4
  · have _u : True := trivial
    refine lv_tableIn (off := 57) (tgt := 58) hx hb d_F_count_1 (by rw [k11]; decide) (by rw [k11]; decide) (by rw [k11]; decide) (by decide) ?_
    refine lv_aload_n hx hb d_F_count_58 rfl (lv_at hl 0 rfl) ?_
    refine g_F_outbox hx hb hts hown hK hP mw_177 d_F_count_59 ?_
    refine g_O_total hx hb hts hown hK hP mw_160 d_F_count_62 ?_
    refine vx_ret (W.widen (k := 1) (n := 6) (by decide) (by decide) ?_)
    exact W.iret (v := gI t 29 0) hx hb hr (fun t9 ht hW => ⟨⟨gI t 29 0, t, rfl, (by simp [countR, k1, k2, k3, k7, k11]), BX_at ht hW hP hK hD⟩, hS.F ht⟩) hS.2.2 d_F_count_65
  refine lv_tableOut (tgt := 66) hx hb d_F_count_1 (by have ek1 := lv_neT (a := 0) k1 rfl; have ek2 := lv_neT (a := 1) k2 rfl; have ek3 := lv_neT (a := 2) k3 rfl; have ek7 := lv_neT (a := 3) k7 rfl; have ek11 := lv_neT (a := 4) k11 rfl; omega) (by decide) ?_
  refine lv_iload_n hx hb d_F_count_66 rfl (lv_at hl 1 rfl) ?_
  refine lv_bipush (v := 10) hx hb d_F_count_67 (by decide) ?_
  refine lv_bipush (v := 49) hx hb d_F_count_69 (by decide) ?_
  have hA1 := hS.1
  refine va_calli (va_runS (As := [.int (w), .int (10), .int (49)]) (rest := []) ⟨hx, hb, hml, hown, hts⟩ (c_F_isWithin l D ad ka s.heap.size t w 10 49) (cwS 3 hts (gs mw_207 mw_208 mw_1 mw_209) rfl rfl rfl (by decide +kernel) ⟨Nat.le_of_ble_eq_true rfl, Nat.le_of_ble_eq_true rfl⟩) ⟨PX_blind, fun U hU hW => ⟨rfl, PX_at hU hW hP hK hD⟩⟩ rfl rfl hl.1 rfl (lv_room (Nat.le_of_ble_eq_true rfl)) d_F_count_71 ⟨Nat.le_of_ble_eq_true rfl, Nat.le_of_ble_eq_true rfl⟩) hS (fun q _ h => AX_up hA1 q h) (AX_up hA1) (fun r12 t14 tq H1 locs ht hvm hw13 hB hz1 hk1 hS => ?_)
  obtain ⟨hP, hD⟩ := BX_back ht hB (AX_up hA1)
  generalize H1 = H at hP hS ⊢
  obtain ⟨hwr, hwt⟩ := hw13
  rw [hwt] at hP hD
  rw [hwr]
  refine lv_if_eq (tgt := 89) hx hb d_F_count_74 (by decide) (fun c15 => ?_) (fun c15 => ?_)
  · have _u : True := trivial
    refine lv_iconst (v := 0) hx hb d_F_count_89 (by decide) ?_
    have hA1 := hS.1
    refine vx_callv (vx_runS (As := [.int (0)]) (rest := []) ⟨hx, hb, hml, hown, hts⟩ (c_F_require l hl0 D ad ka sa H.size t 0) (cwS 1 hts (gs mw_210 mw_211 mw_1 mw_212) rfl rfl rfl (by decide +kernel) ⟨Nat.le_of_ble_eq_true rfl, Nat.le_of_ble_eq_true rfl⟩) ⟨PZ_blind, fun U hU hW => ⟨rfl, PX_at hU hW hP hK hD, ZX_at hU hW hZ hS⟩⟩ rfl rfl hl.1 rfl (lv_room (Nat.le_of_ble_eq_true rfl)) d_F_count_90 ⟨Nat.le_of_ble_eq_true rfl, Nat.le_of_ble_eq_true rfl⟩) hS (fun q _ h => AX_up hA1 q h) (AX_up hA1) (fun q _ h => AX_up hA1 q h) (fun E ce q9 _ tq H1 locs ht hvm _ hB hz1 hk1 hS hce hcv hcl => vx_out (fun x hx9 => (hTb x hx9).elim) hlocks hce hcv hcl (fun t9 e9 a9 => XT_out ht hB.2 (AX_up hA1) hK hS ⟨hB.1.1, by simp [countR, k1, k2, k3, k7, k11, c15]⟩ e9 a9) (fun z hz => hS.2.2 z hz) (by decide) (by decide)) (fun t18 tq H1 locs ht hvm hw17 hB hz1 hk1 hS => ?_)
    obtain ⟨hP, hD⟩ := BX_back ht hB (AX_up hA1)
    generalize H1 = H at hP hS ⊢
    obtain ⟨hwt, hz90⟩ := hw17
    exact absurd rfl hz90
  · have _u : True := trivial
    refine lv_iload_n hx hb d_F_count_77 rfl (lv_at hl 1 rfl) ?_
    refine lv_bipush (v := 10) hx hb d_F_count_78 (by decide) ?_
    refine lv_irem hx hb d_F_count_80 (by decide) ?_
    refine lv_iconst (v := 3) hx hb d_F_count_81 (by decide) ?_
    refine lv_icmp_ge (tgt := 89) hx hb d_F_count_82 (by decide) (fun c19 => ?_) (fun c19 => ?_)
    · have _u : True := trivial
      refine lv_iconst (v := 0) hx hb d_F_count_89 (by decide) ?_
      have hA1 := hS.1
      refine vx_callv (vx_runS (As := [.int (0)]) (rest := []) ⟨hx, hb, hml, hown, hts⟩ (c_F_require l hl0 D ad ka sa H.size t 0) (cwS 1 hts (gs mw_210 mw_211 mw_1 mw_212) rfl rfl rfl (by decide +kernel) ⟨Nat.le_of_ble_eq_true rfl, Nat.le_of_ble_eq_true rfl⟩) ⟨PZ_blind, fun U hU hW => ⟨rfl, PX_at hU hW hP hK hD, ZX_at hU hW hZ hS⟩⟩ rfl rfl hl.1 rfl (lv_room (Nat.le_of_ble_eq_true rfl)) d_F_count_90 ⟨Nat.le_of_ble_eq_true rfl, Nat.le_of_ble_eq_true rfl⟩) hS (fun q _ h => AX_up hA1 q h) (AX_up hA1) (fun q _ h => AX_up hA1 q h) (fun E ce q9 _ tq H1 locs ht hvm _ hB hz1 hk1 hS hce hcv hcl => vx_out (fun x hx9 => (hTb x hx9).elim) hlocks hce hcv hcl (fun t9 e9 a9 => XT_out ht hB.2 (AX_up hA1) hK hS ⟨hB.1.1, by simp [countR, k1, k2, k3, k7, k11, c15, c19]⟩ e9 a9) (fun z hz => hS.2.2 z hz) (by decide) (by decide)) (fun t22 tq H1 locs ht hvm hw21 hB hz1 hk1 hS => ?_)
      obtain ⟨hP, hD⟩ := BX_back ht hB (AX_up hA1)
      generalize H1 = H at hP hS ⊢
      obtain ⟨hwt, hz90⟩ := hw21
      exact absurd rfl hz90
    · have _u : True := trivial
      obtain ⟨u, hu, hwu⟩ := isW_r c15 c19
      have hcu : cl (w - w / 10 * 10) = u := cl_of hwu (by omega)
      refine lv_iconst (v := 1) hx hb d_F_count_85 (by decide) ?_
      refine lv_goto (tgt := 90) hx hb d_F_count_86 (by decide) ?_
      have hA1 := hS.1
      refine vx_callv (vx_runS (As := [.int (1)]) (rest := []) ⟨hx, hb, hml, hown, hts⟩ (c_F_require l hl0 D ad ka sa H.size t 1) (cwS 1 hts (gs mw_210 mw_211 mw_1 mw_212) rfl rfl rfl (by decide +kernel) ⟨Nat.le_of_ble_eq_true rfl, Nat.le_of_ble_eq_true rfl⟩) ⟨PZ_blind, fun U hU hW => ⟨rfl, PX_at hU hW hP hK hD, ZX_at hU hW hZ hS⟩⟩ rfl rfl hl.1 rfl (lv_room (Nat.le_of_ble_eq_true rfl)) d_F_count_90 ⟨Nat.le_of_ble_eq_true rfl, Nat.le_of_ble_eq_true rfl⟩) hS (fun q _ h => AX_up hA1 q h) (AX_up hA1) (fun q _ h => AX_up hA1 q h) (fun E ce q9 _ tq H1 locs ht hvm _ hB hz1 hk1 hS hce hcv hcl => vx_out (fun x hx9 => (hTb x hx9).elim) hlocks hce hcv hcl (fun t9 e9 a9 => XT_out ht hB.2 (AX_up hA1) hK hS (absurd hB.1.2 (by decide)) e9 a9) (fun z hz => hS.2.2 z hz) (by decide) (by decide)) (fun t25 tq H1 locs ht hvm hw24 hB hz1 hk1 hS => ?_)
      obtain ⟨hP, hD⟩ := BX_back ht hB (AX_up hA1)
      generalize H1 = H at hP hS ⊢
      obtain ⟨hwt, hz90⟩ := hw24
      rw [hwt] at hP hD
      refine lv_aload_n hx hb d_F_count_93 rfl (lv_at hl 0 rfl) ?_
      refine g_F_lists hx hb hts hown hK hP mw_175 d_F_count_94 ?_
      refine lv_iload_n hx hb d_F_count_97 rfl (lv_at hl 1 rfl) ?_
      refine lv_bipush (v := 10) hx hb d_F_count_98 (by decide) ?_
      refine lv_irem hx hb d_F_count_100 (by decide) ?_
      refine a_lists hx hb hK hP (r := u) hu hwu d_F_count_101 ?_
      refine lv_iload_n hx hb d_F_count_102 rfl (lv_at hl 1 rfl) ?_
      refine lv_bipush (v := 10) hx hb d_F_count_103 (by decide) ?_
      refine lv_idiv hx hb d_F_count_105 (by decide) ?_
      have hA1 := hS.1
      refine va_calli (va_runS (As := [.ref (ad (8 + u)), .int (w / 10)]) (rest := []) ⟨hx, hb, hml, hown, hts⟩ (c_F_countOfList l D ad ka H.size t u hu (w / 10)) (cwS 2 hts (gs mw_572 mw_573 mw_1 mw_574) rfl rfl rfl (by decide +kernel) ⟨Nat.le_of_ble_eq_true rfl, Nat.le_of_ble_eq_true rfl⟩) ⟨PX_blind, fun U hU hW => ⟨rfl, PX_at hU hW hP hK hD⟩⟩ rfl rfl hl.1 rfl (lv_room (Nat.le_of_ble_eq_true rfl)) d_F_count_106 ⟨Nat.le_of_ble_eq_true rfl, Nat.le_of_ble_eq_true rfl⟩) hS (fun q _ h => AX_up hA1 q h) (AX_up hA1) (fun r26 t28 tq H1 locs ht hvm hw27 hB hz1 hk1 hS => ?_)
      obtain ⟨hP, hD⟩ := BX_back ht hB (AX_up hA1)
      generalize H1 = H at hP hS ⊢
      obtain ⟨hwr, hwt⟩ := hw27
      rw [hwt] at hP hD
      rw [hwr]
      refine vx_ret (W.widen (k := 1) (n := 6) (by decide) (by decide) ?_)
      exact W.iret (v := cofR t u (w / 10)) hx hb hr (fun t9 ht hW => ⟨⟨cofR t u (w / 10), t, rfl, (by simp [countR, k1, k2, k3, k7, k11, c15, c19, hcu]), BX_at ht hW hP hK hD⟩, hS.F ht⟩) hS.2.2 d_F_count_109
set_option maxHeartbeats 4000000 in
set_option maxRecDepth 100000 in
theorem c_F_tick (l : Launch) (hl0 : l.stackTraces = false) (D : va_G) (ad : Nat → Nat) (ka : Nat → ClassId) (sa : Nat → Nat) (sz : Nat) (t : Mem) (ho : OKX t) (d0 : Int32) : vx_Met l y_F_tick (Cond.code y_F_tick b_F_tick 4 (some .int) :: big) ({ frames := 7, cells := 1, slots := 6, locals := 102 }) (va_Pc [.ref (ad (0)), .int (d0)] (PZ D ad ka sa sz t)) (va_Qi (fun (r : Int32) (t' : Mem) => tickR t d0 = (0, r, t')) (BX D ad ka sz) (AX ad sz)) (XT D ad ka sz t (fun E => (E = e_IAE ∧ (tickR t d0).1 = 1))) 1 6 (AX ad sz) := by
  refine vx_ofW (cc := b_F_tick) (maxL := 4) (ret := (some .int)) (by decide) rfl ?_
  intro p e s m args below meth c s₁ B hml hTb hv
  obtain ⟨rfl, ⟨hsz, hP, hK, hD0⟩, hZ⟩ := hv
  have hx := B.exec
  have hb := B.bytes
  have hr := B.returns
  have hlocks := B.notSynchronized
  have hts := atoms_spec (ws := Cond.code y_F_tick b_F_tick 4 (some .int) :: big) B.pre
  have hown : s.vm.findClass "ListForge" = some m.cls := findClass_of_methodNamed B.named
  subst hsz
  have hD : va_D (AX ad s.heap.size) (cw ad ka t) := AX_D hD0
  have hS : va_S (AX ad s.heap.size) s.heap s.heap [] := va_S.rf
  have hl := lv_entry ([.ref (ad (0)), .int (d0)]) (n := 4) (Nat.le_of_ble_eq_true rfl)
  rw [lg_entry_eq]
  generalize (lg_sl ([.ref (ad (0)), .int (d0)]) ++ List.replicate (4 - (lg_sl ([.ref (ad (0)), .int (d0)])).length) Slot.unset).toArray = ls at hl ⊢
  have hl : lv_has ls 4 [(0, .ref (ad (0))), (1, .int (d0))] := hl

  refine lv_iload_n hx hb d_F_tick_0 rfl (lv_at hl 1 rfl) ?_
  refine lv_iconst (v := 1) hx hb d_F_tick_1 (by decide) ?_
  refine lv_bipush (v := 20) hx hb d_F_tick_2 (by decide) ?_
  have hA1 := hS.1
  refine va_calli (va_runS (As := [.int (d0), .int (1), .int (20)]) (rest := []) ⟨hx, hb, hml, hown, hts⟩ (c_F_isWithin l D ad ka s.heap.size t d0 1 20) (cwS 3 hts (gs mw_207 mw_208 mw_1 mw_209) rfl rfl rfl (by decide +kernel) ⟨Nat.le_of_ble_eq_true rfl, Nat.le_of_ble_eq_true rfl⟩) ⟨PX_blind, fun U hU hW => ⟨rfl, PX_at hU hW hP hK hD⟩⟩ rfl rfl hl.1 rfl (lv_room (Nat.le_of_ble_eq_true rfl)) d_F_tick_4 ⟨Nat.le_of_ble_eq_true rfl, Nat.le_of_ble_eq_true rfl⟩) hS (fun q _ h => AX_up hA1 q h) (AX_up hA1) (fun r1 t3 tq H1 locs ht hvm hw2 hB hz1 hk1 hS => ?_)
  obtain ⟨hP, hD⟩ := BX_back ht hB (AX_up hA1)
  generalize H1 = H at hP hS ⊢
  obtain ⟨hwr, hwt⟩ := hw2
  rw [hwt] at hP hD
  rw [hwr]
  have hA1 := hS.1
  refine vx_callv (vx_runS (As := [.int (isW d0 1 20)]) (rest := []) ⟨hx, hb, hml, hown, hts⟩ (c_F_require l hl0 D ad ka sa H.size t (isW d0 1 20)) (cwS 1 hts (gs mw_210 mw_211 mw_1 mw_212) rfl rfl rfl (by decide +kernel) ⟨Nat.le_of_ble_eq_true rfl, Nat.le_of_ble_eq_true rfl⟩) ⟨PZ_blind, fun U hU hW => ⟨rfl, PX_at hU hW hP hK hD, ZX_at hU hW hZ hS⟩⟩ rfl rfl hl.1 rfl (lv_room (Nat.le_of_ble_eq_true rfl)) d_F_tick_7 ⟨Nat.le_of_ble_eq_true rfl, Nat.le_of_ble_eq_true rfl⟩) hS (fun q _ h => AX_up hA1 q h) (AX_up hA1) (fun q _ h => AX_up hA1 q h) (fun E ce q9 _ tq H1 locs ht hvm _ hB hz1 hk1 hS hce hcv hcl => vx_out (fun x hx9 => (hTb x hx9).elim) hlocks hce hcv hcl (fun t9 e9 a9 => XT_out ht hB.2 (AX_up hA1) hK hS ⟨hB.1.1, by simp [tickR, hB.1.2]⟩ e9 a9) (fun z hz => hS.2.2 z hz) (by decide) (by decide)) (fun t6 tq H1 locs ht hvm hw5 hB hz1 hk1 hS => ?_)
  obtain ⟨hP, hD⟩ := BX_back ht hB (AX_up hA1)
  generalize H1 = H at hP hS ⊢
  obtain ⟨hwt, hz7⟩ := hw5
  rw [hwt] at hP hD
  obtain ⟨n9, hn9, hdn⟩ := isW_1 hz7
  have hcd : cl d0 = n9 := cl_of hdn (by omega)
  refine lv_iconst (v := 0) hx hb d_F_tick_10 (by decide) ?_
  refine lv_istore_n (lv' := [(2, .int (0)), (0, .ref (ad (0))), (1, .int (d0))]) hx hb d_F_tick_11 rfl hl (by decide) rfl (fun ls hl => ?_)
  have hloop1 : ∀ (n a1 : Nat) (t11 : Mem) (H : Heap) (locs : List Loc) (ls : Array Slot), a1 ≤ n9 → n9 + 1 ≤ a1 + n → OKX t11 → lp (fun _ t => tickD t) (n9 - a1) a1 t11 = lp (fun _ t => tickD t) n9 0 t → va_P D cls (cw ad ka t11) H → va_D (AX ad s.heap.size) (cw ad ka t11) → va_S (AX ad s.heap.size) s.heap H locs → lv_has ls 4 [(0, .ref (ad (0))), (1, .int (d0)), (2, .int (nI a1))] → W p l e ({ frames := 7, cells := 1, slots := 6, locals := 102 }) s m ([.ref (ad (0)), .int (d0)] : List Value).toArray below meth c H locs 1 6 (vx_MQ below (va_Qi (fun (r : Int32) (t' : Mem) => tickR t d0 = (0, r, t')) (BX D ad ka s.heap.size) (AX ad s.heap.size)) (XT D ad ka s.heap.size t (fun E => (E = e_IAE ∧ (tickR t d0).1 = 1))) ([.ref (ad (0)), .int (d0)] : List Value).toArray s 1 6 (AX ad s.heap.size)) (F0 m 12 ls []) := by
    intro n
    induction n with
    | zero => intro a1 t11 H locs ls h1 h2; exact absurd h2 (by omega)
    | succ n ih1 =>
      intro a1 t11 H locs ls ha1 hn1 ho1 hF1 hP hD hS hl
      refine lv_iload_n hx hb d_F_tick_12 rfl (lv_at hl 2 rfl) ?_
      refine lv_iload_n hx hb d_F_tick_13 rfl (lv_at hl 1 rfl) ?_
      refine lv_icmp_ge (tgt := 63) hx hb d_F_tick_14 (by decide) (fun c7 => ?_) (fun c7 => ?_)
      · have _u : True := trivial
        obtain rfl := nI_eq_of (x := d0) (N := n9) (hdn) (by omega) ha1 c7
        have hE1 := lp_end hF1
        refine lv_aload_n hx hb d_F_tick_63 rfl (lv_at hl 0 rfl) ?_
        refine g_F_today hx hb hts hown hK hP mw_180 d_F_tick_64 ?_
        refine vx_ret (W.widen (k := 1) (n := 6) (by decide) (by decide) ?_)
        exact W.iret (v := gI t11 32 0) hx hb hr (fun t9 ht hW => ⟨⟨gI t11 32 0, t11, rfl, (by simp [tickR, tickT, hz7, hcd, ← hE1]), BX_at ht hW hP hK hD⟩, hS.F ht⟩) hS.2.2 d_F_tick_67
      · have _u : True := trivial
        have hlt1 : a1 < n9 := nI_lt_of (x := d0) (N := n9) (hdn) ha1 c7
        refine lv_aload_n hx hb d_F_tick_17 rfl (lv_at hl 0 rfl) ?_
        refine lv_dup hx hb d_F_tick_18 rfl ?_
        refine g_F_today hx hb hts hown hK hP mw_180 d_F_tick_19 ?_
        refine lv_iconst (v := 1) hx hb d_F_tick_22 (by decide) ?_
        refine lv_iadd hx hb d_F_tick_23 ?_
        refine p_F_today hx hb hts hown hK hP hD hS mw_180 d_F_tick_24 (fun H locs hP hD hS => ?_)
        refine lv_iconst (v := 0) hx hb d_F_tick_27 (by decide) ?_
        refine lv_istore_n (lv' := [(3, .int (0)), (0, .ref (ad (0))), (1, .int (d0)), (2, .int (nI a1))]) hx hb d_F_tick_28 rfl hl (by decide) rfl (fun ls hl => ?_)
        have hloop2 : ∀ (n a2 : Nat) (t12 : Mem) (H : Heap) (locs : List Loc) (ls : Array Slot), a2 ≤ 3 → 3 + 1 ≤ a2 + n → OKX t12 → lp (fun u t => L_day t u (gI t 32 0)) (3 - a2) a2 t12 = lp (fun u t => L_day t u (gI t 32 0)) 3 0 (pI t11 32 0 ((gI t11 32 0) + 1)) → va_P D cls (cw ad ka t12) H → va_D (AX ad s.heap.size) (cw ad ka t12) → va_S (AX ad s.heap.size) s.heap H locs → lv_has ls 4 [(0, .ref (ad (0))), (1, .int (d0)), (2, .int (nI a1)), (3, .int (nI a2))] → W p l e ({ frames := 7, cells := 1, slots := 6, locals := 102 }) s m ([.ref (ad (0)), .int (d0)] : List Value).toArray below meth c H locs 1 6 (vx_MQ below (va_Qi (fun (r : Int32) (t' : Mem) => tickR t d0 = (0, r, t')) (BX D ad ka s.heap.size) (AX ad s.heap.size)) (XT D ad ka s.heap.size t (fun E => (E = e_IAE ∧ (tickR t d0).1 = 1))) ([.ref (ad (0)), .int (d0)] : List Value).toArray s 1 6 (AX ad s.heap.size)) (F0 m 29 ls []) := by
          intro n
          induction n with
          | zero => intro a2 t12 H locs ls h1 h2; exact absurd h2 (by omega)
          | succ n ih2 =>
            intro a2 t12 H locs ls ha2 hn2 ho2 hF2 hP hD hS hl
            refine lv_iload_n hx hb d_F_tick_29 rfl (lv_at hl 3 rfl) ?_
            refine lv_iconst (v := 3) hx hb d_F_tick_30 (by decide) ?_
            refine lv_icmp_ge (tgt := 57) hx hb d_F_tick_31 (by decide) (fun c8 => ?_) (fun c8 => ?_)
            · have _u : True := trivial
              obtain rfl := nI_eq_of (x := 3) (N := 3) (rfl) (by decide) ha2 c8
              have hE2 := lp_end hF2
              refine lv_iinc (v := nI (a1 + 1)) (lv' := [(2, .int (nI (a1 + 1))), (0, .ref (ad (0))), (1, .int (d0)), (3, .int (nI 3))]) hx hb d_F_tick_57 hl (k := 2) rfl (nI_1 _) (by decide) rfl (fun ls hl => ?_)
              refine lv_goto (tgt := 12) hx hb d_F_tick_60 (by decide) ?_
              exact ih1 (a1 + 1) t12 H _ ls (by omega) (by omega) ho2 (lp_next hlt1 hF1 hE2.symm) hP hD hS (lv_sub hl [1, 2, 0] rfl)
            · have _u : True := trivial
              have hlt2 : a2 < 3 := nI_lt_of (x := 3) (N := 3) (rfl) ha2 c8
              refine lv_aload_n hx hb d_F_tick_34 rfl (lv_at hl 0 rfl) ?_
              refine g_F_lists hx hb hts hown hK hP mw_175 d_F_tick_35 ?_
              refine lv_iload_n hx hb d_F_tick_38 rfl (lv_at hl 3 rfl) ?_
              refine a_lists hx hb hK hP (r := a2) hlt2 rfl d_F_tick_39 ?_
              refine lv_aload_n hx hb d_F_tick_40 rfl (lv_at hl 0 rfl) ?_
              refine g_F_today hx hb hts hown hK hP mw_180 d_F_tick_41 ?_
              refine lv_aload_n hx hb d_F_tick_44 rfl (lv_at hl 0 rfl) ?_
              refine g_F_outbox hx hb hts hown hK hP mw_177 d_F_tick_45 ?_
              have hA1 := hS.1
              refine va_callv (va_runV (As := [.int (gI t12 32 0), .ref (ad (3))]) (rest := []) ⟨hx, hb, hml, hown, hts⟩ (c_L_beginDay l D ad ka H.size t12 a2 hlt2 ho2 (gI t12 32 0)) (cwV 2 hts (gv mw_508 mw_509 mw_510 mw_2 mw_511) rfl rfl rfl (by decide +kernel) ⟨Nat.le_of_ble_eq_true rfl, Nat.le_of_ble_eq_true rfl⟩) ⟨PX_blind, va_recv hK hP (ci := 0) (q0 := 8 + a2) rfl (at_L hlt2), fun U hU hW => ⟨rfl, PX_at hU hW hP hK hD⟩⟩ rfl rfl hl.1 rfl (lv_room (Nat.le_of_ble_eq_true rfl)) d_F_tick_48 ⟨Nat.le_of_ble_eq_true rfl, Nat.le_of_ble_eq_true rfl⟩) hS (fun q _ h => AX_up hA1 q h) (AX_up hA1) (fun t11 tq H1 locs ht hvm hw10 hB hz1 hk1 hS => ?_)
              obtain ⟨hP, hD⟩ := BX_back ht hB (AX_up hA1)
              generalize H1 = H at hP hS ⊢
              rw [hw10] at hP hD
              refine lv_iinc (v := nI (a2 + 1)) (lv' := [(3, .int (nI (a2 + 1))), (0, .ref (ad (0))), (1, .int (d0)), (2, .int (nI a1))]) hx hb d_F_tick_51 hl (k := 3) rfl (nI_1 _) (by decide) rfl (fun ls hl => ?_)
              refine lv_goto (tgt := 29) hx hb d_F_tick_54 (by decide) ?_
              exact ih2 (a2 + 1) (L_day t12 a2 (gI t12 32 0)) H _ ls (by omega) (by omega) (OKX_day ho2) (lp_next hlt2 hF2 rfl) hP hD hS (lv_sub hl [1, 2, 3, 0] rfl)
        exact hloop2 (3 + 1) 0 (pI t11 32 0 ((gI t11 32 0) + 1)) H _ ls (by omega) (by omega) (OKX_f ho1 (by decide)) rfl hP hD hS (lv_sub hl [1, 2, 3, 0] rfl)
  exact hloop1 (n9 + 1) 0 t H _ ls (by omega) (by omega) ho rfl hP hD hS (lv_sub hl [1, 2, 0] rfl)
set_option maxHeartbeats 4000000 in
set_option maxRecDepth 100000 in
theorem c_F_confirm (l : Launch) (hl0 : l.stackTraces = false) (D : va_G) (ad : Nat → Nat) (ka : Nat → ClassId) (sa : Nat → Nat) (sz : Nat) (t : Mem) (k0 : Int32) : vx_Met l y_F_confirm (Cond.code y_F_confirm b_F_confirm 5 (some .int) :: big) ({ frames := 6, cells := 1, slots := 6, locals := 82 }) (va_Pc [.ref (ad (0)), .int (k0)] (PZ D ad ka sa sz t)) (va_Qi (fun (r : Int32) (t' : Mem) => ∃ j, j < 36 ∧ mchR t k0 j ∧ (∀ i, i < j → ¬ mchR t k0 i) ∧ r = nI (j % 12) ∧ t' = S_becomeLive t j (gI t 32 0)) (BX D ad ka sz) (AX ad sz)) (XT D ad ka sz t (fun E => E = e_NSE ∧ ∀ i, i < 36 → ¬ mchR t k0 i)) 1 6 (AX ad sz) := by
  refine vx_ofW (cc := b_F_confirm) (maxL := 5) (ret := (some .int)) (by decide) rfl ?_
  intro p e s m args below meth c s₁ B hml hTb hv
  obtain ⟨rfl, ⟨hsz, hP, hK, hD0⟩, hZ⟩ := hv
  have hx := B.exec
  have hb := B.bytes
  have hr := B.returns
  have hlocks := B.notSynchronized
  have hts := atoms_spec (ws := Cond.code y_F_confirm b_F_confirm 5 (some .int) :: big) B.pre
  have hown : s.vm.findClass "ListForge" = some m.cls := findClass_of_methodNamed B.named
  subst hsz
  have hD : va_D (AX ad s.heap.size) (cw ad ka t) := AX_D hD0
  have hS : va_S (AX ad s.heap.size) s.heap s.heap [] := va_S.rf
  have hl := lv_entry ([.ref (ad (0)), .int (k0)]) (n := 5) (Nat.le_of_ble_eq_true rfl)
  rw [lg_entry_eq]
  generalize (lg_sl ([.ref (ad (0)), .int (k0)]) ++ List.replicate (5 - (lg_sl ([.ref (ad (0)), .int (k0)])).length) Slot.unset).toArray = ls at hl ⊢
  have hl : lv_has ls 5 [(0, .ref (ad (0))), (1, .int (k0))] := hl

  refine lv_iconst (v := 0) hx hb d_F_confirm_0 (by decide) ?_
  refine lv_istore_n (lv' := [(2, .int (0)), (0, .ref (ad (0))), (1, .int (k0))]) hx hb d_F_confirm_1 rfl hl (by decide) rfl (fun ls hl => ?_)
  have hloop1 : ∀ (n a1 : Nat) (t11 : Mem) (H : Heap) (locs : List Loc) (ls : Array Slot), a1 ≤ 3 → 3 + 1 ≤ a1 + n → (t11 = t ∧ (∀ i, i < 12 * a1 → ¬ mchR t k0 i)) → lp (fun _ (z : Unit) => z) (3 - a1) a1 () = lp (fun _ (z : Unit) => z) 3 0 () → va_P D cls (cw ad ka t11) H → va_D (AX ad s.heap.size) (cw ad ka t11) → va_S (AX ad s.heap.size) s.heap H locs → lv_has ls 5 [(0, .ref (ad (0))), (1, .int (k0)), (2, .int (nI a1))] → W p l e ({ frames := 6, cells := 1, slots := 6, locals := 82 }) s m ([.ref (ad (0)), .int (k0)] : List Value).toArray below meth c H locs 0 0 (vx_MQ below (va_Qi (fun (r : Int32) (t' : Mem) => ∃ j, j < 36 ∧ mchR t k0 j ∧ (∀ i, i < j → ¬ mchR t k0 i) ∧ r = nI (j % 12) ∧ t' = S_becomeLive t j (gI t 32 0)) (BX D ad ka s.heap.size) (AX ad s.heap.size)) (XT D ad ka s.heap.size t (fun E => E = e_NSE ∧ ∀ i, i < 36 → ¬ mchR t k0 i)) ([.ref (ad (0)), .int (k0)] : List Value).toArray s 1 6 (AX ad s.heap.size)) (F0 m 2 ls []) := by
    intro n
    induction n with
    | zero => intro a1 t11 H locs ls h1 h2; exact absurd h2 (by omega)
    | succ n ih1 =>
      intro a1 t11 H locs ls ha1 hn1 ho1 hF1 hP hD hS hl
      refine lv_iload_n hx hb d_F_confirm_2 rfl (lv_at hl 2 rfl) ?_
      refine lv_iconst (v := 3) hx hb d_F_confirm_3 (by decide) ?_
      refine lv_icmp_ge (tgt := 68) hx hb d_F_confirm_4 (by decide) (fun c1 => ?_) (fun c1 => ?_)
      · have _u : True := trivial
        obtain rfl := nI_eq_of (x := 3) (N := 3) (rfl) (by decide) ha1 c1
        have hE1 := lp_end hF1
        rw [ho1.1] at hP hD
        exact nt_throw (own := "ListForge") (cls := e_NSE) (text := "nothing waits for this code") hx hb hl0 hown (by decide) (bg hts mw_335) (bg hts mw_13) (hZ.2.2.2 (92, "nothing waits for this code") (by decide)) (hatO hts hZ.1 ag_NSE an_NSE) ao_NSE hZ.2.1 hZ.2.2.1 hS (by rw [hml]; exact hl.1) d_F_confirm_68 d_F_confirm_71 d_F_confirm_72 d_F_confirm_74 d_F_confirm_77 (fun x hx9 => (hTb x hx9).elim) (by decide) (Nat.le_of_ble_eq_true rfl) (by decide) (by decide) hlocks (fun t9 a9 z9 k9 => XT_at hP hK hD hS ⟨rfl, fun i hi => ho1.2 i (by omega)⟩ a9 z9 k9) (fun z hz => hS.2.2 z hz) (by decide) (by decide)
      · have _u : True := trivial
        have hlt1 : a1 < 3 := nI_lt_of (x := 3) (N := 3) (rfl) ha1 c1
        refine lv_iconst (v := 0) hx hb d_F_confirm_7 (by decide) ?_
        refine lv_istore_n (lv' := [(3, .int (0)), (0, .ref (ad (0))), (1, .int (k0)), (2, .int (nI a1))]) hx hb d_F_confirm_8 rfl hl (by decide) rfl (fun ls hl => ?_)
        have hloop2 : ∀ (n a2 : Nat) (t12 : Mem) (H : Heap) (locs : List Loc) (ls : Array Slot), a2 ≤ 12 → 12 + 1 ≤ a2 + n → (t12 = t ∧ (∀ i, i < 12 * a1 + a2 → ¬ mchR t k0 i)) → lp (fun _ (z : Unit) => z) (12 - a2) a2 () = lp (fun _ (z : Unit) => z) 12 0 () → va_P D cls (cw ad ka t12) H → va_D (AX ad s.heap.size) (cw ad ka t12) → va_S (AX ad s.heap.size) s.heap H locs → lv_has ls 5 [(0, .ref (ad (0))), (1, .int (k0)), (2, .int (nI a1)), (3, .int (nI a2))] → W p l e ({ frames := 6, cells := 1, slots := 6, locals := 82 }) s m ([.ref (ad (0)), .int (k0)] : List Value).toArray below meth c H locs 0 0 (vx_MQ below (va_Qi (fun (r : Int32) (t' : Mem) => ∃ j, j < 36 ∧ mchR t k0 j ∧ (∀ i, i < j → ¬ mchR t k0 i) ∧ r = nI (j % 12) ∧ t' = S_becomeLive t j (gI t 32 0)) (BX D ad ka s.heap.size) (AX ad s.heap.size)) (XT D ad ka s.heap.size t (fun E => E = e_NSE ∧ ∀ i, i < 36 → ¬ mchR t k0 i)) ([.ref (ad (0)), .int (k0)] : List Value).toArray s 1 6 (AX ad s.heap.size)) (F0 m 9 ls []) := by
          intro n
          induction n with
          | zero => intro a2 t12 H locs ls h1 h2; exact absurd h2 (by omega)
          | succ n ih2 =>
            intro a2 t12 H locs ls ha2 hn2 ho2 hF2 hP hD hS hl
            refine lv_iload_n hx hb d_F_confirm_9 rfl (lv_at hl 3 rfl) ?_
            refine lv_bipush (v := 12) hx hb d_F_confirm_10 (by decide) ?_
            refine lv_icmp_ge (tgt := 62) hx hb d_F_confirm_12 (by decide) (fun c2 => ?_) (fun c2 => ?_)
            · have _u : True := trivial
              obtain rfl := nI_eq_of (x := 12) (N := 12) (rfl) (by decide) ha2 c2
              have hE2 := lp_end hF2
              refine lv_iinc (v := nI (a1 + 1)) (lv' := [(2, .int (nI (a1 + 1))), (0, .ref (ad (0))), (1, .int (k0)), (3, .int (nI 12))]) hx hb d_F_confirm_62 hl (k := 2) rfl (nI_1 _) (by decide) rfl (fun ls hl => ?_)
              refine lv_goto (tgt := 2) hx hb d_F_confirm_65 (by decide) ?_
              exact ih1 (a1 + 1) t12 H _ ls (by omega) (by omega) ⟨ho2.1, fun i hi => ho2.2 i (by omega)⟩ (lp_next hlt1 hF1 rfl) hP hD hS (lv_sub hl [1, 2, 0] rfl)
            · have _u : True := trivial
              have hlt2 : a2 < 12 := nI_lt_of (x := 12) (N := 12) (rfl) ha2 c2
              refine lv_aload_n hx hb d_F_confirm_15 rfl (lv_at hl 0 rfl) ?_
              refine g_F_lists hx hb hts hown hK hP mw_175 d_F_confirm_16 ?_
              refine lv_iload_n hx hb d_F_confirm_19 rfl (lv_at hl 2 rfl) ?_
              refine a_lists hx hb hK hP (r := a1) hlt1 rfl d_F_confirm_20 ?_
              refine g_L_subscriptions hx hb hts hown hK hP hlt1 mw_77 d_F_confirm_21 ?_
              refine lv_iload_n hx hb d_F_confirm_24 rfl (lv_at hl 3 rfl) ?_
              refine a_subs hx hb hK hP hlt1 (r := a2) hlt2 rfl d_F_confirm_25 ?_
              refine lv_astore (lv' := [(4, .ref (ad (60 + (12 * a1 + a2)))), (0, .ref (ad (0))), (1, .int (k0)), (2, .int (nI a1)), (3, .int (nI a2))]) hx hb d_F_confirm_26 hl (by decide) rfl (fun ls hl => ?_)
              refine lv_aload hx hb d_F_confirm_28 (lv_at hl 0 rfl) ?_
              refine g_S_state hx hb hts hown hK hP (by omega) mw_38 d_F_confirm_30 ?_
              refine lv_if_ne (tgt := 56) hx hb d_F_confirm_33 (by decide) (fun c3 => ?_) (fun c3 => ?_)
              · have _u : True := trivial
                refine lv_iinc (v := nI (a2 + 1)) (lv' := [(3, .int (nI (a2 + 1))), (4, .ref (ad (60 + (12 * a1 + a2)))), (0, .ref (ad (0))), (1, .int (k0)), (2, .int (nI a1))]) hx hb d_F_confirm_56 hl (k := 4) rfl (nI_1 _) (by decide) rfl (fun ls hl => ?_)
                refine lv_goto (tgt := 9) hx hb d_F_confirm_59 (by decide) ?_
                exact ih2 (a2 + 1) t12 H _ ls (by omega) (by omega) ⟨ho2.1, fun i hi => (Nat.lt_or_ge i (12 * a1 + a2)).elim (ho2.2 i) (fun z => by rw [show i = 12 * a1 + a2 by omega, mchR, ← ho2.1]; simp [c2, c3])⟩ (lp_next hlt2 hF2 rfl) hP hD hS (lv_sub hl [2, 3, 4, 0] rfl)
              · have _u : True := trivial
                refine lv_aload hx hb d_F_confirm_36 (lv_at hl 0 rfl) ?_
                refine g_S_code hx hb hts hown hK hP (by omega) mw_43 d_F_confirm_38 ?_
                refine lv_iload_n hx hb d_F_confirm_41 rfl (lv_at hl 2 rfl) ?_
                refine lv_icmp_ne (tgt := 56) hx hb d_F_confirm_42 (by decide) (fun c4 => ?_) (fun c4 => ?_)
                · have _u : True := trivial
                  refine lv_iinc (v := nI (a2 + 1)) (lv' := [(3, .int (nI (a2 + 1))), (4, .ref (ad (60 + (12 * a1 + a2)))), (0, .ref (ad (0))), (1, .int (k0)), (2, .int (nI a1))]) hx hb d_F_confirm_56 hl (k := 4) rfl (nI_1 _) (by decide) rfl (fun ls hl => ?_)
                  refine lv_goto (tgt := 9) hx hb d_F_confirm_59 (by decide) ?_
                  exact ih2 (a2 + 1) t12 H _ ls (by omega) (by omega) ⟨ho2.1, fun i hi => (Nat.lt_or_ge i (12 * a1 + a2)).elim (ho2.2 i) (fun z => by rw [show i = 12 * a1 + a2 by omega, mchR, ← ho2.1]; simp [c3, c4])⟩ (lp_next hlt2 hF2 rfl) hP hD hS (lv_sub hl [2, 3, 4, 0] rfl)
                · have _u : True := trivial
                  refine lv_aload hx hb d_F_confirm_45 (lv_at hl 0 rfl) ?_
                  refine lv_aload_n hx hb d_F_confirm_47 rfl (lv_at hl 1 rfl) ?_
                  refine g_F_today hx hb hts hown hK hP mw_180 d_F_confirm_48 ?_
                  have hA1 := hS.1
                  refine va_callv (va_runV (As := [.int (gI t12 32 0)]) (rest := []) ⟨hx, hb, hml, hown, hts⟩ (c_S_becomeLive l D ad ka H.size t12 (12 * a1 + a2) (by omega) (gI t12 32 0)) (cwV 1 hts (gv mw_331 mw_332 mw_333 mw_3 mw_334) rfl rfl rfl (by decide +kernel) ⟨Nat.le_of_ble_eq_true rfl, Nat.le_of_ble_eq_true rfl⟩) ⟨PX_blind, va_recv hK hP (ci := 3) (q0 := 60 + (12 * a1 + a2)) rfl (at_S (by omega)), fun U hU hW => ⟨rfl, PX_at hU hW hP hK hD⟩⟩ rfl rfl hl.1 rfl (lv_room (Nat.le_of_ble_eq_true rfl)) d_F_confirm_51 ⟨Nat.le_of_ble_eq_true rfl, Nat.le_of_ble_eq_true rfl⟩) hS (fun q _ h => AX_up hA1 q h) (AX_up hA1) (fun t7 tq H1 locs ht hvm hw6 hB hz1 hk1 hS => ?_)
                  obtain ⟨hP, hD⟩ := BX_back ht hB (AX_up hA1)
                  generalize H1 = H at hP hS ⊢
                  rw [hw6] at hP hD
                  refine lv_iload_n hx hb d_F_confirm_54 rfl (lv_at hl 4 rfl) ?_
                  refine vx_ret (W.widen (k := 1) (n := 6) (by decide) (by decide) ?_)
                  exact W.iret (v := nI a2) hx hb hr (fun t9 ht hW => ⟨⟨nI a2, (S_becomeLive t12 (12 * a1 + a2) (gI t12 32 0)), rfl, ⟨12 * a1 + a2, by omega, by rw [mchR, ← ho2.1]; exact ⟨c3, c4⟩, ho2.2, by rw [show (12 * a1 + a2) % 12 = a2 by omega], by rw [ho2.1]⟩, BX_at ht hW hP hK hD⟩, hS.F ht⟩) hS.2.2 d_F_confirm_55
        exact hloop2 (12 + 1) 0 t11 H _ ls (by omega) (by omega) ⟨ho1.1, fun i hi => ho1.2 i (by omega)⟩ rfl hP hD hS (lv_sub hl [1, 2, 3, 0] rfl)
  exact hloop1 (3 + 1) 0 t s.heap _ ls (by omega) (by omega) ⟨rfl, fun i hi => absurd hi (by omega)⟩ rfl hP hD hS (lv_sub hl [1, 2, 0] rfl)
