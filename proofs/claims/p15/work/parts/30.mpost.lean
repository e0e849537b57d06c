theorem k_of {x w : Int32} {u q : Nat} (h1 : x = nI u) (h2 : w = nI q) : 10 * x + w = nI (10 * u + q) := by
  rw [h1, h2, show (10 : Int32) = nI 10 from rfl, pk_mul, nI_add]
def mPoR (t : Mem) (x a : Int32) : Int32 := if gI t 1008 (jj x a) = 0 then (if gI t 1001 (jj x a) = 1 then 0 else if gI t 1010 (cl x) = 0 then 1 else 0) else 1
def mPoG (t : Mem) (x a z w : Int32) : Prop := ¬ plz x a = 0 ∧ ¬ isW z 1 1000 = 0 ∧ ¬ isW w 0 9 = 0 ∧ ¬ gI t 3 0 = 40 ∧ mPoR t x a = 0
def mPoT (t : Mem) (x a z : Int32) : Mem := pI (pI (pI (pI (pI t 0 0 0) 1016 (cl (gI t 3 0)) x) 1017 (cl (gI t 3 0)) a) 1018 (cl (gI t 3 0)) z) 3 0 (gI t 3 0 + 1)
def mPoK (t : Mem) (x z w : Int32) : Int32 := if gI t 1013 (cl x) < z then 1 else if gI t 1012 (10 * cl x + cl w) = 0 then (if gI t 1011 (cl x) = 0 then 0 else 1) else 1
def mPoH (t : Mem) (x a z w : Int32) : Int32 := if gI t 1001 (jj x a) = -1 then mPoK t x z w else if gI t 1007 (jj x a) = 0 then mPoK t x z w else 0
def mPoF (u : Nat) (x p : Int32) (a : Nat) (t : Mem) : Mem := if gI t 1001 (12 * u + a) = -1 then t else if gI t 1007 (12 * u + a) = 0 then t else mSend t (nI a) x 3 p
def mPoU (t : Mem) (x a z w : Int32) : Mem := if mPoH t x a z w = 0 then mPass (pI (mPoT t x a z) 1019 (cl (gI t 3 0)) 1) (cl (gI t 3 0)) (gI t 3 0) else lp (mPoF (cl x) x (gI t 3 0)) 12 0 (pI (mPoT t x a z) 1019 (cl (gI t 3 0)) 0)
def mPost (t : Mem) (x a z w : Int32) : Int32 × Mem := if plz x a = 0 then (0, pI t 0 0 1) else if isW z 1 1000 = 0 then (0, pI t 0 0 1) else if isW w 0 9 = 0 then (0, pI t 0 0 1) else if gI t 3 0 = 40 then (0, pI t 0 0 2) else if mPoR t x a = 0 then (gI t 3 0, mPoU t x a z w) else (0, pI t 0 0 3)
theorem SM_poT {t : Mem} {x a z : Int32} {B : Nat} (h : SM t B) : SM (mPoT t x a z) B := SM_f (SM_f (SM_f (SM_f (SM_f h (by decide)) (by decide)) (by decide)) (by decide)) (by decide)
set_option maxHeartbeats 4000000 in
set_option maxRecDepth 100000 in
theorem c_M_post (l : Launch) (D : va_G) (ad : Nat → Nat) (ka : Nat → ClassId) (sz : Nat) (t : Mem) (Bd : Nat) (hBd : Bd < 700000000) (hm : SM t Bd) (n0 : Nat) (hn0 : n0 ≤ 40) (hn : gI t 3 0 = nI n0) (hbs : n0 < 40 → ∀ v, v < 3 → ∃ b, b < 40 ∧ gI t 1020 v = nI b) (x a z w : Int32) : Met l y_M_post (Cond.code y_M_post b_M_post 10 (some .int) :: big) ({ frames := 3, cells := 0, slots := 0, locals := 71 }) (va_Pc [.ref (ad (0)), .int (x), .int (a), .int (z), .int (w)] (PM D ad ka sz t)) (va_Qi (fun (r : Int32) (t' : Mem) => mPost t x a z w = (r, t')) (BM D ad ka sz) (AM ad sz)) 0 0 (AM ad sz) := by
  refine Met.ofW (cc := b_M_post) (maxL := 10) (ret := (some .int)) (by decide) rfl ?_
  intro p e s m args below meth c s₁ B hml hv
  obtain ⟨rfl, hsz, hP, hK, hD0⟩ := hv
  have hx := B.exec
  have hb := B.bytes
  have hr := B.returns
  have hlocks := B.notSynchronized
  have hts := atoms_spec (ws := Cond.code y_M_post b_M_post 10 (some .int) :: big) B.pre
  have hown : s.vm.findClass "ListForgeModel" = some m.cls := findClass_of_methodNamed B.named
  subst hsz
  have hD : va_D (AM ad s.heap.size) (mw ad ka t) := AM_D hD0
  have hS : va_S (AM ad s.heap.size) s.heap s.heap [] := va_S.rf
  have hl := lv_entry ([.ref (ad (0)), .int (x), .int (a), .int (z), .int (w)]) (n := 10) (Nat.le_of_ble_eq_true rfl)
  rw [lg_entry_eq]
  generalize (lg_sl ([.ref (ad (0)), .int (x), .int (a), .int (z), .int (w)]) ++ List.replicate (10 - (lg_sl ([.ref (ad (0)), .int (x), .int (a), .int (z), .int (w)])).length) Slot.unset).toArray = ls at hl ⊢
  have hl : lv_has ls 10 [(0, .ref (ad (0))), (1, .int (x)), (2, .int (a)), (3, .int (z)), (4, .int (w))] := hl

  have hJ214 : ∀ (t214 : Mem) (b8 : Int32) (H : Heap) (locs : List Loc) (ls : Array Slot), t214 = mPoT t x a z ∧ mPoG t x a z w ∧ b8 = mPoH t x a z w → va_P D clm (mw ad ka t214) H → va_D (AM ad s.heap.size) (mw ad ka t214) → va_S (AM ad s.heap.size) s.heap H locs → lv_has ls 10 [(0, .ref (ad (0))), (1, .int (x)), (6, .int (gI t 3 0)), (8, .int (b8))] → W p l e ({ frames := 3, cells := 0, slots := 0, locals := 71 }) s m ([.ref (ad (0)), .int (x), .int (a), .int (z), .int (w)] : List Value).toArray below meth c H locs 0 0 (MQ below (va_Qi (fun (r : Int32) (t' : Mem) => mPost t x a z w = (r, t')) (BM D ad ka s.heap.size) (AM ad s.heap.size)) ([.ref (ad (0)), .int (x), .int (a), .int (z), .int (w)] : List Value).toArray s 0 0 (AM ad s.heap.size)) (F0 m 214 ls []) := by
    intro t214 b8 H locs ls hC214 hP hD hS hl
    have hcn : cl (gI t 3 0) = n0 := cl_of hn (by omega)
    have hG := hC214.2.1
    obtain ⟨u, hu, hxu, a0, ha0, hau⟩ := PL_of (x := x) (a := a) hG.1
    have hcx : cl x = u := cl_of hxu (by omega)
    have hca : cl a = a0 := cl_of hau (by omega)
    have hj : jj x a = 12 * u + a0 := by rw [jj, hcx, hca]
    have hs9 := s_of hxu hau
    obtain ⟨q, hq, hwq⟩ := isW_n (n := 9) (by decide) hG.2.2.1
    have hcw : cl w = q := cl_of hwq (by omega)
    have hn4 : n0 < 40 := by rcases Nat.lt_or_ge n0 40 with q | q; exact q; exact absurd (by rw [hn, show n0 = 40 by omega]; rfl) hG.2.2.2.1
    have hsm : SM t214 Bd := by rw [hC214.1]; exact SM_poT hm
    refine lv_aload_n hx hb d_M_post_214 rfl (lv_at hl 0 rfl) ?_
    refine g_M_pState hx hb hts hown hK hP mw_613 d_M_post_215 ?_
    refine lv_iload hx hb d_M_post_218 (lv_at hl 2 rfl) ?_
    refine lv_iload hx hb d_M_post_220 (lv_at hl 3 rfl) ?_
    refine lv_if_eq (tgt := 229) hx hb d_M_post_222 (by decide) (fun c1 => ?_) (fun c1 => ?_)
    · have _u : True := trivial
      refine lv_iconst (v := 1) hx hb d_M_post_229 (by decide) ?_
      refine p_m_pState hx hb hK hP hD hS (r := n0) hn4 hn d_M_post_230 (fun H locs hP hD hS => ?_)
      refine lv_iload hx hb d_M_post_231 (lv_at hl 3 rfl) ?_
      refine lv_if_eq (tgt := 293) hx hb d_M_post_233 (by decide) (fun c2 => ?_) (fun c2 => ?_)
      · have _u : True := trivial
        refine lv_iload hx hb d_M_post_293 (lv_at hl 3 rfl) ?_
        refine lv_if_ne (tgt := 304) hx hb d_M_post_295 (by decide) (fun c3 => ?_) (fun c3 => ?_)
        · have _u : True := trivial
          exact absurd c1 c3
        · have _u : True := trivial
          refine lv_aload_n hx hb d_M_post_298 rfl (lv_at hl 0 rfl) ?_
          refine lv_iload hx hb d_M_post_299 (lv_at hl 2 rfl) ?_
          have hA1 := hS.1
          refine va_callv (va_runV (As := [.int (gI t 3 0)]) (rest := []) ⟨hx, hb, hml, hown, hts⟩ (c_M_pass l D ad ka H.size (pI t214 1019 n0 1) Bd (by omega) (SM_f hsm (by decide)) n0 hn4 (gI t 3 0) hn u hu (by rw [hC214.1]; simp [mPoT, gI_pI, hcn, hxu]) (hbs hn4 u hu).choose (hbs hn4 u hu).choose_spec.1 (by rw [hC214.1]; simpa [mPoT, gI_pI] using (hbs hn4 u hu).choose_spec.2)) (cwV 1 hts (gv mw_737 mw_739 (big_sel (i := 6) (by decide +kernel) (by decide +kernel)) mw_6 mw_740) rfl rfl rfl (by decide +kernel) ⟨Nat.le_of_ble_eq_true rfl, Nat.le_of_ble_eq_true rfl⟩) ⟨PM_blind, va_recv hK hP (ci := 0) (q0 := 0) rfl (at_M), fun U hU hW => ⟨rfl, PM_at hU hW hP hK hD⟩⟩ rfl rfl hl.1 rfl (lv_room (Nat.le_of_ble_eq_true rfl)) d_M_post_301 ⟨Nat.le_of_ble_eq_true rfl, Nat.le_of_ble_eq_true rfl⟩) hS (fun q _ h => AM_up hA1 q h) (AM_up hA1) (fun t6 tq H1 locs ht hvm hw5 hB hz1 hk1 hS => ?_)
          obtain ⟨hP, hD⟩ := BM_back ht hB (AM_up hA1)
          generalize H1 = H at hP hS ⊢
          rw [hw5] at hP hD
          refine lv_iload hx hb d_M_post_304 (lv_at hl 2 rfl) ?_
          exact W.iret (v := gI t 3 0) hx hb hr (fun t9 ht hW => ⟨⟨gI t 3 0, (mPass (pI t214 1019 n0 1) n0 (gI t 3 0)), rfl, (by unfold mPost; rw [if_neg hG.1, if_neg hG.2.1, if_neg hG.2.2.1, if_neg hG.2.2.2.1, if_pos hG.2.2.2.2]; unfold mPoU; rw [← hC214.2.2, if_pos c1, ← hC214.1, hcn]), BM_at ht hW hP hK hD⟩, hS.F ht⟩) hS.2.2 d_M_post_306
      · have _u : True := trivial
        exact absurd c1 c2
    · have _u : True := trivial
      refine lv_iconst (v := 0) hx hb d_M_post_225 (by decide) ?_
      refine lv_goto (tgt := 230) hx hb d_M_post_226 (by decide) ?_
      refine p_m_pState hx hb hK hP hD hS (r := n0) hn4 hn d_M_post_230 (fun H locs hP hD hS => ?_)
      refine lv_iload hx hb d_M_post_231 (lv_at hl 3 rfl) ?_
      refine lv_if_eq (tgt := 293) hx hb d_M_post_233 (by decide) (fun c7 => ?_) (fun c7 => ?_)
      · have _u : True := trivial
        exact absurd c7 c1
      · have _u : True := trivial
        refine lv_iconst (v := 0) hx hb d_M_post_236 (by decide) ?_
        refine lv_istore (lv' := [(9, .int (0)), (0, .ref (ad (0))), (1, .int (x)), (6, .int (gI t 3 0)), (8, .int (b8))]) hx hb d_M_post_237 hl (by decide) rfl (fun ls hl => ?_)
        have hloop1 : ∀ (n a1 : Nat) (t11 : Mem) (H : Heap) (locs : List Loc) (ls : Array Slot), a1 ≤ 12 → 12 + 1 ≤ a1 + n → SM t11 (Bd + a1) → lp (mPoF u x (gI t 3 0)) (12 - a1) a1 t11 = lp (mPoF u x (gI t 3 0)) 12 0 (pI t214 1019 n0 0) → va_P D clm (mw ad ka t11) H → va_D (AM ad s.heap.size) (mw ad ka t11) → va_S (AM ad s.heap.size) s.heap H locs → lv_has ls 10 [(0, .ref (ad (0))), (1, .int (x)), (6, .int (gI t 3 0)), (8, .int (b8)), (9, .int (nI a1))] → W p l e ({ frames := 3, cells := 0, slots := 0, locals := 71 }) s m ([.ref (ad (0)), .int (x), .int (a), .int (z), .int (w)] : List Value).toArray below meth c H locs 0 0 (MQ below (va_Qi (fun (r : Int32) (t' : Mem) => mPost t x a z w = (r, t')) (BM D ad ka s.heap.size) (AM ad s.heap.size)) ([.ref (ad (0)), .int (x), .int (a), .int (z), .int (w)] : List Value).toArray s 0 0 (AM ad s.heap.size)) (F0 m 239 ls []) := by
          intro n
          induction n with
          | zero => intro a1 t11 H locs ls h1 h2; exact absurd h2 (by omega)
          | succ n ih1 =>
            intro a1 t11 H locs ls ha1 hn1 ho1 hF1 hP hD hS hl
            refine lv_iload hx hb d_M_post_239 (lv_at hl 4 rfl) ?_
            refine lv_bipush (v := 12) hx hb d_M_post_241 (by decide) ?_
            refine lv_icmp_ge (tgt := 293) hx hb d_M_post_243 (by decide) (fun c8 => ?_) (fun c8 => ?_)
            · have _u : True := trivial
              obtain rfl := nI_eq_of (x := 12) (N := 12) (rfl) (by decide) ha1 c8
              have hE1 := lp_end hF1
              refine lv_iload hx hb d_M_post_293 (lv_at hl 3 rfl) ?_
              refine lv_if_ne (tgt := 304) hx hb d_M_post_295 (by decide) (fun c9 => ?_) (fun c9 => ?_)
              · have _u : True := trivial
                refine lv_iload hx hb d_M_post_304 (lv_at hl 2 rfl) ?_
                exact W.iret (v := gI t 3 0) hx hb hr (fun t9 ht hW => ⟨⟨gI t 3 0, t11, rfl, (by unfold mPost; rw [if_neg hG.1, if_neg hG.2.1, if_neg hG.2.2.1, if_neg hG.2.2.2.1, if_pos hG.2.2.2.2]; unfold mPoU; rw [← hC214.2.2, if_neg c1, ← hC214.1, hcn, hcx, ← hE1]), BM_at ht hW hP hK hD⟩, hS.F ht⟩) hS.2.2 d_M_post_306
              · have _u : True := trivial
                exact absurd c9 c1
            · have _u : True := trivial
              have hlt1 : a1 < 12 := nI_lt_of (x := 12) (N := 12) (rfl) ha1 c8
              refine lv_aload_n hx hb d_M_post_246 rfl (lv_at hl 0 rfl) ?_
              refine g_M_state hx hb hts hown hK hP mw_595 d_M_post_247 ?_
              refine lv_bipush (v := 12) hx hb d_M_post_250 (by decide) ?_
              refine lv_iload_n hx hb d_M_post_252 rfl (lv_at hl 1 rfl) ?_
              refine lv_imul hx hb d_M_post_253 ?_
              refine lv_iload hx hb d_M_post_254 (lv_at hl 4 rfl) ?_
              refine lv_iadd hx hb d_M_post_256 ?_
              refine g_m_state hx hb hK hP (r := (12 * u + a1)) (by omega) (s_of hxu rfl) d_M_post_257 ?_
              refine lv_iconst (v := -1) hx hb d_M_post_258 (by decide) ?_
              refine lv_icmp_eq (tgt := 287) hx hb d_M_post_259 (by decide) (fun c10 => ?_) (fun c10 => ?_)
              · have _u : True := trivial
                refine lv_iinc (v := nI (a1 + 1)) (lv' := [(9, .int (nI (a1 + 1))), (0, .ref (ad (0))), (1, .int (x)), (6, .int (gI t 3 0)), (8, .int (b8))]) hx hb d_M_post_287 hl (k := 4) rfl (nI_1 _) (by decide) rfl (fun ls hl => ?_)
                refine lv_goto (tgt := 239) hx hb d_M_post_290 (by decide) ?_
                exact ih1 (a1 + 1) t11 H _ ls (by omega) (by omega) (SM_up ho1 (by omega)) (lp_next hlt1 hF1 (by simp [mPoF, c1, c7, c8, c10])) hP hD hS (lv_sub hl [1, 2, 3, 4, 0] rfl)
              · have _u : True := trivial
                refine lv_aload_n hx hb d_M_post_262 rfl (lv_at hl 0 rfl) ?_
                refine g_M_moderates hx hb hts hown hK hP mw_601 d_M_post_263 ?_
                refine lv_bipush (v := 12) hx hb d_M_post_266 (by decide) ?_
                refine lv_iload_n hx hb d_M_post_268 rfl (lv_at hl 1 rfl) ?_
                refine lv_imul hx hb d_M_post_269 ?_
                refine lv_iload hx hb d_M_post_270 (lv_at hl 4 rfl) ?_
                refine lv_iadd hx hb d_M_post_272 ?_
                refine g_m_moderates hx hb hK hP (r := (12 * u + a1)) (by omega) (s_of hxu rfl) d_M_post_273 ?_
                refine lv_if_eq (tgt := 287) hx hb d_M_post_274 (by decide) (fun c11 => ?_) (fun c11 => ?_)
                · have _u : True := trivial
                  refine lv_iinc (v := nI (a1 + 1)) (lv' := [(9, .int (nI (a1 + 1))), (0, .ref (ad (0))), (1, .int (x)), (6, .int (gI t 3 0)), (8, .int (b8))]) hx hb d_M_post_287 hl (k := 4) rfl (nI_1 _) (by decide) rfl (fun ls hl => ?_)
                  refine lv_goto (tgt := 239) hx hb d_M_post_290 (by decide) ?_
                  exact ih1 (a1 + 1) t11 H _ ls (by omega) (by omega) (SM_up ho1 (by omega)) (lp_next hlt1 hF1 (by simp [mPoF, c1, c7, c8, c10, c11])) hP hD hS (lv_sub hl [1, 2, 3, 4, 0] rfl)
                · have _u : True := trivial
                  refine lv_aload_n hx hb d_M_post_277 rfl (lv_at hl 0 rfl) ?_
                  refine lv_iload hx hb d_M_post_278 (lv_at hl 4 rfl) ?_
                  refine lv_iload_n hx hb d_M_post_280 rfl (lv_at hl 1 rfl) ?_
                  refine lv_iconst (v := 3) hx hb d_M_post_281 (by decide) ?_
                  refine lv_iload hx hb d_M_post_282 (lv_at hl 2 rfl) ?_
                  have hA1 := hS.1
                  refine va_callv (va_runV (As := [.int (nI a1), .int (x), .int (3), .int (gI t 3 0)]) (rest := []) ⟨hx, hb, hml, hown, hts⟩ (c_M_send l D ad ka H.size t11 (Bd + a1) (by omega) ho1 (nI a1) x 3 (gI t 3 0)) (cwV 4 hts (gv mw_703 mw_705 (big_sel (i := 5) (by decide +kernel) (by decide +kernel)) mw_6 mw_706) rfl rfl rfl (by decide +kernel) ⟨Nat.le_of_ble_eq_true rfl, Nat.le_of_ble_eq_true rfl⟩) ⟨PM_blind, va_recv hK hP (ci := 0) (q0 := 0) rfl (at_M), fun U hU hW => ⟨rfl, PM_at hU hW hP hK hD⟩⟩ rfl rfl hl.1 rfl (lv_room (Nat.le_of_ble_eq_true rfl)) d_M_post_284 ⟨Nat.le_of_ble_eq_true rfl, Nat.le_of_ble_eq_true rfl⟩) hS (fun q _ h => AM_up hA1 q h) (AM_up hA1) (fun t14 tq H1 locs ht hvm hw13 hB hz1 hk1 hS => ?_)
                  obtain ⟨hP, hD⟩ := BM_back ht hB (AM_up hA1)
                  generalize H1 = H at hP hS ⊢
                  rw [hw13] at hP hD
                  refine lv_iinc (v := nI (a1 + 1)) (lv' := [(9, .int (nI (a1 + 1))), (0, .ref (ad (0))), (1, .int (x)), (6, .int (gI t 3 0)), (8, .int (b8))]) hx hb d_M_post_287 hl (k := 4) rfl (nI_1 _) (by decide) rfl (fun ls hl => ?_)
                  refine lv_goto (tgt := 239) hx hb d_M_post_290 (by decide) ?_
                  exact ih1 (a1 + 1) (mSend t11 (nI a1) x 3 (gI t 3 0)) H _ ls (by omega) (by omega) (SM_up (SM_send ho1) (by omega)) (lp_next hlt1 hF1 (by simp [mPoF, c1, c7, c8, c10, c11])) hP hD hS (lv_sub hl [1, 2, 3, 4, 0] rfl)
        exact hloop1 (12 + 1) 0 (pI t214 1019 n0 0) H _ ls (by omega) (by omega) (SM_up (SM_f hsm (by decide)) (by omega)) rfl hP hD hS (lv_sub hl [1, 2, 3, 4, 0] rfl)
  have hJ101 : ∀ (t101 : Mem) (H : Heap) (locs : List Loc) (ls : Array Slot), t101 = t ∧ mPoG t x a z w → va_P D clm (mw ad ka t101) H → va_D (AM ad s.heap.size) (mw ad ka t101) → va_S (AM ad s.heap.size) s.heap H locs → lv_has ls 10 [(0, .ref (ad (0))), (1, .int (x)), (2, .int (a)), (3, .int (z)), (4, .int (w)), (5, .int ((12 * x) + a)), (6, .int (gI t 3 0))] → W p l e ({ frames := 3, cells := 0, slots := 0, locals := 71 }) s m ([.ref (ad (0)), .int (x), .int (a), .int (z), .int (w)] : List Value).toArray below meth c H locs 0 0 (MQ below (va_Qi (fun (r : Int32) (t' : Mem) => mPost t x a z w = (r, t')) (BM D ad ka s.heap.size) (AM ad s.heap.size)) ([.ref (ad (0)), .int (x), .int (a), .int (z), .int (w)] : List Value).toArray s 0 0 (AM ad s.heap.size)) (F0 m 101 ls []) := by
    intro t101 H locs ls hC101 hP hD hS hl
    have hcn : cl (gI t 3 0) = n0 := cl_of hn (by omega)
    have hG := hC101.2
    obtain ⟨u, hu, hxu, a0, ha0, hau⟩ := PL_of (x := x) (a := a) hG.1
    have hcx : cl x = u := cl_of hxu (by omega)
    have hca : cl a = a0 := cl_of hau (by omega)
    have hj : jj x a = 12 * u + a0 := by rw [jj, hcx, hca]
    have hs9 := s_of hxu hau
    obtain ⟨q, hq, hwq⟩ := isW_n (n := 9) (by decide) hG.2.2.1
    have hcw : cl w = q := cl_of hwq (by omega)
    have hn4 : n0 < 40 := by rcases Nat.lt_or_ge n0 40 with q | q; exact q; exact absurd (by rw [hn, show n0 = 40 by omega]; rfl) hG.2.2.2.1
    refine lv_aload_n hx hb d_M_post_101 rfl (lv_at hl 0 rfl) ?_
    refine lv_iconst (v := 0) hx hb d_M_post_102 (by decide) ?_
    refine p_M_thrown hx hb hts hown hK hP hD hS mw_590 d_M_post_103 (fun H locs hP hD hS => ?_)
    refine lv_aload_n hx hb d_M_post_106 rfl (lv_at hl 0 rfl) ?_
    refine g_M_pList hx hb hts hown hK hP mw_610 d_M_post_107 ?_
    refine lv_iload hx hb d_M_post_110 (lv_at hl 6 rfl) ?_
    refine lv_iload_n hx hb d_M_post_112 rfl (lv_at hl 1 rfl) ?_
    refine p_m_pList hx hb hK hP hD hS (r := n0) hn4 hn d_M_post_113 (fun H locs hP hD hS => ?_)
    refine lv_aload_n hx hb d_M_post_114 rfl (lv_at hl 0 rfl) ?_
    refine g_M_pFrom hx hb hts hown hK hP mw_611 d_M_post_115 ?_
    refine lv_iload hx hb d_M_post_118 (lv_at hl 6 rfl) ?_
    refine lv_iload_n hx hb d_M_post_120 rfl (lv_at hl 2 rfl) ?_
    refine p_m_pFrom hx hb hK hP hD hS (r := n0) hn4 hn d_M_post_121 (fun H locs hP hD hS => ?_)
    refine lv_aload_n hx hb d_M_post_122 rfl (lv_at hl 0 rfl) ?_
    refine g_M_pSize hx hb hts hown hK hP mw_612 d_M_post_123 ?_
    refine lv_iload hx hb d_M_post_126 (lv_at hl 6 rfl) ?_
    refine lv_iload_n hx hb d_M_post_128 rfl (lv_at hl 3 rfl) ?_
    refine p_m_pSize hx hb hK hP hD hS (r := n0) hn4 hn d_M_post_129 (fun H locs hP hD hS => ?_)
    refine lv_aload_n hx hb d_M_post_130 rfl (lv_at hl 0 rfl) ?_
    refine lv_dup hx hb d_M_post_131 rfl ?_
    refine g_M_posts hx hb hts hown hK hP mw_593 d_M_post_132 ?_
    refine lv_iconst (v := 1) hx hb d_M_post_135 (by decide) ?_
    refine lv_iadd hx hb d_M_post_136 ?_
    refine p_M_posts hx hb hts hown hK hP hD hS mw_593 d_M_post_137 (fun H locs hP hD hS => ?_)
    refine lv_aload_n hx hb d_M_post_140 rfl (lv_at hl 0 rfl) ?_
    refine g_M_state hx hb hts hown hK hP mw_595 d_M_post_141 ?_
    refine lv_iload hx hb d_M_post_144 (lv_at hl 5 rfl) ?_
    refine g_m_state hx hb hK hP (r := (12 * u + a0)) (by omega) hs9 d_M_post_146 ?_
    refine lv_iconst (v := -1) hx hb d_M_post_147 (by decide) ?_
    refine lv_icmp_eq (tgt := 165) hx hb d_M_post_148 (by decide) (fun c15 => ?_) (fun c15 => ?_)
    · have _u : True := trivial
      refine lv_iconst (v := 0) hx hb d_M_post_165 (by decide) ?_
      refine lv_istore (lv' := [(7, .int (0)), (0, .ref (ad (0))), (1, .int (x)), (2, .int (a)), (3, .int (z)), (4, .int (w)), (5, .int ((12 * x) + a)), (6, .int (gI t 3 0))]) hx hb d_M_post_166 hl (by decide) rfl (fun ls hl => ?_)
      refine lv_iload hx hb d_M_post_168 (lv_at hl 0 rfl) ?_
      refine lv_if_ne (tgt := 211) hx hb d_M_post_170 (by decide) (fun h => absurd h (by decide)) (fun _ => ?_)
      refine lv_iload_n hx hb d_M_post_173 rfl (lv_at hl 4 rfl) ?_
      refine lv_aload_n hx hb d_M_post_174 rfl (lv_at hl 1 rfl) ?_
      refine g_M_greatest hx hb hts hown hK hP mw_607 d_M_post_175 ?_
      refine lv_iload_n hx hb d_M_post_178 rfl (lv_at hl 2 rfl) ?_
      refine g_m_greatest hx hb hK hP (r := u) hu hxu d_M_post_179 ?_
      refine lv_icmp_gt (tgt := 207) hx hb d_M_post_180 (by decide) (fun c16 => ?_) (fun c16 => ?_)
      · have _u : True := trivial
        refine lv_iconst (v := 1) hx hb d_M_post_207 (by decide) ?_
        refine lv_goto (tgt := 212) hx hb d_M_post_208 (by decide) ?_
        refine lv_istore (lv' := [(8, .int (1)), (7, .int (0)), (0, .ref (ad (0))), (1, .int (x)), (2, .int (a)), (3, .int (z)), (4, .int (w)), (5, .int ((12 * x) + a)), (6, .int (gI t 3 0))]) hx hb d_M_post_212 hl (by decide) rfl (fun ls hl => ?_)
        exact hJ214 (pI (pI (pI (pI (pI t101 0 0 0) 1016 n0 x) 1017 n0 a) 1018 n0 z) 3 0 ((gI (pI (pI (pI (pI t101 0 0 0) 1016 n0 x) 1017 n0 a) 1018 n0 z) 3 0) + 1)) 1 _ _ ls ⟨(by rw [hC101.1]; simp [mPoT, gI_pI, hcn]), hG, (by (try simp [gI_pI, hC101.1, -Int32.not_lt] at c15); (try simp [gI_pI, hC101.1, -Int32.not_lt] at c16); simp [mPoH, mPoK, hj, hcx, hcw, c15, c16])⟩ hP hD hS (lv_sub hl [2, 3, 8, 0] rfl)
      · have _u : True := trivial
        refine lv_aload_n hx hb d_M_post_183 rfl (lv_at hl 1 rfl) ?_
        refine g_M_barred hx hb hts hown hK hP mw_606 d_M_post_184 ?_
        refine lv_bipush (v := 10) hx hb d_M_post_187 (by decide) ?_
        refine lv_iload_n hx hb d_M_post_189 rfl (lv_at hl 2 rfl) ?_
        refine lv_imul hx hb d_M_post_190 ?_
        refine lv_iload hx hb d_M_post_191 (lv_at hl 5 rfl) ?_
        refine lv_iadd hx hb d_M_post_193 ?_
        refine g_m_barred hx hb hK hP (r := (10 * u + q)) (by omega) (k_of hxu hwq) d_M_post_194 ?_
        refine lv_if_ne (tgt := 207) hx hb d_M_post_195 (by decide) (fun c17 => ?_) (fun c17 => ?_)
        · have _u : True := trivial
          refine lv_iconst (v := 1) hx hb d_M_post_207 (by decide) ?_
          refine lv_goto (tgt := 212) hx hb d_M_post_208 (by decide) ?_
          refine lv_istore (lv' := [(8, .int (1)), (7, .int (0)), (0, .ref (ad (0))), (1, .int (x)), (2, .int (a)), (3, .int (z)), (4, .int (w)), (5, .int ((12 * x) + a)), (6, .int (gI t 3 0))]) hx hb d_M_post_212 hl (by decide) rfl (fun ls hl => ?_)
          exact hJ214 (pI (pI (pI (pI (pI t101 0 0 0) 1016 n0 x) 1017 n0 a) 1018 n0 z) 3 0 ((gI (pI (pI (pI (pI t101 0 0 0) 1016 n0 x) 1017 n0 a) 1018 n0 z) 3 0) + 1)) 1 _ _ ls ⟨(by rw [hC101.1]; simp [mPoT, gI_pI, hcn]), hG, (by (try simp [gI_pI, hC101.1, -Int32.not_lt] at c15); (try simp [gI_pI, hC101.1, -Int32.not_lt] at c16); (try simp [gI_pI, hC101.1, -Int32.not_lt] at c17); simp [mPoH, mPoK, hj, hcx, hcw, c15, c16, c17])⟩ hP hD hS (lv_sub hl [2, 3, 8, 0] rfl)
        · have _u : True := trivial
          refine lv_aload_n hx hb d_M_post_198 rfl (lv_at hl 1 rfl) ?_
          refine g_M_watched hx hb hts hown hK hP mw_605 d_M_post_199 ?_
          refine lv_iload_n hx hb d_M_post_202 rfl (lv_at hl 2 rfl) ?_
          refine g_m_watched hx hb hK hP (r := u) hu hxu d_M_post_203 ?_
          refine lv_if_eq (tgt := 211) hx hb d_M_post_204 (by decide) (fun c18 => ?_) (fun c18 => ?_)
          · have _u : True := trivial
            refine lv_iconst (v := 0) hx hb d_M_post_211 (by decide) ?_
            refine lv_istore (lv' := [(8, .int (0)), (7, .int (0)), (0, .ref (ad (0))), (1, .int (x)), (2, .int (a)), (3, .int (z)), (4, .int (w)), (5, .int ((12 * x) + a)), (6, .int (gI t 3 0))]) hx hb d_M_post_212 hl (by decide) rfl (fun ls hl => ?_)
            exact hJ214 (pI (pI (pI (pI (pI t101 0 0 0) 1016 n0 x) 1017 n0 a) 1018 n0 z) 3 0 ((gI (pI (pI (pI (pI t101 0 0 0) 1016 n0 x) 1017 n0 a) 1018 n0 z) 3 0) + 1)) 0 _ _ ls ⟨(by rw [hC101.1]; simp [mPoT, gI_pI, hcn]), hG, (by (try simp [gI_pI, hC101.1, -Int32.not_lt] at c15); (try simp [gI_pI, hC101.1, -Int32.not_lt] at c16); (try simp [gI_pI, hC101.1, -Int32.not_lt] at c17); (try simp [gI_pI, hC101.1, -Int32.not_lt] at c18); simp [mPoH, mPoK, hj, hcx, hcw, c15, c16, c17, c18])⟩ hP hD hS (lv_sub hl [2, 3, 8, 0] rfl)
          · have _u : True := trivial
            refine lv_iconst (v := 1) hx hb d_M_post_207 (by decide) ?_
            refine lv_goto (tgt := 212) hx hb d_M_post_208 (by decide) ?_
            refine lv_istore (lv' := [(8, .int (1)), (7, .int (0)), (0, .ref (ad (0))), (1, .int (x)), (2, .int (a)), (3, .int (z)), (4, .int (w)), (5, .int ((12 * x) + a)), (6, .int (gI t 3 0))]) hx hb d_M_post_212 hl (by decide) rfl (fun ls hl => ?_)
            exact hJ214 (pI (pI (pI (pI (pI t101 0 0 0) 1016 n0 x) 1017 n0 a) 1018 n0 z) 3 0 ((gI (pI (pI (pI (pI t101 0 0 0) 1016 n0 x) 1017 n0 a) 1018 n0 z) 3 0) + 1)) 1 _ _ ls ⟨(by rw [hC101.1]; simp [mPoT, gI_pI, hcn]), hG, (by (try simp [gI_pI, hC101.1, -Int32.not_lt] at c15); (try simp [gI_pI, hC101.1, -Int32.not_lt] at c16); (try simp [gI_pI, hC101.1, -Int32.not_lt] at c17); (try simp [gI_pI, hC101.1, -Int32.not_lt] at c18); simp [mPoH, mPoK, hj, hcx, hcw, c15, c16, c17, c18])⟩ hP hD hS (lv_sub hl [2, 3, 8, 0] rfl)
    · have _u : True := trivial
      refine lv_aload_n hx hb d_M_post_151 rfl (lv_at hl 0 rfl) ?_
      refine g_M_moderates hx hb hts hown hK hP mw_601 d_M_post_152 ?_
      refine lv_iload hx hb d_M_post_155 (lv_at hl 5 rfl) ?_
      refine g_m_moderates hx hb hK hP (r := (12 * u + a0)) (by omega) hs9 d_M_post_157 ?_
      refine lv_if_eq (tgt := 165) hx hb d_M_post_158 (by decide) (fun c19 => ?_) (fun c19 => ?_)
      · have _u : True := trivial
        refine lv_iconst (v := 0) hx hb d_M_post_165 (by decide) ?_
        refine lv_istore (lv' := [(7, .int (0)), (0, .ref (ad (0))), (1, .int (x)), (2, .int (a)), (3, .int (z)), (4, .int (w)), (5, .int ((12 * x) + a)), (6, .int (gI t 3 0))]) hx hb d_M_post_166 hl (by decide) rfl (fun ls hl => ?_)
        refine lv_iload hx hb d_M_post_168 (lv_at hl 0 rfl) ?_
        refine lv_if_ne (tgt := 211) hx hb d_M_post_170 (by decide) (fun h => absurd h (by decide)) (fun _ => ?_)
        refine lv_iload_n hx hb d_M_post_173 rfl (lv_at hl 4 rfl) ?_
        refine lv_aload_n hx hb d_M_post_174 rfl (lv_at hl 1 rfl) ?_
        refine g_M_greatest hx hb hts hown hK hP mw_607 d_M_post_175 ?_
        refine lv_iload_n hx hb d_M_post_178 rfl (lv_at hl 2 rfl) ?_
        refine g_m_greatest hx hb hK hP (r := u) hu hxu d_M_post_179 ?_
        refine lv_icmp_gt (tgt := 207) hx hb d_M_post_180 (by decide) (fun c20 => ?_) (fun c20 => ?_)
        · have _u : True := trivial
          refine lv_iconst (v := 1) hx hb d_M_post_207 (by decide) ?_
          refine lv_goto (tgt := 212) hx hb d_M_post_208 (by decide) ?_
          refine lv_istore (lv' := [(8, .int (1)), (7, .int (0)), (0, .ref (ad (0))), (1, .int (x)), (2, .int (a)), (3, .int (z)), (4, .int (w)), (5, .int ((12 * x) + a)), (6, .int (gI t 3 0))]) hx hb d_M_post_212 hl (by decide) rfl (fun ls hl => ?_)
          exact hJ214 (pI (pI (pI (pI (pI t101 0 0 0) 1016 n0 x) 1017 n0 a) 1018 n0 z) 3 0 ((gI (pI (pI (pI (pI t101 0 0 0) 1016 n0 x) 1017 n0 a) 1018 n0 z) 3 0) + 1)) 1 _ _ ls ⟨(by rw [hC101.1]; simp [mPoT, gI_pI, hcn]), hG, (by (try simp [gI_pI, hC101.1, -Int32.not_lt] at c15); (try simp [gI_pI, hC101.1, -Int32.not_lt] at c19); (try simp [gI_pI, hC101.1, -Int32.not_lt] at c20); simp [mPoH, mPoK, hj, hcx, hcw, c15, c19, c20])⟩ hP hD hS (lv_sub hl [2, 3, 8, 0] rfl)
        · have _u : True := trivial
          refine lv_aload_n hx hb d_M_post_183 rfl (lv_at hl 1 rfl) ?_
          refine g_M_barred hx hb hts hown hK hP mw_606 d_M_post_184 ?_
          refine lv_bipush (v := 10) hx hb d_M_post_187 (by decide) ?_
          refine lv_iload_n hx hb d_M_post_189 rfl (lv_at hl 2 rfl) ?_
          refine lv_imul hx hb d_M_post_190 ?_
          refine lv_iload hx hb d_M_post_191 (lv_at hl 5 rfl) ?_
          refine lv_iadd hx hb d_M_post_193 ?_
          refine g_m_barred hx hb hK hP (r := (10 * u + q)) (by omega) (k_of hxu hwq) d_M_post_194 ?_
          refine lv_if_ne (tgt := 207) hx hb d_M_post_195 (by decide) (fun c21 => ?_) (fun c21 => ?_)
          · have _u : True := trivial
            refine lv_iconst (v := 1) hx hb d_M_post_207 (by decide) ?_
            refine lv_goto (tgt := 212) hx hb d_M_post_208 (by decide) ?_
            refine lv_istore (lv' := [(8, .int (1)), (7, .int (0)), (0, .ref (ad (0))), (1, .int (x)), (2, .int (a)), (3, .int (z)), (4, .int (w)), (5, .int ((12 * x) + a)), (6, .int (gI t 3 0))]) hx hb d_M_post_212 hl (by decide) rfl (fun ls hl => ?_)
            exact hJ214 (pI (pI (pI (pI (pI t101 0 0 0) 1016 n0 x) 1017 n0 a) 1018 n0 z) 3 0 ((gI (pI (pI (pI (pI t101 0 0 0) 1016 n0 x) 1017 n0 a) 1018 n0 z) 3 0) + 1)) 1 _ _ ls ⟨(by rw [hC101.1]; simp [mPoT, gI_pI, hcn]), hG, (by (try simp [gI_pI, hC101.1, -Int32.not_lt] at c15); (try simp [gI_pI, hC101.1, -Int32.not_lt] at c19); (try simp [gI_pI, hC101.1, -Int32.not_lt] at c20); (try simp [gI_pI, hC101.1, -Int32.not_lt] at c21); simp [mPoH, mPoK, hj, hcx, hcw, c15, c19, c20, c21])⟩ hP hD hS (lv_sub hl [2, 3, 8, 0] rfl)
          · have _u : True := trivial
            refine lv_aload_n hx hb d_M_post_198 rfl (lv_at hl 1 rfl) ?_
            refine g_M_watched hx hb hts hown hK hP mw_605 d_M_post_199 ?_
            refine lv_iload_n hx hb d_M_post_202 rfl (lv_at hl 2 rfl) ?_
            refine g_m_watched hx hb hK hP (r := u) hu hxu d_M_post_203 ?_
            refine lv_if_eq (tgt := 211) hx hb d_M_post_204 (by decide) (fun c22 => ?_) (fun c22 => ?_)
            · have _u : True := trivial
              refine lv_iconst (v := 0) hx hb d_M_post_211 (by decide) ?_
              refine lv_istore (lv' := [(8, .int (0)), (7, .int (0)), (0, .ref (ad (0))), (1, .int (x)), (2, .int (a)), (3, .int (z)), (4, .int (w)), (5, .int ((12 * x) + a)), (6, .int (gI t 3 0))]) hx hb d_M_post_212 hl (by decide) rfl (fun ls hl => ?_)
              exact hJ214 (pI (pI (pI (pI (pI t101 0 0 0) 1016 n0 x) 1017 n0 a) 1018 n0 z) 3 0 ((gI (pI (pI (pI (pI t101 0 0 0) 1016 n0 x) 1017 n0 a) 1018 n0 z) 3 0) + 1)) 0 _ _ ls ⟨(by rw [hC101.1]; simp [mPoT, gI_pI, hcn]), hG, (by (try simp [gI_pI, hC101.1, -Int32.not_lt] at c15); (try simp [gI_pI, hC101.1, -Int32.not_lt] at c19); (try simp [gI_pI, hC101.1, -Int32.not_lt] at c20); (try simp [gI_pI, hC101.1, -Int32.not_lt] at c21); (try simp [gI_pI, hC101.1, -Int32.not_lt] at c22); simp [mPoH, mPoK, hj, hcx, hcw, c15, c19, c20, c21, c22])⟩ hP hD hS (lv_sub hl [2, 3, 8, 0] rfl)
            · have _u : True := trivial
              refine lv_iconst (v := 1) hx hb d_M_post_207 (by decide) ?_
              refine lv_goto (tgt := 212) hx hb d_M_post_208 (by decide) ?_
              refine lv_istore (lv' := [(8, .int (1)), (7, .int (0)), (0, .ref (ad (0))), (1, .int (x)), (2, .int (a)), (3, .int (z)), (4, .int (w)), (5, .int ((12 * x) + a)), (6, .int (gI t 3 0))]) hx hb d_M_post_212 hl (by decide) rfl (fun ls hl => ?_)
              exact hJ214 (pI (pI (pI (pI (pI t101 0 0 0) 1016 n0 x) 1017 n0 a) 1018 n0 z) 3 0 ((gI (pI (pI (pI (pI t101 0 0 0) 1016 n0 x) 1017 n0 a) 1018 n0 z) 3 0) + 1)) 1 _ _ ls ⟨(by rw [hC101.1]; simp [mPoT, gI_pI, hcn]), hG, (by (try simp [gI_pI, hC101.1, -Int32.not_lt] at c15); (try simp [gI_pI, hC101.1, -Int32.not_lt] at c19); (try simp [gI_pI, hC101.1, -Int32.not_lt] at c20); (try simp [gI_pI, hC101.1, -Int32.not_lt] at c21); (try simp [gI_pI, hC101.1, -Int32.not_lt] at c22); simp [mPoH, mPoK, hj, hcx, hcw, c15, c19, c20, c21, c22])⟩ hP hD hS (lv_sub hl [2, 3, 8, 0] rfl)
      · have _u : True := trivial
        refine lv_iconst (v := 1) hx hb d_M_post_161 (by decide) ?_
        refine lv_goto (tgt := 166) hx hb d_M_post_162 (by decide) ?_
        refine lv_istore (lv' := [(7, .int (1)), (0, .ref (ad (0))), (1, .int (x)), (2, .int (a)), (3, .int (z)), (4, .int (w)), (5, .int ((12 * x) + a)), (6, .int (gI t 3 0))]) hx hb d_M_post_166 hl (by decide) rfl (fun ls hl => ?_)
        refine lv_iload hx hb d_M_post_168 (lv_at hl 0 rfl) ?_
        refine lv_if_ne (tgt := 211) hx hb d_M_post_170 (by decide) (fun _ => ?_) (fun h => absurd h (by decide))
        refine lv_iconst (v := 0) hx hb d_M_post_211 (by decide) ?_
        refine lv_istore (lv' := [(8, .int (0)), (7, .int (1)), (0, .ref (ad (0))), (1, .int (x)), (2, .int (a)), (3, .int (z)), (4, .int (w)), (5, .int ((12 * x) + a)), (6, .int (gI t 3 0))]) hx hb d_M_post_212 hl (by decide) rfl (fun ls hl => ?_)
        exact hJ214 (pI (pI (pI (pI (pI t101 0 0 0) 1016 n0 x) 1017 n0 a) 1018 n0 z) 3 0 ((gI (pI (pI (pI (pI t101 0 0 0) 1016 n0 x) 1017 n0 a) 1018 n0 z) 3 0) + 1)) 0 _ _ ls ⟨(by rw [hC101.1]; simp [mPoT, gI_pI, hcn]), hG, (by (try simp [gI_pI, hC101.1, -Int32.not_lt] at c15); (try simp [gI_pI, hC101.1, -Int32.not_lt] at c19); simp [mPoH, mPoK, hj, hcx, hcw, c15, c19])⟩ hP hD hS (lv_sub hl [2, 3, 8, 0] rfl)
  refine lv_iload_n hx hb d_M_post_0 rfl (lv_at hl 1 rfl) ?_
  refine lv_iload_n hx hb d_M_post_1 rfl (lv_at hl 2 rfl) ?_
  have hA1 := hS.1
  refine va_calli (va_runS (As := [.int (x), .int (a)]) (rest := []) ⟨hx, hb, hml, hown, hts⟩ (c_M_isPlace l D ad ka s.heap.size t x a) (cwS 2 hts (gs mw_693 mw_694 mw_6 mw_695) rfl rfl rfl (by decide +kernel) ⟨Nat.le_of_ble_eq_true rfl, Nat.le_of_ble_eq_true rfl⟩) ⟨PM_blind, fun U hU hW => ⟨rfl, PM_at hU hW hP hK hD⟩⟩ rfl rfl hl.1 rfl (lv_room (Nat.le_of_ble_eq_true rfl)) d_M_post_2 ⟨Nat.le_of_ble_eq_true rfl, Nat.le_of_ble_eq_true rfl⟩) hS (fun q _ h => AM_up hA1 q h) (AM_up hA1) (fun r23 t25 tq H1 locs ht hvm hw24 hB hz1 hk1 hS => ?_)
  obtain ⟨hP, hD⟩ := BM_back ht hB (AM_up hA1)
  generalize H1 = H at hP hS ⊢
  obtain ⟨hwr, hwt⟩ := hw24
  rw [hwt] at hP hD
  rw [hwr]
  refine lv_if_eq (tgt := 30) hx hb d_M_post_5 (by decide) (fun c26 => ?_) (fun c26 => ?_)
  · have _u : True := trivial
    refine lv_aload_n hx hb d_M_post_30 rfl (lv_at hl 0 rfl) ?_
    refine lv_iconst (v := 1) hx hb d_M_post_31 (by decide) ?_
    have hA1 := hS.1
    refine va_calli (va_runV (As := [.int (1)]) (rest := []) ⟨hx, hb, hml, hown, hts⟩ (c_M_refuse l D ad ka H.size t 1) (cwV 1 hts (gv mw_699 mw_701 (big_sel (i := 4) (by decide +kernel) (by decide +kernel)) mw_6 mw_702) rfl rfl rfl (by decide +kernel) ⟨Nat.le_of_ble_eq_true rfl, Nat.le_of_ble_eq_true rfl⟩) ⟨PM_blind, va_recv hK hP (ci := 0) (q0 := 0) rfl (at_M), fun U hU hW => ⟨rfl, PM_at hU hW hP hK hD⟩⟩ rfl rfl hl.1 rfl (lv_room (Nat.le_of_ble_eq_true rfl)) d_M_post_32 ⟨Nat.le_of_ble_eq_true rfl, Nat.le_of_ble_eq_true rfl⟩) hS (fun q _ h => AM_up hA1 q h) (AM_up hA1) (fun r27 t29 tq H1 locs ht hvm hw28 hB hz1 hk1 hS => ?_)
    obtain ⟨hP, hD⟩ := BM_back ht hB (AM_up hA1)
    generalize H1 = H at hP hS ⊢
    obtain ⟨hwr, hwt⟩ := hw28
    rw [hwt] at hP hD
    rw [hwr]
    exact W.iret (v := 0) hx hb hr (fun t9 ht hW => ⟨⟨0, (pI t 0 0 1), rfl, (by first | (simp [mPost, c26]; done) | (simp [mPost, mPoR, hj, hcx, c26]; done)), BM_at ht hW hP hK hD⟩, hS.F ht⟩) hS.2.2 d_M_post_35
  · have _u : True := trivial
    obtain ⟨u, hu, hxu, a0, ha0, hau⟩ := PL_of (x := x) (a := a) c26
    have hcx : cl x = u := cl_of hxu (by omega)
    have hca : cl a = a0 := cl_of hau (by omega)
    have hj : jj x a = 12 * u + a0 := by rw [jj, hcx, hca]
    have hs9 := s_of hxu hau
    refine lv_iload_n hx hb d_M_post_8 rfl (lv_at hl 3 rfl) ?_
    refine lv_iconst (v := 1) hx hb d_M_post_9 (by decide) ?_
    refine lv_sipush (v := 1000) hx hb d_M_post_10 (by decide) ?_
    have hA1 := hS.1
    refine va_calli (va_runS (As := [.int (z), .int (1), .int (1000)]) (rest := []) ⟨hx, hb, hml, hown, hts⟩ (c_M_in l D ad ka H.size t z 1 1000) (cwS 3 hts (gs mw_696 mw_697 mw_6 mw_698) rfl rfl rfl (by decide +kernel) ⟨Nat.le_of_ble_eq_true rfl, Nat.le_of_ble_eq_true rfl⟩) ⟨PM_blind, fun U hU hW => ⟨rfl, PM_at hU hW hP hK hD⟩⟩ rfl rfl hl.1 rfl (lv_room (Nat.le_of_ble_eq_true rfl)) d_M_post_13 ⟨Nat.le_of_ble_eq_true rfl, Nat.le_of_ble_eq_true rfl⟩) hS (fun q _ h => AM_up hA1 q h) (AM_up hA1) (fun r30 t32 tq H1 locs ht hvm hw31 hB hz1 hk1 hS => ?_)
    obtain ⟨hP, hD⟩ := BM_back ht hB (AM_up hA1)
    generalize H1 = H at hP hS ⊢
    obtain ⟨hwr, hwt⟩ := hw31
    rw [hwt] at hP hD
    rw [hwr]
    refine lv_if_eq (tgt := 30) hx hb d_M_post_16 (by decide) (fun c33 => ?_) (fun c33 => ?_)
    · have _u : True := trivial
      refine lv_aload_n hx hb d_M_post_30 rfl (lv_at hl 0 rfl) ?_
      refine lv_iconst (v := 1) hx hb d_M_post_31 (by decide) ?_
      have hA1 := hS.1
      refine va_calli (va_runV (As := [.int (1)]) (rest := []) ⟨hx, hb, hml, hown, hts⟩ (c_M_refuse l D ad ka H.size t 1) (cwV 1 hts (gv mw_699 mw_701 (big_sel (i := 4) (by decide +kernel) (by decide +kernel)) mw_6 mw_702) rfl rfl rfl (by decide +kernel) ⟨Nat.le_of_ble_eq_true rfl, Nat.le_of_ble_eq_true rfl⟩) ⟨PM_blind, va_recv hK hP (ci := 0) (q0 := 0) rfl (at_M), fun U hU hW => ⟨rfl, PM_at hU hW hP hK hD⟩⟩ rfl rfl hl.1 rfl (lv_room (Nat.le_of_ble_eq_true rfl)) d_M_post_32 ⟨Nat.le_of_ble_eq_true rfl, Nat.le_of_ble_eq_true rfl⟩) hS (fun q _ h => AM_up hA1 q h) (AM_up hA1) (fun r34 t36 tq H1 locs ht hvm hw35 hB hz1 hk1 hS => ?_)
      obtain ⟨hP, hD⟩ := BM_back ht hB (AM_up hA1)
      generalize H1 = H at hP hS ⊢
      obtain ⟨hwr, hwt⟩ := hw35
      rw [hwt] at hP hD
      rw [hwr]
      exact W.iret (v := 0) hx hb hr (fun t9 ht hW => ⟨⟨0, (pI t 0 0 1), rfl, (by first | (simp [mPost, c26, c33]; done) | (simp [mPost, mPoR, hj, hcx, c26, c33]; done)), BM_at ht hW hP hK hD⟩, hS.F ht⟩) hS.2.2 d_M_post_35
    · have _u : True := trivial
      refine lv_iload hx hb d_M_post_19 (lv_at hl 4 rfl) ?_
      refine lv_iconst (v := 0) hx hb d_M_post_21 (by decide) ?_
      refine lv_bipush (v := 9) hx hb d_M_post_22 (by decide) ?_
      have hA1 := hS.1
      refine va_calli (va_runS (As := [.int (w), .int (0), .int (9)]) (rest := []) ⟨hx, hb, hml, hown, hts⟩ (c_M_in l D ad ka H.size t w 0 9) (cwS 3 hts (gs mw_696 mw_697 mw_6 mw_698) rfl rfl rfl (by decide +kernel) ⟨Nat.le_of_ble_eq_true rfl, Nat.le_of_ble_eq_true rfl⟩) ⟨PM_blind, fun U hU hW => ⟨rfl, PM_at hU hW hP hK hD⟩⟩ rfl rfl hl.1 rfl (lv_room (Nat.le_of_ble_eq_true rfl)) d_M_post_24 ⟨Nat.le_of_ble_eq_true rfl, Nat.le_of_ble_eq_true rfl⟩) hS (fun q _ h => AM_up hA1 q h) (AM_up hA1) (fun r37 t39 tq H1 locs ht hvm hw38 hB hz1 hk1 hS => ?_)
      obtain ⟨hP, hD⟩ := BM_back ht hB (AM_up hA1)
      generalize H1 = H at hP hS ⊢
      obtain ⟨hwr, hwt⟩ := hw38
      rw [hwt] at hP hD
      rw [hwr]
      refine lv_if_ne (tgt := 36) hx hb d_M_post_27 (by decide) (fun c40 => ?_) (fun c40 => ?_)
      · have _u : True := trivial
        refine lv_aload_n hx hb d_M_post_36 rfl (lv_at hl 0 rfl) ?_
        refine g_M_posts hx hb hts hown hK hP mw_593 d_M_post_37 ?_
        refine lv_bipush (v := 40) hx hb d_M_post_40 (by decide) ?_
        refine lv_icmp_ne (tgt := 51) hx hb d_M_post_42 (by decide) (fun c41 => ?_) (fun c41 => ?_)
        · have _u : True := trivial
          refine lv_bipush (v := 12) hx hb d_M_post_51 (by decide) ?_
          refine lv_iload_n hx hb d_M_post_53 rfl (lv_at hl 1 rfl) ?_
          refine lv_imul hx hb d_M_post_54 ?_
          refine lv_iload_n hx hb d_M_post_55 rfl (lv_at hl 2 rfl) ?_
          refine lv_iadd hx hb d_M_post_56 ?_
          refine lv_istore (lv' := [(5, .int ((12 * x) + a)), (0, .ref (ad (0))), (1, .int (x)), (2, .int (a)), (3, .int (z)), (4, .int (w))]) hx hb d_M_post_57 hl (by decide) rfl (fun ls hl => ?_)
          refine lv_aload_n hx hb d_M_post_59 rfl (lv_at hl 1 rfl) ?_
          refine g_M_posts hx hb hts hown hK hP mw_593 d_M_post_60 ?_
          refine lv_istore (lv' := [(6, .int (gI t 3 0)), (5, .int ((12 * x) + a)), (0, .ref (ad (0))), (1, .int (x)), (2, .int (a)), (3, .int (z)), (4, .int (w))]) hx hb d_M_post_63 hl (by decide) rfl (fun ls hl => ?_)
          refine lv_aload_n hx hb d_M_post_65 rfl (lv_at hl 2 rfl) ?_
          refine g_M_banned hx hb hts hown hK hP mw_602 d_M_post_66 ?_
          refine lv_iload hx hb d_M_post_69 (lv_at hl 1 rfl) ?_
          refine g_m_banned hx hb hK hP (r := (12 * u + a0)) (by omega) hs9 d_M_post_71 ?_
          refine lv_if_ne (tgt := 95) hx hb d_M_post_72 (by decide) (fun c42 => ?_) (fun c42 => ?_)
          · have _u : True := trivial
            refine lv_aload_n hx hb d_M_post_95 rfl (lv_at hl 2 rfl) ?_
            refine lv_iconst (v := 3) hx hb d_M_post_96 (by decide) ?_
            have hA1 := hS.1
            refine va_calli (va_runV (As := [.int (3)]) (rest := []) ⟨hx, hb, hml, hown, hts⟩ (c_M_refuse l D ad ka H.size t 3) (cwV 1 hts (gv mw_699 mw_701 (big_sel (i := 4) (by decide +kernel) (by decide +kernel)) mw_6 mw_702) rfl rfl rfl (by decide +kernel) ⟨Nat.le_of_ble_eq_true rfl, Nat.le_of_ble_eq_true rfl⟩) ⟨PM_blind, va_recv hK hP (ci := 0) (q0 := 0) rfl (at_M), fun U hU hW => ⟨rfl, PM_at hU hW hP hK hD⟩⟩ rfl rfl hl.1 rfl (lv_room (Nat.le_of_ble_eq_true rfl)) d_M_post_97 ⟨Nat.le_of_ble_eq_true rfl, Nat.le_of_ble_eq_true rfl⟩) hS (fun q _ h => AM_up hA1 q h) (AM_up hA1) (fun r43 t45 tq H1 locs ht hvm hw44 hB hz1 hk1 hS => ?_)
            obtain ⟨hP, hD⟩ := BM_back ht hB (AM_up hA1)
            generalize H1 = H at hP hS ⊢
            obtain ⟨hwr, hwt⟩ := hw44
            rw [hwt] at hP hD
            rw [hwr]
            exact W.iret (v := 0) hx hb hr (fun t9 ht hW => ⟨⟨0, (pI t 0 0 3), rfl, (by first | (simp [mPost, c26, c33, c40, c41, c42]; done) | (simp [mPost, mPoR, hj, hcx, c26, c33, c40, c41, c42]; done)), BM_at ht hW hP hK hD⟩, hS.F ht⟩) hS.2.2 d_M_post_100
          · have _u : True := trivial
            refine lv_aload_n hx hb d_M_post_75 rfl (lv_at hl 2 rfl) ?_
            refine g_M_state hx hb hts hown hK hP mw_595 d_M_post_76 ?_
            refine lv_iload hx hb d_M_post_79 (lv_at hl 1 rfl) ?_
            refine g_m_state hx hb hK hP (r := (12 * u + a0)) (by omega) hs9 d_M_post_81 ?_
            refine lv_iconst (v := 1) hx hb d_M_post_82 (by decide) ?_
            refine lv_icmp_eq (tgt := 101) hx hb d_M_post_83 (by decide) (fun c46 => ?_) (fun c46 => ?_)
            · have _u : True := trivial
              exact hJ101 t  _ _ ls ⟨rfl, c26, c33, c40, c41, (by simp [mPoR, hj, hcx, c42, c46])⟩ hP hD hS (lv_sub hl [2, 3, 4, 5, 6, 1, 0] rfl)
            · have _u : True := trivial
              refine lv_aload_n hx hb d_M_post_86 rfl (lv_at hl 2 rfl) ?_
              refine g_M_open hx hb hts hown hK hP mw_604 d_M_post_87 ?_
              refine lv_iload_n hx hb d_M_post_90 rfl (lv_at hl 3 rfl) ?_
              refine g_m_open hx hb hK hP (r := u) hu hxu d_M_post_91 ?_
              refine lv_if_ne (tgt := 101) hx hb d_M_post_92 (by decide) (fun c47 => ?_) (fun c47 => ?_)
              · have _u : True := trivial
                exact hJ101 t  _ _ ls ⟨rfl, c26, c33, c40, c41, (by simp [mPoR, hj, hcx, c42, c46, c47])⟩ hP hD hS (lv_sub hl [2, 3, 4, 5, 6, 1, 0] rfl)
              · have _u : True := trivial
                refine lv_aload_n hx hb d_M_post_95 rfl (lv_at hl 2 rfl) ?_
                refine lv_iconst (v := 3) hx hb d_M_post_96 (by decide) ?_
                have hA1 := hS.1
                refine va_calli (va_runV (As := [.int (3)]) (rest := []) ⟨hx, hb, hml, hown, hts⟩ (c_M_refuse l D ad ka H.size t 3) (cwV 1 hts (gv mw_699 mw_701 (big_sel (i := 4) (by decide +kernel) (by decide +kernel)) mw_6 mw_702) rfl rfl rfl (by decide +kernel) ⟨Nat.le_of_ble_eq_true rfl, Nat.le_of_ble_eq_true rfl⟩) ⟨PM_blind, va_recv hK hP (ci := 0) (q0 := 0) rfl (at_M), fun U hU hW => ⟨rfl, PM_at hU hW hP hK hD⟩⟩ rfl rfl hl.1 rfl (lv_room (Nat.le_of_ble_eq_true rfl)) d_M_post_97 ⟨Nat.le_of_ble_eq_true rfl, Nat.le_of_ble_eq_true rfl⟩) hS (fun q _ h => AM_up hA1 q h) (AM_up hA1) (fun r48 t50 tq H1 locs ht hvm hw49 hB hz1 hk1 hS => ?_)
                obtain ⟨hP, hD⟩ := BM_back ht hB (AM_up hA1)
                generalize H1 = H at hP hS ⊢
                obtain ⟨hwr, hwt⟩ := hw49
                rw [hwt] at hP hD
                rw [hwr]
                exact W.iret (v := 0) hx hb hr (fun t9 ht hW => ⟨⟨0, (pI t 0 0 3), rfl, (by first | (simp [mPost, c26, c33, c40, c41, c42, c46, c47]; done) | (simp [mPost, mPoR, hj, hcx, c26, c33, c40, c41, c42, c46, c47]; done)), BM_at ht hW hP hK hD⟩, hS.F ht⟩) hS.2.2 d_M_post_100
        · have _u : True := trivial
          refine lv_aload_n hx hb d_M_post_45 rfl (lv_at hl 0 rfl) ?_
          refine lv_iconst (v := 2) hx hb d_M_post_46 (by decide) ?_
          have hA1 := hS.1
          refine va_calli (va_runV (As := [.int (2)]) (rest := []) ⟨hx, hb, hml, hown, hts⟩ (c_M_refuse l D ad ka H.size t 2) (cwV 1 hts (gv mw_699 mw_701 (big_sel (i := 4) (by decide +kernel) (by decide +kernel)) mw_6 mw_702) rfl rfl rfl (by decide +kernel) ⟨Nat.le_of_ble_eq_true rfl, Nat.le_of_ble_eq_true rfl⟩) ⟨PM_blind, va_recv hK hP (ci := 0) (q0 := 0) rfl (at_M), fun U hU hW => ⟨rfl, PM_at hU hW hP hK hD⟩⟩ rfl rfl hl.1 rfl (lv_room (Nat.le_of_ble_eq_true rfl)) d_M_post_47 ⟨Nat.le_of_ble_eq_true rfl, Nat.le_of_ble_eq_true rfl⟩) hS (fun q _ h => AM_up hA1 q h) (AM_up hA1) (fun r51 t53 tq H1 locs ht hvm hw52 hB hz1 hk1 hS => ?_)
          obtain ⟨hP, hD⟩ := BM_back ht hB (AM_up hA1)
          generalize H1 = H at hP hS ⊢
          obtain ⟨hwr, hwt⟩ := hw52
          rw [hwt] at hP hD
          rw [hwr]
          exact W.iret (v := 0) hx hb hr (fun t9 ht hW => ⟨⟨0, (pI t 0 0 2), rfl, (by first | (simp [mPost, c26, c33, c40, c41]; done) | (simp [mPost, mPoR, hj, hcx, c26, c33, c40, c41]; done)), BM_at ht hW hP hK hD⟩, hS.F ht⟩) hS.2.2 d_M_post_50
      · have _u : True := trivial
        refine lv_aload_n hx hb d_M_post_30 rfl (lv_at hl 0 rfl) ?_
        refine lv_iconst (v := 1) hx hb d_M_post_31 (by decide) ?_
        have hA1 := hS.1
        refine va_calli (va_runV (As := [.int (1)]) (rest := []) ⟨hx, hb, hml, hown, hts⟩ (c_M_refuse l D ad ka H.size t 1) (cwV 1 hts (gv mw_699 mw_701 (big_sel (i := 4) (by decide +kernel) (by decide +kernel)) mw_6 mw_702) rfl rfl rfl (by decide +kernel) ⟨Nat.le_of_ble_eq_true rfl, Nat.le_of_ble_eq_true rfl⟩) ⟨PM_blind, va_recv hK hP (ci := 0) (q0 := 0) rfl (at_M), fun U hU hW => ⟨rfl, PM_at hU hW hP hK hD⟩⟩ rfl rfl hl.1 rfl (lv_room (Nat.le_of_ble_eq_true rfl)) d_M_post_32 ⟨Nat.le_of_ble_eq_true rfl, Nat.le_of_ble_eq_true rfl⟩) hS (fun q _ h => AM_up hA1 q h) (AM_up hA1) (fun r54 t56 tq H1 locs ht hvm hw55 hB hz1 hk1 hS => ?_)
        obtain ⟨hP, hD⟩ := BM_back ht hB (AM_up hA1)
        generalize H1 = H at hP hS ⊢
        obtain ⟨hwr, hwt⟩ := hw55
        rw [hwt] at hP hD
        rw [hwr]
        exact W.iret (v := 0) hx hb hr (fun t9 ht hW => ⟨⟨0, (pI t 0 0 1), rfl, (by first | (simp [mPost, c26, c33, c40]; done) | (simp [mPost, mPoR, hj, hcx, c26, c33, c40]; done)), BM_at ht hW hP hK hD⟩, hS.F ht⟩) hS.2.2 d_M_post_35
