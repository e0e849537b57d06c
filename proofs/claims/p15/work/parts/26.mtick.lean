def OKD (t : Mem) (B : Nat) : Prop := SM t B ∧ ∀ j, NN (gD t 1009 j)
theorem OKD_up {t : Mem} {B B2 : Nat} (h : OKD t B) (hb : B ≤ B2) : OKD t B2 := ⟨SM_up h.1 hb, h.2⟩
theorem OKD_f {t : Mem} {B k j : Nat} {v : Int32} (h : OKD t B) (hk : k ≠ 4) : OKD (pI t k j v) B := ⟨SM_f h.1 hk, h.2⟩
theorem gD_C {t : Mem} {j : Nat} {a x : Int32} {k i : Nat} : gD (mDayC t j a x) k i = gD t k i := by
  unfold mDayC
  split
  · split
    · split
      · rw [gD_send]; rfl
      · rw [gD_send]; rfl
    · rfl
  · rfl
theorem SM_C {t : Mem} {B j : Nat} {a x : Int32} (h : SM t B) : SM (mDayC t j a x) (B + 1) := by
  unfold mDayC
  split
  · split
    · split
      · exact SM_send (SM_f h (by decide))
      · exact SM_send (SM_f h (by decide))
    · exact SM_up h (by omega)
  · exact SM_up h (by omega)
theorem gD_B {t : Mem} {j k i : Nat} : gD (mDayB t j) k i = gD t k i := by
  unfold mDayB
  split
  · split <;> rfl
  · rfl
theorem NN_A {t : Mem} {j : Nat} (h : ∀ i, NN (gD t 1009 i)) : ∀ i, NN (gD (mDayA t j) 1009 i) := by
  intro i
  unfold mDayA mFad
  split
  · split
    · exact h i
    · split
      · rw [gD_pD]; split
        · exact NN_875 (h j)
        · exact h i
      · rw [gD_pD]; split
        · exact NN_0
        · rw [gD_pD]; split
          · exact NN_875 (h j)
          · exact h i
  · exact h i
theorem OKD_day {t : Mem} {B j : Nat} {a x : Int32} (h : OKD t B) : OKD (mDay t j a x) (B + 1) := ⟨SM_C (SM_B (SM_A h.1)), fun i => by unfold mDay; rw [gD_C, gD_B]; exact NN_A h.2 i⟩
theorem OKD_digF {t : Mem} {B u : Nat} {x : Int32} {a : Nat} (h : OKD t B) : OKD (mDigF u x a t) (B + 1) := by
  unfold mDigF
  split
  · exact OKD_up h (by omega)
  · exact ⟨SM_send h.1, fun i => by rw [gD_send]; exact h.2 i⟩
theorem lp_OKD {f : Nat → Mem → Mem} {c : Nat} (hf : ∀ a t B, OKD t B → OKD (f a t) (B + c)) : ∀ (n a : Nat) (t : Mem) (B : Nat), OKD t B → OKD (lp f n a t) (B + n * c) := by
  intro n
  induction n with
  | zero => intro a t B h; exact OKD_up h (by omega)
  | succ n ih => intro a t B h; exact OKD_up (ih (a + 1) (f a t) (B + c) (hf a t B h)) (by rw [Nat.succ_mul]; omega)
theorem OKD_dig {t : Mem} {B u : Nat} {x : Int32} (h : OKD t B) : OKD (mDig t u x) (B + 12) := OKD_f (OKD_up (lp_OKD (c := 1) (fun a t B h => OKD_digF h) 12 0 t B h) (by omega)) (by decide)
def mDayL (t : Mem) (u : Nat) : Mem := lp (fun a t => mDay t (12 * u + a) (nI a) (nI u)) 12 0 t
def mDigD (t : Mem) (u : Nat) : Mem := if gI t 1020 u ≤ 0 then t else if gI t 1 0 - gI t 1022 (40 * u) ≤ 2 then t else mDig t u (nI u)
def mLst (u : Nat) (t : Mem) : Mem := mDigD (mDayL t u) u
def mTickD (t : Mem) : Mem := lp mLst 3 0 (pI t 1 0 (gI t 1 0 + 1))
def mTickT (t : Mem) (n : Nat) : Mem := lp (fun _ t => mTickD t) n 0 (pI t 0 0 0)
def mTick (t : Mem) (d : Int32) : Int32 × Mem := if isW d 1 20 = 0 then (0, pI t 0 0 1) else (gI (mTickT t (cl d)) 1 0, mTickT t (cl d))
theorem OKD_dayL {t : Mem} {B u : Nat} (h : OKD t B) : OKD (mDayL t u) (B + 12) := OKD_up (lp_OKD (c := 1) (fun a t B h => OKD_day h) 12 0 t B h) (by omega)
theorem OKD_digD {t : Mem} {B u : Nat} (h : OKD t B) : OKD (mDigD t u) (B + 12) := by
  unfold mDigD
  split
  · exact OKD_up h (by omega)
  · split
    · exact OKD_up h (by omega)
    · exact OKD_dig h
theorem OKD_tickD {t : Mem} {B : Nat} (h : OKD t B) : OKD (mTickD t) (B + 72) := lp_OKD (c := 24) (fun a t B h => OKD_digD (OKD_dayL h)) 3 0 _ B (OKD_f h (by decide))
set_option maxHeartbeats 4000000 in
set_option maxRecDepth 100000 in
theorem c_M_tick (l : Launch) (D : va_G) (ad : Nat → Nat) (ka : Nat → ClassId) (sz : Nat) (t : Mem) (Bd : Nat) (hBd : Bd < 800000000) (hm : OKD t Bd) (d0 : Int32) : Met l y_M_tick (Cond.code y_M_tick b_M_tick 5 (some .int) :: big) ({ frames := 2, cells := 0, slots := 0, locals := 47 }) (va_Pc [.ref (ad (0)), .int (d0)] (PM D ad ka sz t)) (va_Qi (fun (r : Int32) (t' : Mem) => mTick t d0 = (r, t')) (BM D ad ka sz) (AM ad sz)) 0 0 (AM ad sz) := by
  refine Met.ofW (cc := b_M_tick) (maxL := 5) (ret := (some .int)) (by decide) rfl ?_
  intro p e s m args below meth c s₁ B hml hv
  obtain ⟨rfl, hsz, hP, hK, hD0⟩ := hv
  have hx := B.exec
  have hb := B.bytes
  have hr := B.returns
  have hlocks := B.notSynchronized
  have hts := atoms_spec (ws := Cond.code y_M_tick b_M_tick 5 (some .int) :: big) B.pre
  have hown : s.vm.findClass "ListForgeModel" = some m.cls := findClass_of_methodNamed B.named
  subst hsz
  have hD : va_D (AM ad s.heap.size) (mw ad ka t) := AM_D hD0
  have hS : va_S (AM ad s.heap.size) s.heap s.heap [] := va_S.rf
  have hl := lv_entry ([.ref (ad (0)), .int (d0)]) (n := 5) (Nat.le_of_ble_eq_true rfl)
  rw [lg_entry_eq]
  generalize (lg_sl ([.ref (ad (0)), .int (d0)]) ++ List.replicate (5 - (lg_sl ([.ref (ad (0)), .int (d0)])).length) Slot.unset).toArray = ls at hl ⊢
  have hl : lv_has ls 5 [(0, .ref (ad (0))), (1, .int (d0))] := hl

  refine lv_iload_n hx hb d_M_tick_0 rfl (lv_at hl 1 rfl) ?_
  refine lv_iconst (v := 1) hx hb d_M_tick_1 (by decide) ?_
  refine lv_bipush (v := 20) hx hb d_M_tick_2 (by decide) ?_
  have hA1 := hS.1
  refine va_calli (va_runS (As := [.int (d0), .int (1), .int (20)]) (rest := []) ⟨hx, hb, hml, hown, hts⟩ (c_M_in l D ad ka s.heap.size t d0 1 20) (cwS 3 hts (gs mw_696 mw_697 mw_6 mw_698) rfl rfl rfl (by decide +kernel) ⟨Nat.le_of_ble_eq_true rfl, Nat.le_of_ble_eq_true rfl⟩) ⟨PM_blind, fun U hU hW => ⟨rfl, PM_at hU hW hP hK hD⟩⟩ rfl rfl hl.1 rfl (lv_room (Nat.le_of_ble_eq_true rfl)) d_M_tick_4 ⟨Nat.le_of_ble_eq_true rfl, Nat.le_of_ble_eq_true rfl⟩) hS (fun q _ h => AM_up hA1 q h) (AM_up hA1) (fun r1 t3 tq H1 locs ht hvm hw2 hB hz1 hk1 hS => ?_)
  obtain ⟨hP, hD⟩ := BM_back ht hB (AM_up hA1)
  generalize H1 = H at hP hS ⊢
  obtain ⟨hwr, hwt⟩ := hw2
  rw [hwt] at hP hD
  rw [hwr]
  refine lv_if_ne (tgt := 16) hx hb d_M_tick_7 (by decide) (fun c4 => ?_) (fun c4 => ?_)
  · have _u : True := trivial
    obtain ⟨n9, hn9, hdn⟩ := isW_1 c4
    have hcd : cl d0 = n9 := cl_of hdn (by omega)
    refine lv_aload_n hx hb d_M_tick_16 rfl (lv_at hl 0 rfl) ?_
    refine lv_iconst (v := 0) hx hb d_M_tick_17 (by decide) ?_
    refine p_M_thrown hx hb hts hown hK hP hD hS mw_590 d_M_tick_18 (fun H locs hP hD hS => ?_)
    refine lv_iconst (v := 0) hx hb d_M_tick_21 (by decide) ?_
    refine lv_istore_n (lv' := [(2, .int (0)), (0, .ref (ad (0))), (1, .int (d0))]) hx hb d_M_tick_22 rfl hl (by decide) rfl (fun ls hl => ?_)
    have hloop1 : ∀ (n a1 : Nat) (t11 : Mem) (H : Heap) (locs : List Loc) (ls : Array Slot), a1 ≤ n9 → n9 + 1 ≤ a1 + n → OKD t11 (Bd + 72 * a1) → lp (fun _ t => mTickD t) (n9 - a1) a1 t11 = lp (fun _ t => mTickD t) n9 0 (pI t 0 0 0) → va_P D clm (mw ad ka t11) H → va_D (AM ad s.heap.size) (mw ad ka t11) → va_S (AM ad s.heap.size) s.heap H locs → lv_has ls 5 [(0, .ref (ad (0))), (1, .int (d0)), (2, .int (nI a1))] → W p l e ({ frames := 2, cells := 0, slots := 0, locals := 47 }) s m ([.ref (ad (0)), .int (d0)] : List Value).toArray below meth c H locs 0 0 (MQ below (va_Qi (fun (r : Int32) (t' : Mem) => mTick t d0 = (r, t')) (BM D ad ka s.heap.size) (AM ad s.heap.size)) ([.ref (ad (0)), .int (d0)] : List Value).toArray s 0 0 (AM ad s.heap.size)) (F0 m 23 ls []) := by
      intro n
      induction n with
      | zero => intro a1 t11 H locs ls h1 h2; exact absurd h2 (by omega)
      | succ n ih1 =>
        intro a1 t11 H locs ls ha1 hn1 ho1 hF1 hP hD hS hl
        refine lv_iload_n hx hb d_M_tick_23 rfl (lv_at hl 2 rfl) ?_
        refine lv_iload_n hx hb d_M_tick_24 rfl (lv_at hl 1 rfl) ?_
        refine lv_icmp_ge (tgt := 112) hx hb d_M_tick_25 (by decide) (fun c5 => ?_) (fun c5 => ?_)
        · have _u : True := trivial
          obtain rfl := nI_eq_of (x := d0) (N := n9) (hdn) (by omega) ha1 c5
          have hE1 := lp_end hF1
          refine lv_aload_n hx hb d_M_tick_112 rfl (lv_at hl 0 rfl) ?_
          refine g_M_today hx hb hts hown hK hP mw_591 d_M_tick_113 ?_
          exact W.iret (v := gI t11 1 0) hx hb hr (fun t9 ht hW => ⟨⟨gI t11 1 0, t11, rfl, (by unfold mTick mTickT; rw [if_neg c4, hcd, ← hE1]), BM_at ht hW hP hK hD⟩, hS.F ht⟩) hS.2.2 d_M_tick_116
        · have _u : True := trivial
          have hlt1 : a1 < n9 := nI_lt_of (x := d0) (N := n9) (hdn) ha1 c5
          refine lv_aload_n hx hb d_M_tick_28 rfl (lv_at hl 0 rfl) ?_
          refine lv_dup hx hb d_M_tick_29 rfl ?_
          refine g_M_today hx hb hts hown hK hP mw_591 d_M_tick_30 ?_
          refine lv_iconst (v := 1) hx hb d_M_tick_33 (by decide) ?_
          refine lv_iadd hx hb d_M_tick_34 ?_
          refine p_M_today hx hb hts hown hK hP hD hS mw_591 d_M_tick_35 (fun H locs hP hD hS => ?_)
          refine lv_iconst (v := 0) hx hb d_M_tick_38 (by decide) ?_
          refine lv_istore_n (lv' := [(3, .int (0)), (0, .ref (ad (0))), (1, .int (d0)), (2, .int (nI a1))]) hx hb d_M_tick_39 rfl hl (by decide) rfl (fun ls hl => ?_)
          have hloop2 : ∀ (n a2 : Nat) (t12 : Mem) (H : Heap) (locs : List Loc) (ls : Array Slot), a2 ≤ 3 → 3 + 1 ≤ a2 + n → OKD t12 (Bd + 72 * a1 + 24 * a2) → lp (mLst) (3 - a2) a2 t12 = lp (mLst) 3 0 (pI t11 1 0 ((gI t11 1 0) + 1)) → va_P D clm (mw ad ka t12) H → va_D (AM ad s.heap.size) (mw ad ka t12) → va_S (AM ad s.heap.size) s.heap H locs → lv_has ls 5 [(0, .ref (ad (0))), (1, .int (d0)), (2, .int (nI a1)), (3, .int (nI a2))] → W p l e ({ frames := 2, cells := 0, slots := 0, locals := 47 }) s m ([.ref (ad (0)), .int (d0)] : List Value).toArray below meth c H locs 0 0 (MQ below (va_Qi (fun (r : Int32) (t' : Mem) => mTick t d0 = (r, t')) (BM D ad ka s.heap.size) (AM ad s.heap.size)) ([.ref (ad (0)), .int (d0)] : List Value).toArray s 0 0 (AM ad s.heap.size)) (F0 m 40 ls []) := by
            intro n
            induction n with
            | zero => intro a2 t12 H locs ls h1 h2; exact absurd h2 (by omega)
            | succ n ih2 =>
              intro a2 t12 H locs ls ha2 hn2 ho2 hF2 hP hD hS hl
              refine lv_iload_n hx hb d_M_tick_40 rfl (lv_at hl 3 rfl) ?_
              refine lv_iconst (v := 3) hx hb d_M_tick_41 (by decide) ?_
              refine lv_icmp_ge (tgt := 106) hx hb d_M_tick_42 (by decide) (fun c6 => ?_) (fun c6 => ?_)
              · have _u : True := trivial
                obtain rfl := nI_eq_of (x := 3) (N := 3) (rfl) (by decide) ha2 c6
                have hE2 := lp_end hF2
                refine lv_iinc (v := nI (a1 + 1)) (lv' := [(2, .int (nI (a1 + 1))), (0, .ref (ad (0))), (1, .int (d0)), (3, .int (nI 3))]) hx hb d_M_tick_106 hl (k := 2) rfl (nI_1 _) (by decide) rfl (fun ls hl => ?_)
                refine lv_goto (tgt := 23) hx hb d_M_tick_109 (by decide) ?_
                exact ih1 (a1 + 1) t12 H _ ls (by omega) (by omega) (OKD_up ho2 (by omega)) (lp_next hlt1 hF1 hE2.symm) hP hD hS (lv_sub hl [1, 2, 0] rfl)
              · have _u : True := trivial
                have hlt2 : a2 < 3 := nI_lt_of (x := 3) (N := 3) (rfl) ha2 c6
                refine lv_iconst (v := 0) hx hb d_M_tick_45 (by decide) ?_
                refine lv_istore (lv' := [(4, .int (0)), (0, .ref (ad (0))), (1, .int (d0)), (2, .int (nI a1)), (3, .int (nI a2))]) hx hb d_M_tick_46 hl (by decide) rfl (fun ls hl => ?_)
                have hloop3 : ∀ (n a3 : Nat) (t13 : Mem) (H : Heap) (locs : List Loc) (ls : Array Slot), a3 ≤ 12 → 12 + 1 ≤ a3 + n → OKD t13 (Bd + 72 * a1 + 24 * a2 + a3) → lp (fun a t => mDay t (12 * a2 + a) (nI a) (nI a2)) (12 - a3) a3 t13 = lp (fun a t => mDay t (12 * a2 + a) (nI a) (nI a2)) 12 0 t12 → va_P D clm (mw ad ka t13) H → va_D (AM ad s.heap.size) (mw ad ka t13) → va_S (AM ad s.heap.size) s.heap H locs → lv_has ls 5 [(0, .ref (ad (0))), (1, .int (d0)), (2, .int (nI a1)), (3, .int (nI a2)), (4, .int (nI a3))] → W p l e ({ frames := 2, cells := 0, slots := 0, locals := 47 }) s m ([.ref (ad (0)), .int (d0)] : List Value).toArray below meth c H locs 0 0 (MQ below (va_Qi (fun (r : Int32) (t' : Mem) => mTick t d0 = (r, t')) (BM D ad ka s.heap.size) (AM ad s.heap.size)) ([.ref (ad (0)), .int (d0)] : List Value).toArray s 0 0 (AM ad s.heap.size)) (F0 m 48 ls []) := by
                  intro n
                  induction n with
                  | zero => intro a3 t13 H locs ls h1 h2; exact absurd h2 (by omega)
                  | succ n ih3 =>
                    intro a3 t13 H locs ls ha3 hn3 ho3 hF3 hP hD hS hl
                    refine lv_iload hx hb d_M_tick_48 (lv_at hl 4 rfl) ?_
                    refine lv_bipush (v := 12) hx hb d_M_tick_50 (by decide) ?_
                    refine lv_icmp_ge (tgt := 68) hx hb d_M_tick_52 (by decide) (fun c7 => ?_) (fun c7 => ?_)
                    · have _u : True := trivial
                      obtain rfl := nI_eq_of (x := 12) (N := 12) (rfl) (by decide) ha3 c7
                      have hE3 := lp_end hF3
                      refine lv_aload_n hx hb d_M_tick_68 rfl (lv_at hl 0 rfl) ?_
                      refine g_M_bundle hx hb hts hown hK hP mw_614 d_M_tick_69 ?_
                      refine lv_iload_n hx hb d_M_tick_72 rfl (lv_at hl 3 rfl) ?_
                      refine g_m_bundle hx hb hK hP (r := a2) hlt2 rfl d_M_tick_73 ?_
                      refine lv_if_le (tgt := 100) hx hb d_M_tick_74 (by decide) (fun c8 => ?_) (fun c8 => ?_)
                      · have _u : True := trivial
                        refine lv_iinc (v := nI (a2 + 1)) (lv' := [(3, .int (nI (a2 + 1))), (0, .ref (ad (0))), (1, .int (d0)), (2, .int (nI a1)), (4, .int (nI 12))]) hx hb d_M_tick_100 hl (k := 3) rfl (nI_1 _) (by decide) rfl (fun ls hl => ?_)
                        refine lv_goto (tgt := 40) hx hb d_M_tick_103 (by decide) ?_
                        exact ih2 (a2 + 1) t13 H _ ls (by omega) (by omega) (OKD_up ho3 (by omega)) (lp_next hlt2 hF2 (by unfold mLst mDayL; rw [← hE3]; simp [mDigD, c7, c8])) hP hD hS (lv_sub hl [1, 2, 3, 0] rfl)
                      · have _u : True := trivial
                        refine lv_aload_n hx hb d_M_tick_77 rfl (lv_at hl 0 rfl) ?_
                        refine g_M_today hx hb hts hown hK hP mw_591 d_M_tick_78 ?_
                        refine lv_aload_n hx hb d_M_tick_81 rfl (lv_at hl 0 rfl) ?_
                        refine g_M_bDay hx hb hts hown hK hP mw_616 d_M_tick_82 ?_
                        refine lv_bipush (v := 40) hx hb d_M_tick_85 (by decide) ?_
                        refine lv_iload_n hx hb d_M_tick_87 rfl (lv_at hl 3 rfl) ?_
                        refine lv_imul hx hb d_M_tick_88 ?_
                        refine g_m_bDay hx hb hK hP (r := (40 * a2)) (by omega) (by rw [show (40 : Int32) = nI 40 from rfl, pk_mul]) d_M_tick_89 ?_
                        refine lv_isub hx hb d_M_tick_90 ?_
                        refine lv_iconst (v := 2) hx hb d_M_tick_91 (by decide) ?_
                        refine lv_icmp_le (tgt := 100) hx hb d_M_tick_92 (by decide) (fun c9 => ?_) (fun c9 => ?_)
                        · have _u : True := trivial
                          refine lv_iinc (v := nI (a2 + 1)) (lv' := [(3, .int (nI (a2 + 1))), (0, .ref (ad (0))), (1, .int (d0)), (2, .int (nI a1)), (4, .int (nI 12))]) hx hb d_M_tick_100 hl (k := 3) rfl (nI_1 _) (by decide) rfl (fun ls hl => ?_)
                          refine lv_goto (tgt := 40) hx hb d_M_tick_103 (by decide) ?_
                          exact ih2 (a2 + 1) t13 H _ ls (by omega) (by omega) (OKD_up ho3 (by omega)) (lp_next hlt2 hF2 (by unfold mLst mDayL; rw [← hE3]; simp [mDigD, c7, c8, c9])) hP hD hS (lv_sub hl [1, 2, 3, 0] rfl)
                        · have _u : True := trivial
                          refine lv_aload_n hx hb d_M_tick_95 rfl (lv_at hl 0 rfl) ?_
                          refine lv_iload_n hx hb d_M_tick_96 rfl (lv_at hl 3 rfl) ?_
                          have hA1 := hS.1
                          refine va_callv (va_runV (As := [.int (nI a2)]) (rest := []) ⟨hx, hb, hml, hown, hts⟩ (c_M_digest l D ad ka H.size t13 (Bd + 72 * a1 + 24 * a2 + 12) (by omega) ho3.1 a2 hlt2 (nI a2) rfl) (cwV 1 hts (gv mw_745 mw_747 (big_sel (i := 8) (by decide +kernel) (by decide +kernel)) mw_6 mw_748) rfl rfl rfl (by decide +kernel) ⟨Nat.le_of_ble_eq_true rfl, Nat.le_of_ble_eq_true rfl⟩) ⟨PM_blind, va_recv hK hP (ci := 0) (q0 := 0) rfl (at_M), fun U hU hW => ⟨rfl, PM_at hU hW hP hK hD⟩⟩ rfl rfl hl.1 rfl (lv_room (Nat.le_of_ble_eq_true rfl)) d_M_tick_97 ⟨Nat.le_of_ble_eq_true rfl, Nat.le_of_ble_eq_true rfl⟩) hS (fun q _ h => AM_up hA1 q h) (AM_up hA1) (fun t12 tq H1 locs ht hvm hw11 hB hz1 hk1 hS => ?_)
                          obtain ⟨hP, hD⟩ := BM_back ht hB (AM_up hA1)
                          generalize H1 = H at hP hS ⊢
                          rw [hw11] at hP hD
                          refine lv_iinc (v := nI (a2 + 1)) (lv' := [(3, .int (nI (a2 + 1))), (0, .ref (ad (0))), (1, .int (d0)), (2, .int (nI a1)), (4, .int (nI 12))]) hx hb d_M_tick_100 hl (k := 3) rfl (nI_1 _) (by decide) rfl (fun ls hl => ?_)
                          refine lv_goto (tgt := 40) hx hb d_M_tick_103 (by decide) ?_
                          exact ih2 (a2 + 1) (mDig t13 a2 (nI a2)) H _ ls (by omega) (by omega) (OKD_up (OKD_dig ho3) (by omega)) (lp_next hlt2 hF2 (by unfold mLst mDayL; rw [← hE3]; simp [mDigD, c7, c8, c9])) hP hD hS (lv_sub hl [1, 2, 3, 0] rfl)
                    · have _u : True := trivial
                      have hlt3 : a3 < 12 := nI_lt_of (x := 12) (N := 12) (rfl) ha3 c7
                      refine lv_aload_n hx hb d_M_tick_55 rfl (lv_at hl 0 rfl) ?_
                      refine lv_iload_n hx hb d_M_tick_56 rfl (lv_at hl 3 rfl) ?_
                      refine lv_iload hx hb d_M_tick_57 (lv_at hl 4 rfl) ?_
                      have hA1 := hS.1
                      refine va_callv (va_runV (As := [.int (nI a2), .int (nI a3)]) (rest := []) ⟨hx, hb, hml, hown, hts⟩ (c_M_day l D ad ka H.size t13 (Bd + 72 * a1 + 24 * a2 + a3) (by omega) ho3.1 ho3.2 a2 hlt2 (nI a2) rfl a3 hlt3 (nI a3) rfl) (cwV 2 hts (gv mw_769 mw_771 (big_sel (i := 10) (by decide +kernel) (by decide +kernel)) mw_6 mw_772) rfl rfl rfl (by decide +kernel) ⟨Nat.le_of_ble_eq_true rfl, Nat.le_of_ble_eq_true rfl⟩) ⟨PM_blind, va_recv hK hP (ci := 0) (q0 := 0) rfl (at_M), fun U hU hW => ⟨rfl, PM_at hU hW hP hK hD⟩⟩ rfl rfl hl.1 rfl (lv_room (Nat.le_of_ble_eq_true rfl)) d_M_tick_59 ⟨Nat.le_of_ble_eq_true rfl, Nat.le_of_ble_eq_true rfl⟩) hS (fun q _ h => AM_up hA1 q h) (AM_up hA1) (fun t15 tq H1 locs ht hvm hw14 hB hz1 hk1 hS => ?_)
                      obtain ⟨hP, hD⟩ := BM_back ht hB (AM_up hA1)
                      generalize H1 = H at hP hS ⊢
                      rw [hw14] at hP hD
                      refine lv_iinc (v := nI (a3 + 1)) (lv' := [(4, .int (nI (a3 + 1))), (0, .ref (ad (0))), (1, .int (d0)), (2, .int (nI a1)), (3, .int (nI a2))]) hx hb d_M_tick_62 hl (k := 4) rfl (nI_1 _) (by decide) rfl (fun ls hl => ?_)
                      refine lv_goto (tgt := 48) hx hb d_M_tick_65 (by decide) ?_
                      exact ih3 (a3 + 1) (mDay t13 (12 * a2 + a3) (nI a3) (nI a2)) H _ ls (by omega) (by omega) (OKD_up (OKD_day ho3) (by omega)) (lp_next hlt3 hF3 rfl) hP hD hS (lv_sub hl [1, 2, 3, 4, 0] rfl)
                exact hloop3 (12 + 1) 0 t12 H _ ls (by omega) (by omega) (OKD_up ho2 (by omega)) rfl hP hD hS (lv_sub hl [1, 2, 3, 4, 0] rfl)
          exact hloop2 (3 + 1) 0 (pI t11 1 0 ((gI t11 1 0) + 1)) H _ ls (by omega) (by omega) (OKD_up (OKD_f ho1 (by decide)) (by omega)) rfl hP hD hS (lv_sub hl [1, 2, 3, 0] rfl)
    exact hloop1 (n9 + 1) 0 (pI t 0 0 0) H _ ls (by omega) (by omega) (OKD_up (OKD_f hm (by decide)) (by omega)) rfl hP hD hS (lv_sub hl [1, 2, 0] rfl)
  · have _u : True := trivial
    refine lv_aload_n hx hb d_M_tick_10 rfl (lv_at hl 0 rfl) ?_
    refine lv_iconst (v := 1) hx hb d_M_tick_11 (by decide) ?_
    have hA1 := hS.1
    refine va_calli (va_runV (As := [.int (1)]) (rest := []) ⟨hx, hb, hml, hown, hts⟩ (c_M_refuse l D ad ka H.size t 1) (cwV 1 hts (gv mw_699 mw_701 (big_sel (i := 4) (by decide +kernel) (by decide +kernel)) mw_6 mw_702) rfl rfl rfl (by decide +kernel) ⟨Nat.le_of_ble_eq_true rfl, Nat.le_of_ble_eq_true rfl⟩) ⟨PM_blind, va_recv hK hP (ci := 0) (q0 := 0) rfl (at_M), fun U hU hW => ⟨rfl, PM_at hU hW hP hK hD⟩⟩ rfl rfl hl.1 rfl (lv_room (Nat.le_of_ble_eq_true rfl)) d_M_tick_12 ⟨Nat.le_of_ble_eq_true rfl, Nat.le_of_ble_eq_true rfl⟩) hS (fun q _ h => AM_up hA1 q h) (AM_up hA1) (fun r16 t18 tq H1 locs ht hvm hw17 hB hz1 hk1 hS => ?_)
    obtain ⟨hP, hD⟩ := BM_back ht hB (AM_up hA1)
    generalize H1 = H at hP hS ⊢
    obtain ⟨hwr, hwt⟩ := hw17
    rw [hwt] at hP hD
    rw [hwr]
    exact W.iret (v := 0) hx hb hr (fun t9 ht hW => ⟨⟨0, (pI t 0 0 1), rfl, (by simp [mTick, c4]), BM_at ht hW hP hK hD⟩, hS.F ht⟩) hS.2.2 d_M_tick_15
