def mPasA (u r : Nat) (p x : Int32) (a : Nat) (t : Mem) : Mem := if mLive t (12 * u + a) 0 = 0 then t else if nI a = gI t 1017 r then t else mSend t (nI a) x 0 p
def mPasF (u r : Nat) (p x : Int32) (a : Nat) (z : Mem × Int32) : Mem × Int32 := (mPasA u r p x a z.1, z.2 ||| mLive (mPasA u r p x a z.1) (12 * u + a) 1)
def mPasT (t : Mem) (u r b : Nat) : Mem := pI (pI (pI t 1021 (40 * u + b) (gI t 1018 r)) 1022 (40 * u + b) (gI t 1 0)) 1020 u (gI t 1020 u + 1)
def mSum (t : Mem) (u n : Nat) : Int32 := lp (fun k s => s + gI t 1021 (40 * u + k)) n 0 0
def mPasB (t : Mem) (u r b : Nat) (x : Int32) : Mem := if mSum (mPasT t u r b) u (b + 1) < gI (mPasT t u r b) 1014 u then mPasT t u r b else mDig (mPasT t u r b) u x
def mPass (t : Mem) (r : Nat) (p : Int32) : Mem := if (lp (mPasF (cl (gI t 1016 r)) r p (gI t 1016 r)) 12 0 (t, 0)).2 = 0 then (lp (mPasF (cl (gI t 1016 r)) r p (gI t 1016 r)) 12 0 (t, 0)).1 else mPasB (lp (mPasF (cl (gI t 1016 r)) r p (gI t 1016 r)) 12 0 (t, 0)).1 (cl (gI t 1016 r)) r (cl (gI t 1020 (cl (gI t 1016 r)))) (gI t 1016 r)
theorem gI_pasA {u r : Nat} {p x : Int32} {a : Nat} {t : Mem} {k j : Nat} (h : k ≠ 4 ∧ k ≠ 1023 ∧ k ≠ 1024 ∧ k ≠ 1025 ∧ k ≠ 1026) : gI (mPasA u r p x a t) k j = gI t k j := by
  unfold mPasA
  split
  · rfl
  · split
    · rfl
    · exact gI_send h
/-- the loop over addresses leaves all but what was sent -/
def PSk (t t0 : Mem) (B : Nat) : Prop := SM t B ∧ ∀ k j, (k ≠ 4 ∧ k ≠ 1023 ∧ k ≠ 1024 ∧ k ≠ 1025 ∧ k ≠ 1026) → gI t k j = gI t0 k j
theorem PSk_send {t t0 : Mem} {B : Nat} {a x s n : Int32} (h : PSk t t0 B) : PSk (mSend t a x s n) t0 (B + 1) := ⟨SM_send h.1, fun k j q => (gI_send q).trans (h.2 k j q)⟩
theorem PSk_up {t t0 : Mem} {B B2 : Nat} (h : PSk t t0 B) (hb : B ≤ B2) : PSk t t0 B2 := ⟨SM_up h.1 hb, h.2⟩
theorem f_of {x : Int32} {u b : Nat} {y : Int32} (h1 : x = nI u) (h2 : y = nI b) : 40 * x + y = nI (40 * u + b) := by
  rw [h1, h2, show (40 : Int32) = nI 40 from rfl, pk_mul, nI_add]
set_option maxHeartbeats 4000000 in
set_option maxRecDepth 100000 in
theorem c_M_pass (l : Launch) (D : va_G) (ad : Nat → Nat) (ka : Nat → ClassId) (sz : Nat) (t : Mem) (Bd : Nat) (hBd : Bd < 800000000) (hm : SM t Bd) (r : Nat) (hrp : r < 40) (p0 : Int32) (hp0 : p0 = nI r) (v : Nat) (hv : v < 3) (hve : gI t 1016 r = nI v) (b : Nat) (hb40 : b < 40) (hbb : gI t 1020 v = nI b) : Met l y_M_pass (Cond.code y_M_pass b_M_pass 6 none :: big) ({ frames := 2, cells := 0, slots := 0, locals := 46 }) (va_Pc [.ref (ad (0)), .int (p0)] (PM D ad ka sz t)) (va_Qv (fun t' : Mem => t' = mPass t r p0) (BM D ad ka sz) (AM ad sz)) 0 0 (AM ad sz) := by
  refine Met.ofW (cc := b_M_pass) (maxL := 6) (ret := none) (by decide) rfl ?_
  intro p e s m args below meth c s₁ B hml hv
  obtain ⟨rfl, hsz, hP, hK, hD0⟩ := hv
  have hx := B.exec
  have hb := B.bytes
  have hr := B.returns
  have hlocks := B.notSynchronized
  have hts := atoms_spec (ws := Cond.code y_M_pass b_M_pass 6 none :: big) B.pre
  have hown : s.vm.findClass "ListForgeModel" = some m.cls := findClass_of_methodNamed B.named
  subst hsz
  have hD : va_D (AM ad s.heap.size) (mw ad ka t) := AM_D hD0
  have hS : va_S (AM ad s.heap.size) s.heap s.heap [] := va_S.rf
  have hl := lv_entry ([.ref (ad (0)), .int (p0)]) (n := 6) (Nat.le_of_ble_eq_true rfl)
  rw [lg_entry_eq]
  generalize (lg_sl ([.ref (ad (0)), .int (p0)]) ++ List.replicate (6 - (lg_sl ([.ref (ad (0)), .int (p0)])).length) Slot.unset).toArray = ls at hl ⊢
  have hl : lv_has ls 6 [(0, .ref (ad (0))), (1, .int (p0))] := hl

  have hcv : cl (gI t 1016 r) = v := cl_of hve (by omega)
  have hcb : cl (gI t 1020 v) = b := cl_of hbb (by omega)
  refine lv_aload_n hx hb d_M_pass_0 rfl (lv_at hl 0 rfl) ?_
  refine g_M_pList hx hb hts hown hK hP mw_610 d_M_pass_1 ?_
  refine lv_iload_n hx hb d_M_pass_4 rfl (lv_at hl 1 rfl) ?_
  refine g_m_pList hx hb hK hP (r := r) hrp hp0 d_M_pass_5 ?_
  refine lv_istore_n (lv' := [(2, .int (gI t 1016 r)), (0, .ref (ad (0))), (1, .int (p0))]) hx hb d_M_pass_6 rfl hl (by decide) rfl (fun ls hl => ?_)
  refine lv_iconst (v := 0) hx hb d_M_pass_7 (by decide) ?_
  refine lv_istore_n (lv' := [(3, .int (0)), (2, .int (gI t 1016 r)), (0, .ref (ad (0))), (1, .int (p0))]) hx hb d_M_pass_8 rfl hl (by decide) rfl (fun ls hl => ?_)
  refine lv_iconst (v := 0) hx hb d_M_pass_9 (by decide) ?_
  refine lv_istore (lv' := [(4, .int (0)), (3, .int (0)), (2, .int (gI t 1016 r)), (0, .ref (ad (0))), (1, .int (p0))]) hx hb d_M_pass_10 hl (by decide) rfl (fun ls hl => ?_)
  refine lv_iconst (v := 0) hx hb d_M_pass_12 (by decide) ?_
  refine lv_istore (lv' := [(5, .int (0)), (4, .int (0)), (3, .int (0)), (2, .int (gI t 1016 r)), (0, .ref (ad (0))), (1, .int (p0))]) hx hb d_M_pass_13 hl (by decide) rfl (fun ls hl => ?_)
  have hloop1 : ∀ (n a1 : Nat) (g : Int32) (t11 : Mem) (H : Heap) (locs : List Loc) (ls : Array Slot), a1 ≤ 12 → 12 + 1 ≤ a1 + n → PSk t11 t (Bd + a1) → lp (mPasF v r p0 (gI t 1016 r)) (12 - a1) a1 (t11, g) = lp (mPasF v r p0 (gI t 1016 r)) 12 0 (t, 0) → va_P D clm (mw ad ka t11) H → va_D (AM ad s.heap.size) (mw ad ka t11) → va_S (AM ad s.heap.size) s.heap H locs → lv_has ls 6 [(0, .ref (ad (0))), (1, .int (p0)), (2, .int (gI t 1016 r)), (3, .int (0)), (4, .int (g)), (5, .int (nI a1))] → W p l e ({ frames := 2, cells := 0, slots := 0, locals := 46 }) s m ([.ref (ad (0)), .int (p0)] : List Value).toArray below meth c H locs 0 0 (MQ below (va_Qv (fun t' : Mem => t' = mPass t r p0) (BM D ad ka s.heap.size) (AM ad s.heap.size)) ([.ref (ad (0)), .int (p0)] : List Value).toArray s 0 0 (AM ad s.heap.size)) (F0 m 15 ls []) := by
    intro n
    induction n with
    | zero => intro a1 g t11 H locs ls h1 h2; exact absurd h2 (by omega)
    | succ n ih1 =>
      intro a1 g t11 H locs ls ha1 hn1 ho1 hF1 hP hD hS hl
      refine lv_iload hx hb d_M_pass_15 (lv_at hl 5 rfl) ?_
      refine lv_bipush (v := 12) hx hb d_M_pass_17 (by decide) ?_
      refine lv_icmp_ge (tgt := 72) hx hb d_M_pass_19 (by decide) (fun c1 => ?_) (fun c1 => ?_)
      · have _u : True := trivial
        obtain rfl := nI_eq_of (x := 12) (N := 12) (rfl) (by decide) ha1 c1
        have hE1 := lp_end hF1
        refine lv_iload hx hb d_M_pass_72 (lv_at hl 4 rfl) ?_
        refine lv_if_ne (tgt := 78) hx hb d_M_pass_74 (by decide) (fun c2 => ?_) (fun c2 => ?_)
        · have _u : True := trivial
          have hbb1 : gI t11 1020 v = nI b := (ho1.2 1020 v (by decide)).trans hbb
          obtain ⟨b1, hb1⟩ : ∃ z, z = b + 1 := ⟨_, rfl⟩
          refine lv_aload_n hx hb d_M_pass_78 rfl (lv_at hl 0 rfl) ?_
          refine g_M_bSize hx hb hts hown hK hP mw_615 d_M_pass_79 ?_
          refine lv_bipush (v := 40) hx hb d_M_pass_82 (by decide) ?_
          refine lv_iload_n hx hb d_M_pass_84 rfl (lv_at hl 2 rfl) ?_
          refine lv_imul hx hb d_M_pass_85 ?_
          refine lv_aload_n hx hb d_M_pass_86 rfl (lv_at hl 0 rfl) ?_
          refine g_M_bundle hx hb hts hown hK hP mw_614 d_M_pass_87 ?_
          refine lv_iload_n hx hb d_M_pass_90 rfl (lv_at hl 2 rfl) ?_
          refine g_m_bundle hx hb hK hP (r := v) hv hve d_M_pass_91 ?_
          refine lv_iadd hx hb d_M_pass_92 ?_
          refine lv_aload_n hx hb d_M_pass_93 rfl (lv_at hl 0 rfl) ?_
          refine g_M_pSize hx hb hts hown hK hP mw_612 d_M_pass_94 ?_
          refine lv_iload_n hx hb d_M_pass_97 rfl (lv_at hl 1 rfl) ?_
          refine g_m_pSize hx hb hK hP (r := r) hrp hp0 d_M_pass_98 ?_
          refine p_m_bSize hx hb hK hP hD hS (r := (40 * v + b)) (by omega) (f_of hve (by simpa [gI_pI] using hbb1)) d_M_pass_99 (fun H locs hP hD hS => ?_)
          refine lv_aload_n hx hb d_M_pass_100 rfl (lv_at hl 0 rfl) ?_
          refine g_M_bDay hx hb hts hown hK hP mw_616 d_M_pass_101 ?_
          refine lv_bipush (v := 40) hx hb d_M_pass_104 (by decide) ?_
          refine lv_iload_n hx hb d_M_pass_106 rfl (lv_at hl 2 rfl) ?_
          refine lv_imul hx hb d_M_pass_107 ?_
          refine lv_aload_n hx hb d_M_pass_108 rfl (lv_at hl 0 rfl) ?_
          refine g_M_bundle hx hb hts hown hK hP mw_614 d_M_pass_109 ?_
          refine lv_iload_n hx hb d_M_pass_112 rfl (lv_at hl 2 rfl) ?_
          refine g_m_bundle hx hb hK hP (r := v) hv hve d_M_pass_113 ?_
          refine lv_iadd hx hb d_M_pass_114 ?_
          refine lv_aload_n hx hb d_M_pass_115 rfl (lv_at hl 0 rfl) ?_
          refine g_M_today hx hb hts hown hK hP mw_591 d_M_pass_116 ?_
          refine p_m_bDay hx hb hK hP hD hS (r := (40 * v + b)) (by omega) (f_of hve (by simpa [gI_pI] using hbb1)) d_M_pass_119 (fun H locs hP hD hS => ?_)
          refine lv_aload_n hx hb d_M_pass_120 rfl (lv_at hl 0 rfl) ?_
          refine g_M_bundle hx hb hts hown hK hP mw_614 d_M_pass_121 ?_
          refine lv_iload_n hx hb d_M_pass_124 rfl (lv_at hl 2 rfl) ?_
          refine lv_dup2_11 hx hb d_M_pass_125 rfl rfl ?_
          refine g_m_bundle hx hb hK hP (r := v) hv hve d_M_pass_126 ?_
          refine lv_iconst (v := 1) hx hb d_M_pass_127 (by decide) ?_
          refine lv_iadd hx hb d_M_pass_128 ?_
          refine p_m_bundle hx hb hK hP hD hS (r := v) hv hve d_M_pass_129 (fun H locs hP hD hS => ?_)
          refine lv_iconst (v := 0) hx hb d_M_pass_130 (by decide) ?_
          refine lv_istore (lv' := [(5, .int (0)), (0, .ref (ad (0))), (1, .int (p0)), (2, .int (gI t 1016 r)), (3, .int (0)), (4, .int (g))]) hx hb d_M_pass_131 hl (by decide) rfl (fun ls hl => ?_)
          have hloop2 : ∀ (n a2 : Nat) (f : Int32) (t12 : Mem) (H : Heap) (locs : List Loc) (ls : Array Slot), a2 ≤ b1 → b1 + 1 ≤ a2 + n → t12 = mPasT t11 v r b → lp (fun k s => s + gI (mPasT t11 v r b) 1021 (40 * v + k)) (b1 - a2) a2 f = lp (fun k s => s + gI (mPasT t11 v r b) 1021 (40 * v + k)) b1 0 0 → va_P D clm (mw ad ka t12) H → va_D (AM ad s.heap.size) (mw ad ka t12) → va_S (AM ad s.heap.size) s.heap H locs → lv_has ls 6 [(0, .ref (ad (0))), (1, .int (p0)), (2, .int (gI t 1016 r)), (3, .int (f)), (5, .int (nI a2))] → W p l e ({ frames := 2, cells := 0, slots := 0, locals := 46 }) s m ([.ref (ad (0)), .int (p0)] : List Value).toArray below meth c H locs 0 0 (MQ below (va_Qv (fun t' : Mem => t' = mPass t r p0) (BM D ad ka s.heap.size) (AM ad s.heap.size)) ([.ref (ad (0)), .int (p0)] : List Value).toArray s 0 0 (AM ad s.heap.size)) (F0 m 133 ls []) := by
            intro n
            induction n with
            | zero => intro a2 f t12 H locs ls h1 h2; exact absurd h2 (by omega)
            | succ n ih2 =>
              intro a2 f t12 H locs ls ha2 hn2 ho2 hF2 hP hD hS hl
              refine lv_iload hx hb d_M_pass_133 (lv_at hl 4 rfl) ?_
              refine lv_aload_n hx hb d_M_pass_135 rfl (lv_at hl 0 rfl) ?_
              refine g_M_bundle hx hb hts hown hK hP mw_614 d_M_pass_136 ?_
              refine lv_iload_n hx hb d_M_pass_139 rfl (lv_at hl 2 rfl) ?_
              refine g_m_bundle hx hb hK hP (r := v) hv hve d_M_pass_140 ?_
              refine lv_icmp_ge (tgt := 165) hx hb d_M_pass_141 (by decide) (fun c3 => ?_) (fun c3 => ?_)
              · have _u : True := trivial
                obtain rfl := nI_eq_of (x := gI t12 1020 v) (N := b1) (by rw [ho2]; simp [mPasT, gI_pI, hbb1, nI_1, hb1]) (by omega) ha2 c3
                have hE2 := lp_end hF2
                refine lv_iload_n hx hb d_M_pass_165 rfl (lv_at hl 3 rfl) ?_
                refine lv_aload_n hx hb d_M_pass_166 rfl (lv_at hl 0 rfl) ?_
                refine g_M_full hx hb hts hown hK hP mw_608 d_M_pass_167 ?_
                refine lv_iload_n hx hb d_M_pass_170 rfl (lv_at hl 2 rfl) ?_
                refine g_m_full hx hb hK hP (r := v) hv hve d_M_pass_171 ?_
                refine lv_icmp_lt (tgt := 180) hx hb d_M_pass_172 (by decide) (fun c4 => ?_) (fun c4 => ?_)
                · have _u : True := trivial
                  exact W.vret hx hb hr (fun t9 ht hW => ⟨⟨t12, rfl, (by unfold mPass; rw [hcv, ← hE1, if_neg c2, hcb]; simp only []; unfold mPasB mSum; rw [← hb1, ← hE2, ← ho2]; simp [c4]), BM_at ht hW hP hK hD⟩, hS.F ht⟩) hS.2.2 d_M_pass_180
                · have _u : True := trivial
                  refine lv_aload_n hx hb d_M_pass_175 rfl (lv_at hl 0 rfl) ?_
                  refine lv_iload_n hx hb d_M_pass_176 rfl (lv_at hl 2 rfl) ?_
                  have hA1 := hS.1
                  refine va_callv (va_runV (As := [.int (gI t 1016 r)]) (rest := []) ⟨hx, hb, hml, hown, hts⟩ (c_M_digest l D ad ka H.size t12 (Bd + 12) (by omega) (by rw [ho2]; exact SM_f (SM_f (SM_f ho1.1 (by decide)) (by decide)) (by decide)) v hv (gI t 1016 r) hve) (cwV 1 hts (gv mw_745 mw_747 (big_sel (i := 8) (by decide +kernel) (by decide +kernel)) mw_6 mw_748) rfl rfl rfl (by decide +kernel) ⟨Nat.le_of_ble_eq_true rfl, Nat.le_of_ble_eq_true rfl⟩) ⟨PM_blind, va_recv hK hP (ci := 0) (q0 := 0) rfl (at_M), fun U hU hW => ⟨rfl, PM_at hU hW hP hK hD⟩⟩ rfl rfl hl.1 rfl (lv_room (Nat.le_of_ble_eq_true rfl)) d_M_pass_177 ⟨Nat.le_of_ble_eq_true rfl, Nat.le_of_ble_eq_true rfl⟩) hS (fun q _ h => AM_up hA1 q h) (AM_up hA1) (fun t7 tq H1 locs ht hvm hw6 hB hz1 hk1 hS => ?_)
                  obtain ⟨hP, hD⟩ := BM_back ht hB (AM_up hA1)
                  generalize H1 = H at hP hS ⊢
                  rw [hw6] at hP hD
                  exact W.vret hx hb hr (fun t9 ht hW => ⟨⟨(mDig t12 v (gI t 1016 r)), rfl, (by unfold mPass; rw [hcv, ← hE1, if_neg c2, hcb]; simp only []; unfold mPasB mSum; rw [← hb1, ← hE2, ← ho2]; simp [c4]), BM_at ht hW hP hK hD⟩, hS.F ht⟩) hS.2.2 d_M_pass_180
              · have _u : True := trivial
                have hlt2 : a2 < b1 := nI_lt_of (x := gI t12 1020 v) (N := b1) (by rw [ho2]; simp [mPasT, gI_pI, hbb1, nI_1, hb1]) ha2 c3
                refine lv_iload_n hx hb d_M_pass_144 rfl (lv_at hl 3 rfl) ?_
                refine lv_aload_n hx hb d_M_pass_145 rfl (lv_at hl 0 rfl) ?_
                refine g_M_bSize hx hb hts hown hK hP mw_615 d_M_pass_146 ?_
                refine lv_bipush (v := 40) hx hb d_M_pass_149 (by decide) ?_
                refine lv_iload_n hx hb d_M_pass_151 rfl (lv_at hl 2 rfl) ?_
                refine lv_imul hx hb d_M_pass_152 ?_
                refine lv_iload hx hb d_M_pass_153 (lv_at hl 4 rfl) ?_
                refine lv_iadd hx hb d_M_pass_155 ?_
                refine g_m_bSize hx hb hK hP (r := (40 * v + a2)) (by omega) (f_of hve rfl) d_M_pass_156 ?_
                refine lv_iadd hx hb d_M_pass_157 ?_
                refine lv_istore_n (lv' := [(3, .int (f + (gI t12 1021 (40 * v + a2)))), (0, .ref (ad (0))), (1, .int (p0)), (2, .int (gI t 1016 r)), (5, .int (nI a2))]) hx hb d_M_pass_158 rfl hl (by decide) rfl (fun ls hl => ?_)
                refine lv_iinc (v := nI (a2 + 1)) (lv' := [(5, .int (nI (a2 + 1))), (3, .int (f + (gI t12 1021 (40 * v + a2)))), (0, .ref (ad (0))), (1, .int (p0)), (2, .int (gI t 1016 r))]) hx hb d_M_pass_159 hl (k := 4) rfl (nI_1 _) (by decide) rfl (fun ls hl => ?_)
                refine lv_goto (tgt := 133) hx hb d_M_pass_162 (by decide) ?_
                exact ih2 (a2 + 1) (f + (gI t12 1021 (40 * v + a2))) t12 H _ ls (by omega) (by omega) ho2 (lp_next hlt2 hF2 (by rw [ho2])) hP hD hS (lv_sub hl [2, 3, 4, 1, 0] rfl)
          exact hloop2 (b1 + 1) 0 0 (pI (pI (pI t11 1021 (40 * v + b) (gI t11 1018 r)) 1022 (40 * v + b) (gI (pI t11 1021 (40 * v + b) (gI t11 1018 r)) 1 0)) 1020 v ((gI (pI (pI t11 1021 (40 * v + b) (gI t11 1018 r)) 1022 (40 * v + b) (gI (pI t11 1021 (40 * v + b) (gI t11 1018 r)) 1 0)) 1020 v) + 1)) H _ ls (by omega) (by omega) (by simp [mPasT, gI_pI]) rfl hP hD hS (lv_sub hl [1, 2, 3, 4, 0] rfl)
        · have _u : True := trivial
          exact W.vret hx hb hr (fun t9 ht hW => ⟨⟨t11, rfl, (by unfold mPass; rw [hcv, ← hE1, if_pos c2]), BM_at ht hW hP hK hD⟩, hS.F ht⟩) hS.2.2 d_M_pass_77
      · have _u : True := trivial
        have hlt1 : a1 < 12 := nI_lt_of (x := 12) (N := 12) (rfl) ha1 c1
        refine lv_aload_n hx hb d_M_pass_22 rfl (lv_at hl 0 rfl) ?_
        refine lv_iload_n hx hb d_M_pass_23 rfl (lv_at hl 2 rfl) ?_
        refine lv_iload hx hb d_M_pass_24 (lv_at hl 5 rfl) ?_
        refine lv_iconst (v := 0) hx hb d_M_pass_26 (by decide) ?_
        have hA1 := hS.1
        refine va_calli (va_runV (As := [.int (gI t 1016 r), .int (nI a1), .int (0)]) (rest := []) ⟨hx, hb, hml, hown, hts⟩ (c_M_isLive l D ad ka H.size t11 v hv (gI t 1016 r) hve a1 hlt1 (nI a1) rfl 0) (cwV 3 hts (gv mw_741 mw_743 (big_sel (i := 7) (by decide +kernel) (by decide +kernel)) mw_6 mw_744) rfl rfl rfl (by decide +kernel) ⟨Nat.le_of_ble_eq_true rfl, Nat.le_of_ble_eq_true rfl⟩) ⟨PM_blind, va_recv hK hP (ci := 0) (q0 := 0) rfl (at_M), fun U hU hW => ⟨rfl, PM_at hU hW hP hK hD⟩⟩ rfl rfl hl.1 rfl (lv_room (Nat.le_of_ble_eq_true rfl)) d_M_pass_27 ⟨Nat.le_of_ble_eq_true rfl, Nat.le_of_ble_eq_true rfl⟩) hS (fun q _ h => AM_up hA1 q h) (AM_up hA1) (fun r8 t10 tq H1 locs ht hvm hw9 hB hz1 hk1 hS => ?_)
        obtain ⟨hP, hD⟩ := BM_back ht hB (AM_up hA1)
        generalize H1 = H at hP hS ⊢
        obtain ⟨hwr, hwt⟩ := hw9
        rw [hwt] at hP hD
        rw [hwr]
        refine lv_if_eq (tgt := 53) hx hb d_M_pass_30 (by decide) (fun c11 => ?_) (fun c11 => ?_)
        · have _u : True := trivial
          refine lv_iload hx hb d_M_pass_53 (lv_at hl 4 rfl) ?_
          refine lv_aload_n hx hb d_M_pass_55 rfl (lv_at hl 0 rfl) ?_
          refine lv_iload_n hx hb d_M_pass_56 rfl (lv_at hl 2 rfl) ?_
          refine lv_iload hx hb d_M_pass_57 (lv_at hl 5 rfl) ?_
          refine lv_iconst (v := 1) hx hb d_M_pass_59 (by decide) ?_
          have hA1 := hS.1
          refine va_calli (va_runV (As := [.int (gI t 1016 r), .int (nI a1), .int (1)]) (rest := [.int (g)]) ⟨hx, hb, hml, hown, hts⟩ (c_M_isLive l D ad ka H.size t11 v hv (gI t 1016 r) hve a1 hlt1 (nI a1) rfl 1) (cwV 3 hts (gv mw_741 mw_743 (big_sel (i := 7) (by decide +kernel) (by decide +kernel)) mw_6 mw_744) rfl rfl rfl (by decide +kernel) ⟨Nat.le_of_ble_eq_true rfl, Nat.le_of_ble_eq_true rfl⟩) ⟨PM_blind, va_recv hK hP (ci := 0) (q0 := 0) rfl (at_M), fun U hU hW => ⟨rfl, PM_at hU hW hP hK hD⟩⟩ rfl rfl hl.1 rfl (lv_room (Nat.le_of_ble_eq_true rfl)) d_M_pass_60 ⟨Nat.le_of_ble_eq_true rfl, Nat.le_of_ble_eq_true rfl⟩) hS (fun q _ h => AM_up hA1 q h) (AM_up hA1) (fun r12 t14 tq H1 locs ht hvm hw13 hB hz1 hk1 hS => ?_)
          obtain ⟨hP, hD⟩ := BM_back ht hB (AM_up hA1)
          generalize H1 = H at hP hS ⊢
          obtain ⟨hwr, hwt⟩ := hw13
          rw [hwt] at hP hD
          rw [hwr]
          refine lv_ior hx hb d_M_pass_63 ?_
          refine lv_istore (lv' := [(4, .int (g ||| (mLive t11 (12 * v + a1) 1))), (0, .ref (ad (0))), (1, .int (p0)), (2, .int (gI t 1016 r)), (3, .int (0)), (5, .int (nI a1))]) hx hb d_M_pass_64 hl (by decide) rfl (fun ls hl => ?_)
          refine lv_iinc (v := nI (a1 + 1)) (lv' := [(5, .int (nI (a1 + 1))), (4, .int (g ||| (mLive t11 (12 * v + a1) 1))), (0, .ref (ad (0))), (1, .int (p0)), (2, .int (gI t 1016 r)), (3, .int (0))]) hx hb d_M_pass_66 hl (k := 5) rfl (nI_1 _) (by decide) rfl (fun ls hl => ?_)
          refine lv_goto (tgt := 15) hx hb d_M_pass_69 (by decide) ?_
          exact ih1 (a1 + 1) (g ||| (mLive t11 (12 * v + a1) 1)) t11 H _ ls (by omega) (by omega) (PSk_up ho1 (by omega)) (lp_next hlt1 hF1 (by simp [mPasF, mPasA, c1, c11])) hP hD hS (lv_sub hl [2, 3, 4, 5, 1, 0] rfl)
        · have _u : True := trivial
          refine lv_iload hx hb d_M_pass_33 (lv_at hl 5 rfl) ?_
          refine lv_aload_n hx hb d_M_pass_35 rfl (lv_at hl 0 rfl) ?_
          refine g_M_pFrom hx hb hts hown hK hP mw_611 d_M_pass_36 ?_
          refine lv_iload_n hx hb d_M_pass_39 rfl (lv_at hl 1 rfl) ?_
          refine g_m_pFrom hx hb hK hP (r := r) hrp hp0 d_M_pass_40 ?_
          refine lv_icmp_eq (tgt := 53) hx hb d_M_pass_41 (by decide) (fun c15 => ?_) (fun c15 => ?_)
          · have _u : True := trivial
            refine lv_iload hx hb d_M_pass_53 (lv_at hl 4 rfl) ?_
            refine lv_aload_n hx hb d_M_pass_55 rfl (lv_at hl 0 rfl) ?_
            refine lv_iload_n hx hb d_M_pass_56 rfl (lv_at hl 2 rfl) ?_
            refine lv_iload hx hb d_M_pass_57 (lv_at hl 5 rfl) ?_
            refine lv_iconst (v := 1) hx hb d_M_pass_59 (by decide) ?_
            have hA1 := hS.1
            refine va_calli (va_runV (As := [.int (gI t 1016 r), .int (nI a1), .int (1)]) (rest := [.int (g)]) ⟨hx, hb, hml, hown, hts⟩ (c_M_isLive l D ad ka H.size t11 v hv (gI t 1016 r) hve a1 hlt1 (nI a1) rfl 1) (cwV 3 hts (gv mw_741 mw_743 (big_sel (i := 7) (by decide +kernel) (by decide +kernel)) mw_6 mw_744) rfl rfl rfl (by decide +kernel) ⟨Nat.le_of_ble_eq_true rfl, Nat.le_of_ble_eq_true rfl⟩) ⟨PM_blind, va_recv hK hP (ci := 0) (q0 := 0) rfl (at_M), fun U hU hW => ⟨rfl, PM_at hU hW hP hK hD⟩⟩ rfl rfl hl.1 rfl (lv_room (Nat.le_of_ble_eq_true rfl)) d_M_pass_60 ⟨Nat.le_of_ble_eq_true rfl, Nat.le_of_ble_eq_true rfl⟩) hS (fun q _ h => AM_up hA1 q h) (AM_up hA1) (fun r16 t18 tq H1 locs ht hvm hw17 hB hz1 hk1 hS => ?_)
            obtain ⟨hP, hD⟩ := BM_back ht hB (AM_up hA1)
            generalize H1 = H at hP hS ⊢
            obtain ⟨hwr, hwt⟩ := hw17
            rw [hwt] at hP hD
            rw [hwr]
            refine lv_ior hx hb d_M_pass_63 ?_
            refine lv_istore (lv' := [(4, .int (g ||| (mLive t11 (12 * v + a1) 1))), (0, .ref (ad (0))), (1, .int (p0)), (2, .int (gI t 1016 r)), (3, .int (0)), (5, .int (nI a1))]) hx hb d_M_pass_64 hl (by decide) rfl (fun ls hl => ?_)
            refine lv_iinc (v := nI (a1 + 1)) (lv' := [(5, .int (nI (a1 + 1))), (4, .int (g ||| (mLive t11 (12 * v + a1) 1))), (0, .ref (ad (0))), (1, .int (p0)), (2, .int (gI t 1016 r)), (3, .int (0))]) hx hb d_M_pass_66 hl (k := 5) rfl (nI_1 _) (by decide) rfl (fun ls hl => ?_)
            refine lv_goto (tgt := 15) hx hb d_M_pass_69 (by decide) ?_
            exact ih1 (a1 + 1) (g ||| (mLive t11 (12 * v + a1) 1)) t11 H _ ls (by omega) (by omega) (PSk_up ho1 (by omega)) (lp_next hlt1 hF1 (by simp [mPasF, mPasA, c1, c11, c15])) hP hD hS (lv_sub hl [2, 3, 4, 5, 1, 0] rfl)
          · have _u : True := trivial
            refine lv_aload_n hx hb d_M_pass_44 rfl (lv_at hl 0 rfl) ?_
            refine lv_iload hx hb d_M_pass_45 (lv_at hl 5 rfl) ?_
            refine lv_iload_n hx hb d_M_pass_47 rfl (lv_at hl 2 rfl) ?_
            refine lv_iconst (v := 0) hx hb d_M_pass_48 (by decide) ?_
            refine lv_iload_n hx hb d_M_pass_49 rfl (lv_at hl 1 rfl) ?_
            have hA1 := hS.1
            refine va_callv (va_runV (As := [.int (nI a1), .int (gI t 1016 r), .int (0), .int (p0)]) (rest := []) ⟨hx, hb, hml, hown, hts⟩ (c_M_send l D ad ka H.size t11 (Bd + a1) (by omega) ho1.1 (nI a1) (gI t 1016 r) 0 p0) (cwV 4 hts (gv mw_703 mw_705 (big_sel (i := 5) (by decide +kernel) (by decide +kernel)) mw_6 mw_706) rfl rfl rfl (by decide +kernel) ⟨Nat.le_of_ble_eq_true rfl, Nat.le_of_ble_eq_true rfl⟩) ⟨PM_blind, va_recv hK hP (ci := 0) (q0 := 0) rfl (at_M), fun U hU hW => ⟨rfl, PM_at hU hW hP hK hD⟩⟩ rfl rfl hl.1 rfl (lv_room (Nat.le_of_ble_eq_true rfl)) d_M_pass_50 ⟨Nat.le_of_ble_eq_true rfl, Nat.le_of_ble_eq_true rfl⟩) hS (fun q _ h => AM_up hA1 q h) (AM_up hA1) (fun t21 tq H1 locs ht hvm hw20 hB hz1 hk1 hS => ?_)
            obtain ⟨hP, hD⟩ := BM_back ht hB (AM_up hA1)
            generalize H1 = H at hP hS ⊢
            rw [hw20] at hP hD
            refine lv_iload hx hb d_M_pass_53 (lv_at hl 4 rfl) ?_
            refine lv_aload_n hx hb d_M_pass_55 rfl (lv_at hl 0 rfl) ?_
            refine lv_iload_n hx hb d_M_pass_56 rfl (lv_at hl 2 rfl) ?_
            refine lv_iload hx hb d_M_pass_57 (lv_at hl 5 rfl) ?_
            refine lv_iconst (v := 1) hx hb d_M_pass_59 (by decide) ?_
            have hA1 := hS.1
            refine va_calli (va_runV (As := [.int (gI t 1016 r), .int (nI a1), .int (1)]) (rest := [.int (g)]) ⟨hx, hb, hml, hown, hts⟩ (c_M_isLive l D ad ka H.size (mSend t11 (nI a1) (gI t 1016 r) 0 p0) v hv (gI t 1016 r) hve a1 hlt1 (nI a1) rfl 1) (cwV 3 hts (gv mw_741 mw_743 (big_sel (i := 7) (by decide +kernel) (by decide +kernel)) mw_6 mw_744) rfl rfl rfl (by decide +kernel) ⟨Nat.le_of_ble_eq_true rfl, Nat.le_of_ble_eq_true rfl⟩) ⟨PM_blind, va_recv hK hP (ci := 0) (q0 := 0) rfl (at_M), fun U hU hW => ⟨rfl, PM_at hU hW hP hK hD⟩⟩ rfl rfl hl.1 rfl (lv_room (Nat.le_of_ble_eq_true rfl)) d_M_pass_60 ⟨Nat.le_of_ble_eq_true rfl, Nat.le_of_ble_eq_true rfl⟩) hS (fun q _ h => AM_up hA1 q h) (AM_up hA1) (fun r22 t24 tq H1 locs ht hvm hw23 hB hz1 hk1 hS => ?_)
            obtain ⟨hP, hD⟩ := BM_back ht hB (AM_up hA1)
            generalize H1 = H at hP hS ⊢
            obtain ⟨hwr, hwt⟩ := hw23
            rw [hwt] at hP hD
            rw [hwr]
            refine lv_ior hx hb d_M_pass_63 ?_
            refine lv_istore (lv' := [(4, .int (g ||| (mLive (mSend t11 (nI a1) (gI t 1016 r) 0 p0) (12 * v + a1) 1))), (0, .ref (ad (0))), (1, .int (p0)), (2, .int (gI t 1016 r)), (3, .int (0)), (5, .int (nI a1))]) hx hb d_M_pass_64 hl (by decide) rfl (fun ls hl => ?_)
            refine lv_iinc (v := nI (a1 + 1)) (lv' := [(5, .int (nI (a1 + 1))), (4, .int (g ||| (mLive (mSend t11 (nI a1) (gI t 1016 r) 0 p0) (12 * v + a1) 1))), (0, .ref (ad (0))), (1, .int (p0)), (2, .int (gI t 1016 r)), (3, .int (0))]) hx hb d_M_pass_66 hl (k := 5) rfl (nI_1 _) (by decide) rfl (fun ls hl => ?_)
            refine lv_goto (tgt := 15) hx hb d_M_pass_69 (by decide) ?_
            exact ih1 (a1 + 1) (g ||| (mLive (mSend t11 (nI a1) (gI t 1016 r) 0 p0) (12 * v + a1) 1)) (mSend t11 (nI a1) (gI t 1016 r) 0 p0) H _ ls (by omega) (by omega) (PSk_up (PSk_send ho1) (by omega)) (lp_next hlt1 hF1 (by simp [mPasF, mPasA, c1, c11, c15])) hP hD hS (lv_sub hl [2, 3, 4, 5, 1, 0] rfl)
  exact hloop1 (12 + 1) 0 0 t s.heap _ ls (by omega) (by omega) ⟨SM_up hm (by omega), fun _ _ _ => rfl⟩ rfl hP hD hS (lv_sub hl [4, 5, 3, 2, 1, 0] rfl)
