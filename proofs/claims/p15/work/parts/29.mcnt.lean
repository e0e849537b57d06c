theorem isWc : isW 0 10 49 = 0 ∧ isW 1 10 49 = 0 ∧ isW 2 10 49 = 0 ∧ isW 3 10 49 = 0 ∧ isW 4 10 49 = 0 := by decide
def mCU (w : Int32) : Nat := cl (w - w / 10 * 10)
def mCnA (t : Mem) (w : Int32) : Int32 := if w < 40 then 0 else mSum t (mCU w) (cl (gI t 1020 (mCU w)))
def mCnF (t : Mem) (w : Int32) (a : Nat) (n : Int32) : Int32 := if 20 ≤ w then (if gI t 1001 (12 * mCU w + a) = 1 then n + 1 else n) else (if gI t 1001 (12 * mCU w + a) = -1 then n else n + 1)
def mCnB (t : Mem) (w : Int32) : Int32 := if 30 ≤ w then mCnA t w else lp (mCnF t w) 12 0 0
def mCount (t : Mem) (w : Int32) : Int32 × Mem := if isW w 10 49 = 0 then (if w = 0 then (gI (pI t 0 0 0) 1 0, pI t 0 0 0) else if w = 1 then (gI (pI t 0 0 0) 3 0, pI t 0 0 0) else if w = 2 then (mCnt (pI t 0 0 0) 0, pI t 0 0 0) else if w = 3 then (mCnt (pI t 0 0 0) 1, pI t 0 0 0) else if w = 4 then (gI (pI t 0 0 0) 4 0, pI t 0 0 0) else (0, pI (pI t 0 0 0) 0 0 1)) else if w - w / 10 * 10 < 3 then (if isW w 30 39 = 0 then mCnB (pI t 0 0 0) w else gI (pI t 0 0 0) 1020 (mCU w), pI t 0 0 0) else (0, pI (pI t 0 0 0) 0 0 1)
set_option maxHeartbeats 4000000 in
set_option maxRecDepth 100000 in
theorem c_M_count (l : Launch) (D : va_G) (ad : Nat → Nat) (ka : Nat → ClassId) (sz : Nat) (t : Mem) (n0 : Nat) (hn0 : n0 ≤ 40) (hn : gI t 3 0 = nI n0) (hbl : ∀ u, u < 3 → ∃ b, b ≤ 40 ∧ gI t 1020 u = nI b) (w : Int32) : Met l y_M_count (Cond.code y_M_count b_M_count 5 (some .int) :: big) ({ frames := 1, cells := 0, slots := 0, locals := 23 }) (va_Pc [.ref (ad (0)), .int (w)] (PM D ad ka sz t)) (va_Qi (fun (r : Int32) (t' : Mem) => mCount t w = (r, t')) (BM D ad ka sz) (AM ad sz)) 0 0 (AM ad sz) := by
  refine Met.ofW (cc := b_M_count) (maxL := 5) (ret := (some .int)) (by decide) rfl ?_
  intro p e s m args below meth c s₁ B hml hv
  obtain ⟨rfl, hsz, hP, hK, hD0⟩ := hv
  have hx := B.exec
  have hb := B.bytes
  have hr := B.returns
  have hlocks := B.notSynchronized
  have hts := atoms_spec (ws := Cond.code y_M_count b_M_count 5 (some .int) :: big) B.pre
  have hown : s.vm.findClass "ListForgeModel" = some m.cls := findClass_of_methodNamed B.named
  subst hsz
  have hD : va_D (AM ad s.heap.size) (mw ad ka t) := AM_D hD0
  have hS : va_S (AM ad s.heap.size) s.heap s.heap [] := va_S.rf
  have hl := lv_entry ([.ref (ad (0)), .int (w)]) (n := 5) (Nat.le_of_ble_eq_true rfl)
  rw [lg_entry_eq]
  generalize (lg_sl ([.ref (ad (0)), .int (w)]) ++ List.replicate (5 - (lg_sl ([.ref (ad (0)), .int (w)])).length) Slot.unset).toArray = ls at hl ⊢
  have hl : lv_has ls 5 [(0, .ref (ad (0))), (1, .int (w))] := hl

  have hJ203 : ∀ (t203 : Mem) (f9 : Int32) (H : Heap) (locs : List Loc) (ls : Array Slot), t203 = pI t 0 0 0 ∧ (¬ isW w 10 49 = 0 ∧ w - w / 10 * 10 < 3) ∧ f9 = mCnB (pI t 0 0 0) w → va_P D clm (mw ad ka t203) H → va_D (AM ad s.heap.size) (mw ad ka t203) → va_S (AM ad s.heap.size) s.heap H locs → lv_has ls 5 [(0, .ref (ad (0))), (1, .int (w)), (2, .int (w - w / 10 * 10)), (3, .int (f9))] → W p l e ({ frames := 1, cells := 0, slots := 0, locals := 23 }) s m ([.ref (ad (0)), .int (w)] : List Value).toArray below meth c H locs 0 0 (MQ below (va_Qi (fun (r : Int32) (t' : Mem) => mCount t w = (r, t')) (BM D ad ka s.heap.size) (AM ad s.heap.size)) ([.ref (ad (0)), .int (w)] : List Value).toArray s 0 0 (AM ad s.heap.size)) (F0 m 203 ls []) := by
    intro t203 f9 H locs ls hC203 hP hD hS hl
    obtain ⟨u, hu, hwu⟩ := isW_r hC203.2.1.1 (fun q => absurd hC203.2.1.2 (Int32.not_lt.mpr q))
    have hcu : cl (w - w / 10 * 10) = u := cl_of hwu (by omega)
    obtain ⟨b, hb40, hbb⟩ := hbl u hu
    have hcb : cl (gI (pI t 0 0 0) 1020 u) = b := cl_of (by simpa [gI_pI] using hbb) (by omega)
    refine lv_iload_n hx hb d_M_count_203 rfl (lv_at hl 1 rfl) ?_
    refine lv_bipush (v := 30) hx hb d_M_count_204 (by decide) ?_
    refine lv_bipush (v := 39) hx hb d_M_count_206 (by decide) ?_
    have hA1 := hS.1
    refine va_calli (va_runS (As := [.int (w), .int (30), .int (39)]) (rest := []) ⟨hx, hb, hml, hown, hts⟩ (c_M_in l D ad ka H.size t203 w 30 39) (cwS 3 hts (gs mw_696 mw_697 mw_6 mw_698) rfl rfl rfl (by decide +kernel) ⟨Nat.le_of_ble_eq_true rfl, Nat.le_of_ble_eq_true rfl⟩) ⟨PM_blind, fun U hU hW => ⟨rfl, PM_at hU hW hP hK hD⟩⟩ rfl rfl hl.1 rfl (lv_room (Nat.le_of_ble_eq_true rfl)) d_M_count_208 ⟨Nat.le_of_ble_eq_true rfl, Nat.le_of_ble_eq_true rfl⟩) hS (fun q _ h => AM_up hA1 q h) (AM_up hA1) (fun r1 t3 tq H1 locs ht hvm hw2 hB hz1 hk1 hS => ?_)
    obtain ⟨hP, hD⟩ := BM_back ht hB (AM_up hA1)
    generalize H1 = H at hP hS ⊢
    obtain ⟨hwr, hwt⟩ := hw2
    rw [hwt] at hP hD
    rw [hwr]
    refine lv_if_eq (tgt := 223) hx hb d_M_count_211 (by decide) (fun c4 => ?_) (fun c4 => ?_)
    · have _u : True := trivial
      refine lv_iload_n hx hb d_M_count_223 rfl (lv_at hl 3 rfl) ?_
      exact W.iret (v := f9) hx hb hr (fun t9 ht hW => ⟨⟨f9, t203, rfl, (by rw [hC203.1]; unfold mCount; rw [if_neg hC203.2.1.1, if_pos hC203.2.1.2]; simp [mCU, hcu, c4, hC203.2.2]), BM_at ht hW hP hK hD⟩, hS.F ht⟩) hS.2.2 d_M_count_224
    · have _u : True := trivial
      refine lv_aload_n hx hb d_M_count_214 rfl (lv_at hl 0 rfl) ?_
      refine g_M_bundle hx hb hts hown hK hP mw_614 d_M_count_215 ?_
      refine lv_iload_n hx hb d_M_count_218 rfl (lv_at hl 2 rfl) ?_
      refine g_m_bundle hx hb hK hP (r := u) hu hwu d_M_count_219 ?_
      refine lv_goto (tgt := 224) hx hb d_M_count_220 (by decide) ?_
      exact W.iret (v := gI t203 1020 u) hx hb hr (fun t9 ht hW => ⟨⟨gI t203 1020 u, t203, rfl, (by rw [hC203.1]; unfold mCount; rw [if_neg hC203.2.1.1, if_pos hC203.2.1.2]; simp [mCU, hcu, c4, hC203.2.2]), BM_at ht hW hP hK hD⟩, hS.F ht⟩) hS.2.2 d_M_count_224
  have hJ137 : ∀ (t137 : Mem) (f8 : Int32) (H : Heap) (locs : List Loc) (ls : Array Slot), t137 = pI t 0 0 0 ∧ (¬ isW w 10 49 = 0 ∧ w - w / 10 * 10 < 3) ∧ f8 = mCnA (pI t 0 0 0) w → va_P D clm (mw ad ka t137) H → va_D (AM ad s.heap.size) (mw ad ka t137) → va_S (AM ad s.heap.size) s.heap H locs → lv_has ls 5 [(0, .ref (ad (0))), (1, .int (w)), (2, .int (w - w / 10 * 10)), (3, .int (f8))] → W p l e ({ frames := 1, cells := 0, slots := 0, locals := 23 }) s m ([.ref (ad (0)), .int (w)] : List Value).toArray below meth c H locs 0 0 (MQ below (va_Qi (fun (r : Int32) (t' : Mem) => mCount t w = (r, t')) (BM D ad ka s.heap.size) (AM ad s.heap.size)) ([.ref (ad (0)), .int (w)] : List Value).toArray s 0 0 (AM ad s.heap.size)) (F0 m 137 ls []) := by
    intro t137 f8 H locs ls hC137 hP hD hS hl
    obtain ⟨u, hu, hwu⟩ := isW_r hC137.2.1.1 (fun q => absurd hC137.2.1.2 (Int32.not_lt.mpr q))
    have hcu : cl (w - w / 10 * 10) = u := cl_of hwu (by omega)
    obtain ⟨b, hb40, hbb⟩ := hbl u hu
    have hcb : cl (gI (pI t 0 0 0) 1020 u) = b := cl_of (by simpa [gI_pI] using hbb) (by omega)
    refine lv_iload_n hx hb d_M_count_137 rfl (lv_at hl 1 rfl) ?_
    refine lv_bipush (v := 30) hx hb d_M_count_138 (by decide) ?_
    refine lv_icmp_ge (tgt := 203) hx hb d_M_count_140 (by decide) (fun c5 => ?_) (fun c5 => ?_)
    · have _u : True := trivial
      exact hJ203 t137 f8 _ _ ls ⟨hC137.1, hC137.2.1, (by rw [hC137.2.2, mCnB, if_pos c5])⟩ hP hD hS (lv_sub hl [0, 1, 2, 3] rfl)
    · have _u : True := trivial
      refine lv_iconst (v := 0) hx hb d_M_count_143 (by decide) ?_
      refine lv_istore (lv' := [(4, .int (0)), (0, .ref (ad (0))), (1, .int (w)), (2, .int (w - w / 10 * 10)), (3, .int (f8))]) hx hb d_M_count_144 hl (by decide) rfl (fun ls hl => ?_)
      have hloop1 : ∀ (n a1 : Nat) (f : Int32) (t11 : Mem) (H : Heap) (locs : List Loc) (ls : Array Slot), a1 ≤ 12 → 12 + 1 ≤ a1 + n → t11 = pI t 0 0 0 → lp (mCnF (pI t 0 0 0) w) (12 - a1) a1 f = lp (mCnF (pI t 0 0 0) w) 12 0 f8 → va_P D clm (mw ad ka t11) H → va_D (AM ad s.heap.size) (mw ad ka t11) → va_S (AM ad s.heap.size) s.heap H locs → lv_has ls 5 [(0, .ref (ad (0))), (1, .int (w)), (2, .int (w - w / 10 * 10)), (3, .int (f)), (4, .int (nI a1))] → W p l e ({ frames := 1, cells := 0, slots := 0, locals := 23 }) s m ([.ref (ad (0)), .int (w)] : List Value).toArray below meth c H locs 0 0 (MQ below (va_Qi (fun (r : Int32) (t' : Mem) => mCount t w = (r, t')) (BM D ad ka s.heap.size) (AM ad s.heap.size)) ([.ref (ad (0)), .int (w)] : List Value).toArray s 0 0 (AM ad s.heap.size)) (F0 m 146 ls []) := by
        intro n
        induction n with
        | zero => intro a1 f t11 H locs ls h1 h2; exact absurd h2 (by omega)
        | succ n ih1 =>
          intro a1 f t11 H locs ls ha1 hn1 ho1 hF1 hP hD hS hl
          refine lv_iload hx hb d_M_count_146 (lv_at hl 4 rfl) ?_
          refine lv_bipush (v := 12) hx hb d_M_count_148 (by decide) ?_
          refine lv_icmp_ge (tgt := 203) hx hb d_M_count_150 (by decide) (fun c6 => ?_) (fun c6 => ?_)
          · have _u : True := trivial
            obtain rfl := nI_eq_of (x := 12) (N := 12) (rfl) (by decide) ha1 c6
            have hE1 := lp_end hF1
            exact hJ203 t11 f _ _ ls ⟨ho1, hC137.2.1, (by rw [mCnB, if_neg c5]; exact hE1.trans (by rw [hC137.2.2, mCnA, if_pos (Int32.lt_trans (Int32.not_le.mp c5) (by decide))]))⟩ hP hD hS (lv_sub hl [0, 1, 2, 3] rfl)
          · have _u : True := trivial
            have hlt1 : a1 < 12 := nI_lt_of (x := 12) (N := 12) (rfl) ha1 c6
            refine lv_iload_n hx hb d_M_count_153 rfl (lv_at hl 1 rfl) ?_
            refine lv_bipush (v := 20) hx hb d_M_count_154 (by decide) ?_
            refine lv_icmp_ge (tgt := 178) hx hb d_M_count_156 (by decide) (fun c7 => ?_) (fun c7 => ?_)
            · have _u : True := trivial
              refine lv_aload_n hx hb d_M_count_178 rfl (lv_at hl 0 rfl) ?_
              refine g_M_state hx hb hts hown hK hP mw_595 d_M_count_179 ?_
              refine lv_bipush (v := 12) hx hb d_M_count_182 (by decide) ?_
              refine lv_iload_n hx hb d_M_count_184 rfl (lv_at hl 2 rfl) ?_
              refine lv_imul hx hb d_M_count_185 ?_
              refine lv_iload hx hb d_M_count_186 (lv_at hl 4 rfl) ?_
              refine lv_iadd hx hb d_M_count_188 ?_
              refine g_m_state hx hb hK hP (r := (12 * u + a1)) (by omega) (s_of hwu rfl) d_M_count_189 ?_
              refine lv_iconst (v := 1) hx hb d_M_count_190 (by decide) ?_
              refine lv_icmp_ne (tgt := 197) hx hb d_M_count_191 (by decide) (fun c8 => ?_) (fun c8 => ?_)
              · have _u : True := trivial
                refine lv_iinc (v := nI (a1 + 1)) (lv' := [(4, .int (nI (a1 + 1))), (0, .ref (ad (0))), (1, .int (w)), (2, .int (w - w / 10 * 10)), (3, .int (f))]) hx hb d_M_count_197 hl (k := 4) rfl (nI_1 _) (by decide) rfl (fun ls hl => ?_)
                refine lv_goto (tgt := 146) hx hb d_M_count_200 (by decide) ?_
                exact ih1 (a1 + 1) f t11 H _ ls (by omega) (by omega) ho1 (lp_next hlt1 hF1 (by rw [ho1] at c8; simp [mCnF, mCU, hcu, c7, c8])) hP hD hS (lv_sub hl [1, 2, 3, 4, 0] rfl)
              · have _u : True := trivial
                refine lv_iinc (v := f + 1) (lv' := [(3, .int (f + 1)), (0, .ref (ad (0))), (1, .int (w)), (2, .int (w - w / 10 * 10)), (4, .int (nI a1))]) hx hb d_M_count_194 hl (k := 3) rfl (rfl) (by decide) rfl (fun ls hl => ?_)
                refine lv_iinc (v := nI (a1 + 1)) (lv' := [(4, .int (nI (a1 + 1))), (3, .int (f + 1)), (0, .ref (ad (0))), (1, .int (w)), (2, .int (w - w / 10 * 10))]) hx hb d_M_count_197 hl (k := 4) rfl (nI_1 _) (by decide) rfl (fun ls hl => ?_)
                refine lv_goto (tgt := 146) hx hb d_M_count_200 (by decide) ?_
                exact ih1 (a1 + 1) (f + 1) t11 H _ ls (by omega) (by omega) ho1 (lp_next hlt1 hF1 (by rw [ho1] at c8; simp [mCnF, mCU, hcu, c7, c8])) hP hD hS (lv_sub hl [2, 3, 4, 1, 0] rfl)
            · have _u : True := trivial
              refine lv_aload_n hx hb d_M_count_159 rfl (lv_at hl 0 rfl) ?_
              refine g_M_state hx hb hts hown hK hP mw_595 d_M_count_160 ?_
              refine lv_bipush (v := 12) hx hb d_M_count_163 (by decide) ?_
              refine lv_iload_n hx hb d_M_count_165 rfl (lv_at hl 2 rfl) ?_
              refine lv_imul hx hb d_M_count_166 ?_
              refine lv_iload hx hb d_M_count_167 (lv_at hl 4 rfl) ?_
              refine lv_iadd hx hb d_M_count_169 ?_
              refine g_m_state hx hb hK hP (r := (12 * u + a1)) (by omega) (s_of hwu rfl) d_M_count_170 ?_
              refine lv_iconst (v := -1) hx hb d_M_count_171 (by decide) ?_
              refine lv_icmp_eq (tgt := 197) hx hb d_M_count_172 (by decide) (fun c9 => ?_) (fun c9 => ?_)
              · have _u : True := trivial
                refine lv_iinc (v := nI (a1 + 1)) (lv' := [(4, .int (nI (a1 + 1))), (0, .ref (ad (0))), (1, .int (w)), (2, .int (w - w / 10 * 10)), (3, .int (f))]) hx hb d_M_count_197 hl (k := 4) rfl (nI_1 _) (by decide) rfl (fun ls hl => ?_)
                refine lv_goto (tgt := 146) hx hb d_M_count_200 (by decide) ?_
                exact ih1 (a1 + 1) f t11 H _ ls (by omega) (by omega) ho1 (lp_next hlt1 hF1 (by rw [ho1] at c9; simp [mCnF, mCU, hcu, c7, c9])) hP hD hS (lv_sub hl [1, 2, 3, 4, 0] rfl)
              · have _u : True := trivial
                refine lv_goto (tgt := 194) hx hb d_M_count_175 (by decide) ?_
                refine lv_iinc (v := f + 1) (lv' := [(3, .int (f + 1)), (0, .ref (ad (0))), (1, .int (w)), (2, .int (w - w / 10 * 10)), (4, .int (nI a1))]) hx hb d_M_count_194 hl (k := 3) rfl (rfl) (by decide) rfl (fun ls hl => ?_)
                refine lv_iinc (v := nI (a1 + 1)) (lv' := [(4, .int (nI (a1 + 1))), (3, .int (f + 1)), (0, .ref (ad (0))), (1, .int (w)), (2, .int (w - w / 10 * 10))]) hx hb d_M_count_197 hl (k := 4) rfl (nI_1 _) (by decide) rfl (fun ls hl => ?_)
                refine lv_goto (tgt := 146) hx hb d_M_count_200 (by decide) ?_
                exact ih1 (a1 + 1) (f + 1) t11 H _ ls (by omega) (by omega) ho1 (lp_next hlt1 hF1 (by rw [ho1] at c9; simp [mCnF, mCU, hcu, c7, c9])) hP hD hS (lv_sub hl [2, 3, 4, 1, 0] rfl)
      exact hloop1 (12 + 1) 0 f8 t137 H _ ls (by omega) (by omega) hC137.1 rfl hP hD hS (lv_sub hl [1, 2, 3, 4, 0] rfl)
  refine lv_aload_n hx hb d_M_count_0 rfl (lv_at hl 0 rfl) ?_
  refine lv_iconst (v := 0) hx hb d_M_count_1 (by decide) ?_
  refine p_M_thrown hx hb hts hown hK hP hD hS mw_590 d_M_count_2 (fun H locs hP hD hS => ?_)
  refine lv_iload_n hx hb d_M_count_5 rfl (lv_at hl 1 rfl) ?_
  by_cases k10 : w = 0
  · have _u : True := trivial
    refine lv_tableIn (off := 34) (tgt := 40) hx hb d_M_count_6 (by rw [k10]; decide) (by rw [k10]; decide) (by rw [k10]; decide) (by decide) ?_
    refine lv_aload_n hx hb d_M_count_40 rfl (lv_at hl 0 rfl) ?_
    refine g_M_today hx hb hts hown hK hP mw_591 d_M_count_41 ?_
    exact W.iret (v := gI (pI t 0 0 0) 1 0) hx hb hr (fun t9 ht hW => ⟨⟨gI (pI t 0 0 0) 1 0, (pI t 0 0 0), rfl, (by unfold mCount; simp [isWc, k10]), BM_at ht hW hP hK hD⟩, hS.F ht⟩) hS.2.2 d_M_count_44
  by_cases k11 : w = 1
  · have _u : True := trivial
    refine lv_tableIn (off := 39) (tgt := 45) hx hb d_M_count_6 (by rw [k11]; decide) (by rw [k11]; decide) (by rw [k11]; decide) (by decide) ?_
    refine lv_aload_n hx hb d_M_count_45 rfl (lv_at hl 0 rfl) ?_
    refine g_M_posts hx hb hts hown hK hP mw_593 d_M_count_46 ?_
    exact W.iret (v := gI (pI t 0 0 0) 3 0) hx hb hr (fun t9 ht hW => ⟨⟨gI (pI t 0 0 0) 3 0, (pI t 0 0 0), rfl, (by unfold mCount; simp [isWc, k10, k11]), BM_at ht hW hP hK hD⟩, hS.F ht⟩) hS.2.2 d_M_count_49
  by_cases k12 : w = 2
  · have _u : True := trivial
    refine lv_tableIn (off := 44) (tgt := 50) hx hb d_M_count_6 (by rw [k12]; decide) (by rw [k12]; decide) (by rw [k12]; decide) (by decide) ?_
    refine lv_aload_n hx hb d_M_count_50 rfl (lv_at hl 0 rfl) ?_
    refine lv_iconst (v := 0) hx hb d_M_count_51 (by decide) ?_
    have hA1 := hS.1
    refine va_calli (va_runV (As := [.int (0)]) (rest := []) ⟨hx, hb, hml, hown, hts⟩ (c_M_waiting l D ad ka H.size (pI t 0 0 0) n0 hn0 (by simpa [gI_pI] using hn) 0) (cwV 1 hts (gv mw_753 mw_755 (big_sel (i := 9) (by decide +kernel) (by decide +kernel)) mw_6 mw_756) rfl rfl rfl (by decide +kernel) ⟨Nat.le_of_ble_eq_true rfl, Nat.le_of_ble_eq_true rfl⟩) ⟨PM_blind, va_recv hK hP (ci := 0) (q0 := 0) rfl (at_M), fun U hU hW => ⟨rfl, PM_at hU hW hP hK hD⟩⟩ rfl rfl hl.1 rfl (lv_room (Nat.le_of_ble_eq_true rfl)) d_M_count_52 ⟨Nat.le_of_ble_eq_true rfl, Nat.le_of_ble_eq_true rfl⟩) hS (fun q _ h => AM_up hA1 q h) (AM_up hA1) (fun r13 t15 tq H1 locs ht hvm hw14 hB hz1 hk1 hS => ?_)
    obtain ⟨hP, hD⟩ := BM_back ht hB (AM_up hA1)
    generalize H1 = H at hP hS ⊢
    obtain ⟨hwr, hwt⟩ := hw14
    rw [hwt] at hP hD
    rw [hwr]
    exact W.iret (v := mCnt (pI t 0 0 0) 0) hx hb hr (fun t9 ht hW => ⟨⟨mCnt (pI t 0 0 0) 0, (pI t 0 0 0), rfl, (by unfold mCount; simp [isWc, k10, k11, k12]), BM_at ht hW hP hK hD⟩, hS.F ht⟩) hS.2.2 d_M_count_55
  by_cases k16 : w = 3
  · have _u : True := trivial
    refine lv_tableIn (off := 50) (tgt := 56) hx hb d_M_count_6 (by rw [k16]; decide) (by rw [k16]; decide) (by rw [k16]; decide) (by decide) ?_
    refine lv_aload_n hx hb d_M_count_56 rfl (lv_at hl 0 rfl) ?_
    refine lv_iconst (v := 1) hx hb d_M_count_57 (by decide) ?_
    have hA1 := hS.1
    refine va_calli (va_runV (As := [.int (1)]) (rest := []) ⟨hx, hb, hml, hown, hts⟩ (c_M_waiting l D ad ka H.size (pI t 0 0 0) n0 hn0 (by simpa [gI_pI] using hn) 1) (cwV 1 hts (gv mw_753 mw_755 (big_sel (i := 9) (by decide +kernel) (by decide +kernel)) mw_6 mw_756) rfl rfl rfl (by decide +kernel) ⟨Nat.le_of_ble_eq_true rfl, Nat.le_of_ble_eq_true rfl⟩) ⟨PM_blind, va_recv hK hP (ci := 0) (q0 := 0) rfl (at_M), fun U hU hW => ⟨rfl, PM_at hU hW hP hK hD⟩⟩ rfl rfl hl.1 rfl (lv_room (Nat.le_of_ble_eq_true rfl)) d_M_count_58 ⟨Nat.le_of_ble_eq_true rfl, Nat.le_of_ble_eq_true rfl⟩) hS (fun q _ h => AM_up hA1 q h) (AM_up hA1) (fun r17 t19 tq H1 locs ht hvm hw18 hB hz1 hk1 hS => ?_)
    obtain ⟨hP, hD⟩ := BM_back ht hB (AM_up hA1)
    generalize H1 = H at hP hS ⊢
    obtain ⟨hwr, hwt⟩ := hw18
    rw [hwt] at hP hD
    rw [hwr]
    exact W.iret (v := mCnt (pI t 0 0 0) 1) hx hb hr (fun t9 ht hW => ⟨⟨mCnt (pI t 0 0 0) 1, (pI t 0 0 0), rfl, (by unfold mCount; simp [isWc, k10, k11, k12, k16]), BM_at ht hW hP hK hD⟩, hS.F ht⟩) hS.2.2 d_M_count_61
  by_cases k20 : w = 4
  · have _u : True := trivial
    refine lv_tableIn (off := 56) (tgt := 62) hx hb d_M_count_6 (by rw [k20]; decide) (by rw [k20]; decide) (by rw [k20]; decide) (by decide) ?_
    refine lv_aload_n hx hb d_M_count_62 rfl (lv_at hl 0 rfl) ?_
    refine g_M_sentMany hx hb hts hown hK hP mw_594 d_M_count_63 ?_
    exact W.iret (v := gI (pI t 0 0 0) 4 0) hx hb hr (fun t9 ht hW => ⟨⟨gI (pI t 0 0 0) 4 0, (pI t 0 0 0), rfl, (by unfold mCount; simp [isWc, k10, k11, k12, k16, k20]), BM_at ht hW hP hK hD⟩, hS.F ht⟩) hS.2.2 d_M_count_66
  refine lv_tableOut (tgt := 67) hx hb d_M_count_6 (by have ek10 := lv_neT (a := 0) k10 rfl; have ek11 := lv_neT (a := 1) k11 rfl; have ek12 := lv_neT (a := 2) k12 rfl; have ek16 := lv_neT (a := 3) k16 rfl; have ek20 := lv_neT (a := 4) k20 rfl; omega) (by decide) ?_
  refine lv_iload_n hx hb d_M_count_67 rfl (lv_at hl 1 rfl) ?_
  refine lv_bipush (v := 10) hx hb d_M_count_68 (by decide) ?_
  refine lv_irem hx hb d_M_count_70 (by decide) ?_
  refine lv_istore_n (lv' := [(2, .int (w - w / 10 * 10)), (0, .ref (ad (0))), (1, .int (w))]) hx hb d_M_count_71 rfl hl (by decide) rfl (fun ls hl => ?_)
  refine lv_iconst (v := 0) hx hb d_M_count_72 (by decide) ?_
  refine lv_istore_n (lv' := [(3, .int (0)), (2, .int (w - w / 10 * 10)), (0, .ref (ad (0))), (1, .int (w))]) hx hb d_M_count_73 rfl hl (by decide) rfl (fun ls hl => ?_)
  refine lv_iload_n hx hb d_M_count_74 rfl (lv_at hl 3 rfl) ?_
  refine lv_bipush (v := 10) hx hb d_M_count_75 (by decide) ?_
  refine lv_bipush (v := 49) hx hb d_M_count_77 (by decide) ?_
  have hA1 := hS.1
  refine va_calli (va_runS (As := [.int (w), .int (10), .int (49)]) (rest := []) ⟨hx, hb, hml, hown, hts⟩ (c_M_in l D ad ka H.size (pI t 0 0 0) w 10 49) (cwS 3 hts (gs mw_696 mw_697 mw_6 mw_698) rfl rfl rfl (by decide +kernel) ⟨Nat.le_of_ble_eq_true rfl, Nat.le_of_ble_eq_true rfl⟩) ⟨PM_blind, fun U hU hW => ⟨rfl, PM_at hU hW hP hK hD⟩⟩ rfl rfl hl.1 rfl (lv_room (Nat.le_of_ble_eq_true rfl)) d_M_count_79 ⟨Nat.le_of_ble_eq_true rfl, Nat.le_of_ble_eq_true rfl⟩) hS (fun q _ h => AM_up hA1 q h) (AM_up hA1) (fun r21 t23 tq H1 locs ht hvm hw22 hB hz1 hk1 hS => ?_)
  obtain ⟨hP, hD⟩ := BM_back ht hB (AM_up hA1)
  generalize H1 = H at hP hS ⊢
  obtain ⟨hwr, hwt⟩ := hw22
  rw [hwt] at hP hD
  rw [hwr]
  refine lv_if_eq (tgt := 90) hx hb d_M_count_82 (by decide) (fun c24 => ?_) (fun c24 => ?_)
  · have _u : True := trivial
    refine lv_aload_n hx hb d_M_count_90 rfl (lv_at hl 2 rfl) ?_
    refine lv_iconst (v := 1) hx hb d_M_count_91 (by decide) ?_
    have hA1 := hS.1
    refine va_calli (va_runV (As := [.int (1)]) (rest := []) ⟨hx, hb, hml, hown, hts⟩ (c_M_refuse l D ad ka H.size (pI t 0 0 0) 1) (cwV 1 hts (gv mw_699 mw_701 (big_sel (i := 4) (by decide +kernel) (by decide +kernel)) mw_6 mw_702) rfl rfl rfl (by decide +kernel) ⟨Nat.le_of_ble_eq_true rfl, Nat.le_of_ble_eq_true rfl⟩) ⟨PM_blind, va_recv hK hP (ci := 0) (q0 := 0) rfl (at_M), fun U hU hW => ⟨rfl, PM_at hU hW hP hK hD⟩⟩ rfl rfl hl.1 rfl (lv_room (Nat.le_of_ble_eq_true rfl)) d_M_count_92 ⟨Nat.le_of_ble_eq_true rfl, Nat.le_of_ble_eq_true rfl⟩) hS (fun q _ h => AM_up hA1 q h) (AM_up hA1) (fun r25 t27 tq H1 locs ht hvm hw26 hB hz1 hk1 hS => ?_)
    obtain ⟨hP, hD⟩ := BM_back ht hB (AM_up hA1)
    generalize H1 = H at hP hS ⊢
    obtain ⟨hwr, hwt⟩ := hw26
    rw [hwt] at hP hD
    rw [hwr]
    exact W.iret (v := 0) hx hb hr (fun t9 ht hW => ⟨⟨0, (pI (pI t 0 0 0) 0 0 1), rfl, (by unfold mCount; simp [isWc, k10, k11, k12, k16, k20, c24]), BM_at ht hW hP hK hD⟩, hS.F ht⟩) hS.2.2 d_M_count_95
  · have _u : True := trivial
    refine lv_iload_n hx hb d_M_count_85 rfl (lv_at hl 1 rfl) ?_
    refine lv_iconst (v := 3) hx hb d_M_count_86 (by decide) ?_
    refine lv_icmp_lt (tgt := 96) hx hb d_M_count_87 (by decide) (fun c28 => ?_) (fun c28 => ?_)
    · have _u : True := trivial
      have hq : (¬ isW w 10 49 = 0 ∧ w - w / 10 * 10 < 3) := ⟨c24, c28⟩
      obtain ⟨u, hu, hwu⟩ := isW_r hq.1 (fun q => absurd hq.2 (Int32.not_lt.mpr q))
      have hcu : cl (w - w / 10 * 10) = u := cl_of hwu (by omega)
      obtain ⟨b, hb40, hbb⟩ := hbl u hu
      have hcb : cl (gI (pI t 0 0 0) 1020 u) = b := cl_of (by simpa [gI_pI] using hbb) (by omega)
      refine lv_iload_n hx hb d_M_count_96 rfl (lv_at hl 3 rfl) ?_
      refine lv_bipush (v := 40) hx hb d_M_count_97 (by decide) ?_
      refine lv_icmp_lt (tgt := 137) hx hb d_M_count_99 (by decide) (fun c29 => ?_) (fun c29 => ?_)
      · have _u : True := trivial
        exact hJ137 (pI t 0 0 0) 0 _ _ ls ⟨rfl, hq, (by rw [mCnA, if_pos c29])⟩ hP hD hS (lv_sub hl [2, 3, 1, 0] rfl)
      · have _u : True := trivial
        refine lv_iconst (v := 0) hx hb d_M_count_102 (by decide) ?_
        refine lv_istore (lv' := [(4, .int (0)), (3, .int (0)), (2, .int (w - w / 10 * 10)), (0, .ref (ad (0))), (1, .int (w))]) hx hb d_M_count_103 hl (by decide) rfl (fun ls hl => ?_)
        have hloop2 : ∀ (n a2 : Nat) (f : Int32) (t12 : Mem) (H : Heap) (locs : List Loc) (ls : Array Slot), a2 ≤ b → b + 1 ≤ a2 + n → t12 = pI t 0 0 0 → lp (fun k s => s + gI (pI t 0 0 0) 1021 (40 * u + k)) (b - a2) a2 f = lp (fun k s => s + gI (pI t 0 0 0) 1021 (40 * u + k)) b 0 0 → va_P D clm (mw ad ka t12) H → va_D (AM ad s.heap.size) (mw ad ka t12) → va_S (AM ad s.heap.size) s.heap H locs → lv_has ls 5 [(0, .ref (ad (0))), (1, .int (w)), (2, .int (w - w / 10 * 10)), (3, .int (f)), (4, .int (nI a2))] → W p l e ({ frames := 1, cells := 0, slots := 0, locals := 23 }) s m ([.ref (ad (0)), .int (w)] : List Value).toArray below meth c H locs 0 0 (MQ below (va_Qi (fun (r : Int32) (t' : Mem) => mCount t w = (r, t')) (BM D ad ka s.heap.size) (AM ad s.heap.size)) ([.ref (ad (0)), .int (w)] : List Value).toArray s 0 0 (AM ad s.heap.size)) (F0 m 105 ls []) := by
          intro n
          induction n with
          | zero => intro a2 f t12 H locs ls h1 h2; exact absurd h2 (by omega)
          | succ n ih2 =>
            intro a2 f t12 H locs ls ha2 hn2 ho2 hF2 hP hD hS hl
            refine lv_iload hx hb d_M_count_105 (lv_at hl 4 rfl) ?_
            refine lv_aload_n hx hb d_M_count_107 rfl (lv_at hl 0 rfl) ?_
            refine g_M_bundle hx hb hts hown hK hP mw_614 d_M_count_108 ?_
            refine lv_iload_n hx hb d_M_count_111 rfl (lv_at hl 2 rfl) ?_
            refine g_m_bundle hx hb hK hP (r := u) hu hwu d_M_count_112 ?_
            refine lv_icmp_ge (tgt := 137) hx hb d_M_count_113 (by decide) (fun c30 => ?_) (fun c30 => ?_)
            · have _u : True := trivial
              obtain rfl := nI_eq_of (x := gI t12 1020 u) (N := b) (by rw [ho2]; simpa [gI_pI] using hbb) (by omega) ha2 c30
              have hE2 := lp_end hF2
              exact hJ137 t12 f _ _ ls ⟨ho2, hq, (by rw [mCnA, if_neg c29, mCU, hcu, hcb]; exact hE2)⟩ hP hD hS (lv_sub hl [0, 1, 2, 3] rfl)
            · have _u : True := trivial
              have hlt2 : a2 < b := nI_lt_of (x := gI t12 1020 u) (N := b) (by rw [ho2]; simpa [gI_pI] using hbb) ha2 c30
              refine lv_iload_n hx hb d_M_count_116 rfl (lv_at hl 3 rfl) ?_
              refine lv_aload_n hx hb d_M_count_117 rfl (lv_at hl 0 rfl) ?_
              refine g_M_bSize hx hb hts hown hK hP mw_615 d_M_count_118 ?_
              refine lv_bipush (v := 40) hx hb d_M_count_121 (by decide) ?_
              refine lv_iload_n hx hb d_M_count_123 rfl (lv_at hl 2 rfl) ?_
              refine lv_imul hx hb d_M_count_124 ?_
              refine lv_iload hx hb d_M_count_125 (lv_at hl 4 rfl) ?_
              refine lv_iadd hx hb d_M_count_127 ?_
              refine g_m_bSize hx hb hK hP (r := (40 * u + a2)) (by omega) (f_of hwu rfl) d_M_count_128 ?_
              refine lv_iadd hx hb d_M_count_129 ?_
              refine lv_istore_n (lv' := [(3, .int (f + (gI t12 1021 (40 * u + a2)))), (0, .ref (ad (0))), (1, .int (w)), (2, .int (w - w / 10 * 10)), (4, .int (nI a2))]) hx hb d_M_count_130 rfl hl (by decide) rfl (fun ls hl => ?_)
              refine lv_iinc (v := nI (a2 + 1)) (lv' := [(4, .int (nI (a2 + 1))), (3, .int (f + (gI t12 1021 (40 * u + a2)))), (0, .ref (ad (0))), (1, .int (w)), (2, .int (w - w / 10 * 10))]) hx hb d_M_count_131 hl (k := 4) rfl (nI_1 _) (by decide) rfl (fun ls hl => ?_)
              refine lv_goto (tgt := 105) hx hb d_M_count_134 (by decide) ?_
              exact ih2 (a2 + 1) (f + (gI t12 1021 (40 * u + a2))) t12 H _ ls (by omega) (by omega) ho2 (lp_next hlt2 hF2 (by rw [ho2])) hP hD hS (lv_sub hl [2, 3, 4, 1, 0] rfl)
        exact hloop2 (b + 1) 0 0 (pI t 0 0 0) H _ ls (by omega) (by omega) rfl rfl hP hD hS (lv_sub hl [3, 4, 2, 1, 0] rfl)
    · have _u : True := trivial
      refine lv_aload_n hx hb d_M_count_90 rfl (lv_at hl 2 rfl) ?_
      refine lv_iconst (v := 1) hx hb d_M_count_91 (by decide) ?_
      have hA1 := hS.1
      refine va_calli (va_runV (As := [.int (1)]) (rest := []) ⟨hx, hb, hml, hown, hts⟩ (c_M_refuse l D ad ka H.size (pI t 0 0 0) 1) (cwV 1 hts (gv mw_699 mw_701 (big_sel (i := 4) (by decide +kernel) (by decide +kernel)) mw_6 mw_702) rfl rfl rfl (by decide +kernel) ⟨Nat.le_of_ble_eq_true rfl, Nat.le_of_ble_eq_true rfl⟩) ⟨PM_blind, va_recv hK hP (ci := 0) (q0 := 0) rfl (at_M), fun U hU hW => ⟨rfl, PM_at hU hW hP hK hD⟩⟩ rfl rfl hl.1 rfl (lv_room (Nat.le_of_ble_eq_true rfl)) d_M_count_92 ⟨Nat.le_of_ble_eq_true rfl, Nat.le_of_ble_eq_true rfl⟩) hS (fun q _ h => AM_up hA1 q h) (AM_up hA1) (fun r31 t33 tq H1 locs ht hvm hw32 hB hz1 hk1 hS => ?_)
      obtain ⟨hP, hD⟩ := BM_back ht hB (AM_up hA1)
      generalize H1 = H at hP hS ⊢
      obtain ⟨hwr, hwt⟩ := hw32
      rw [hwt] at hP hD
      rw [hwr]
      exact W.iret (v := 0) hx hb hr (fun t9 ht hW => ⟨⟨0, (pI (pI t 0 0 0) 0 0 1), rfl, (by unfold mCount; simp [isWc, k10, k11, k12, k16, k20, c24, c28]), BM_at ht hW hP hK hD⟩, hS.F ht⟩) hS.2.2 d_M_count_95
