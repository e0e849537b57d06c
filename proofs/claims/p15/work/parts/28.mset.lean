theorem isW5 : ¬ isW 4 0 4 = 0 := by decide
def mSetBad (x w : Int32) (v : UInt64) : Int32 := if isW x 0 2 = 0 then 1 else if isW w 0 4 = 0 ∧ isW w 10 19 = 0 then 1 else if (w = 2 ∨ w = 3) ∧ isW (FP.d2i v) 1 1000 = 0 then 1 else if w = 4 ∧ bstD v = 0 then 1 else 0
theorem mSetBad_x {x w : Int32} {v : UInt64} (h : mSetBad x w v = 0) : ¬ isW x 0 2 = 0 := by
  intro q
  unfold mSetBad at h
  rw [if_pos q] at h
  exact absurd h (by decide)
theorem mSetBad_w {x w : Int32} {v : UInt64} (h : mSetBad x w v = 0) (k0 : ¬ w = 0) (k1 : ¬ w = 1) (k2 : ¬ w = 2) (k3 : ¬ w = 3) (k4 : ¬ w = 4) : ¬ isW w 10 19 = 0 := by
  intro q
  have h4 : isW w 0 4 = 0 := by
    apply Decidable.byContradiction
    intro z
    obtain ⟨j, hj, e⟩ := isW_n (n := 4) (by decide) z
    rcases (show j = 0 ∨ j = 1 ∨ j = 2 ∨ j = 3 ∨ j = 4 by omega) with rfl | rfl | rfl | rfl | rfl
    · exact k0 e
    · exact k1 e
    · exact k2 e
    · exact k3 e
    · exact k4 e
  unfold mSetBad at h
  rw [if_neg (mSetBad_x h), if_pos ⟨h4, q⟩] at h
  exact absurd h (by decide)
theorem t_of {x w : Int32} {u q : Nat} (h1 : x = nI u) (h2 : w - 10 = nI q) : 10 * x + w - 10 = nI (10 * u + q) := by
  rw [show 10 * x + w - 10 = 10 * x + (w - 10) by rw [Int32.sub_eq_add_neg, Int32.sub_eq_add_neg, Int32.add_assoc], h2, h1, show (10 : Int32) = nI 10 from rfl, pk_mul, nI_add]
def mSet (t : Mem) (x w : Int32) (v : UInt64) : UInt64 × Mem := if mSetBad x w v = 0 then (if w = 0 then (bd (gI t 1010 (cl x)), pI (pI t 0 0 0) 1010 (cl x) (nzD v)) else if w = 1 then (bd (gI t 1011 (cl x)), pI (pI t 0 0 0) 1011 (cl x) (nzD v)) else if w = 2 then (FP.i2d (gI t 1013 (cl x)), pI (pI t 0 0 0) 1013 (cl x) (FP.d2i v)) else if w = 3 then (FP.i2d (gI t 1014 (cl x)), pI (pI t 0 0 0) 1014 (cl x) (FP.d2i v)) else if w = 4 then (gD t 1015 (cl x), pD (pI t 0 0 0) 1015 (cl x) v) else (bd (gI t 1012 (10 * cl x + cl (w - 10))), pI (pI t 0 0 0) 1012 (10 * cl x + cl (w - 10)) (nzD v))) else (FP.i2d 0, pI t 0 0 1)
set_option maxHeartbeats 4000000 in
set_option maxRecDepth 100000 in
theorem c_M_setting (l : Launch) (D : va_G) (ad : Nat → Nat) (ka : Nat → ClassId) (sz : Nat) (t : Mem) (x w : Int32) (v : UInt64) : Met l y_M_setting (Cond.code y_M_setting b_M_setting 9 (some .double) :: big) ({ frames := 1, cells := 0, slots := 0, locals := 22 }) (va_Pc [.ref (ad (0)), .int (x), .int (w), .double (v)] (PM D ad ka sz t)) (va_Qd (fun (r : UInt64) (t' : Mem) => mSet t x w v = (r, t')) (BM D ad ka sz) (AM ad sz)) 0 0 (AM ad sz) := by
  refine Met.ofW (cc := b_M_setting) (maxL := 9) (ret := (some .double)) (by decide) rfl ?_
  intro p e s m args below meth c s₁ B hml hv
  obtain ⟨rfl, hsz, hP, hK, hD0⟩ := hv
  have hx := B.exec
  have hb := B.bytes
  have hr := B.returns
  have hlocks := B.notSynchronized
  have hts := atoms_spec (ws := Cond.code y_M_setting b_M_setting 9 (some .double) :: big) B.pre
  have hown : s.vm.findClass "ListForgeModel" = some m.cls := findClass_of_methodNamed B.named
  subst hsz
  have hD : va_D (AM ad s.heap.size) (mw ad ka t) := AM_D hD0
  have hS : va_S (AM ad s.heap.size) s.heap s.heap [] := va_S.rf
  have hl := lv_entry ([.ref (ad (0)), .int (x), .int (w), .double (v)]) (n := 9) (Nat.le_of_ble_eq_true rfl)
  rw [lg_entry_eq]
  generalize (lg_sl ([.ref (ad (0)), .int (x), .int (w), .double (v)]) ++ List.replicate (9 - (lg_sl ([.ref (ad (0)), .int (x), .int (w), .double (v)])).length) Slot.unset).toArray = ls at hl ⊢
  have hl : lv_has ls 9 [(0, .ref (ad (0))), (1, .int (x)), (2, .int (w)), (3, .double (v))] := hl

  have hJ111 : ∀ (t111 : Mem) (b8 : Int32) (H : Heap) (locs : List Loc) (ls : Array Slot), t111 = pI t 0 0 0 ∧ b8 = nzD v ∧ mSetBad x w v = 0 → va_P D clm (mw ad ka t111) H → va_D (AM ad s.heap.size) (mw ad ka t111) → va_S (AM ad s.heap.size) s.heap H locs → lv_has ls 9 [(0, .ref (ad (0))), (1, .int (x)), (2, .int (w)), (3, .double (v)), (5, .int (FP.d2i v)), (6, .double (FP.dconst0)), (8, .int (b8))] → W p l e ({ frames := 1, cells := 0, slots := 0, locals := 22 }) s m ([.ref (ad (0)), .int (x), .int (w), .double (v)] : List Value).toArray below meth c H locs 0 0 (MQ below (va_Qd (fun (r : UInt64) (t' : Mem) => mSet t x w v = (r, t')) (BM D ad ka s.heap.size) (AM ad s.heap.size)) ([.ref (ad (0)), .int (x), .int (w), .double (v)] : List Value).toArray s 0 0 (AM ad s.heap.size)) (F0 m 111 ls []) := by
    intro t111 b8 H locs ls hC111 hP hD hS hl
    obtain ⟨u, hu, hxu⟩ := isW_n (n := 2) (by decide) (mSetBad_x hC111.2.2)
    have hcx : cl x = u := cl_of hxu (by omega)
    have hb8 : b01 b8 := by rw [hC111.2.1]; unfold nzD; split; exact b01_0; exact b01_1
    refine lv_iload_n hx hb d_M_setting_111 rfl (lv_at hl 2 rfl) ?_
    by_cases k1 : w = 0
    · have _u : True := trivial
      refine lv_tableIn (off := 36) (tgt := 148) hx hb d_M_setting_112 (by rw [k1]; decide) (by rw [k1]; decide) (by rw [k1]; decide) (by decide) ?_
      refine lv_aload_n hx hb d_M_setting_148 rfl (lv_at hl 0 rfl) ?_
      refine g_M_open hx hb hts hown hK hP mw_604 d_M_setting_149 ?_
      refine lv_iload_n hx hb d_M_setting_152 rfl (lv_at hl 1 rfl) ?_
      refine g_m_open hx hb hK hP (r := u) hu hxu d_M_setting_153 ?_
      refine lv_if_eq (tgt := 161) hx hb d_M_setting_154 (by decide) (fun c2 => ?_) (fun c2 => ?_)
      · have _u : True := trivial
        refine lv_dconst0 hx hb d_M_setting_161 ?_
        refine lv_dstore (lv' := [(6, .double (FP.dconst0)), (0, .ref (ad (0))), (1, .int (x)), (2, .int (w)), (3, .double (v)), (5, .int (FP.d2i v)), (8, .int (b8))]) hx hb d_M_setting_162 hl (by decide) rfl (fun ls hl => ?_)
        refine lv_aload_n hx hb d_M_setting_164 rfl (lv_at hl 1 rfl) ?_
        refine g_M_open hx hb hts hown hK hP mw_604 d_M_setting_165 ?_
        refine lv_iload_n hx hb d_M_setting_168 rfl (lv_at hl 2 rfl) ?_
        refine lv_iload hx hb d_M_setting_169 (lv_at hl 6 rfl) ?_
        refine p_m_open hx hb hK hP hD hS (r := u) hu hxu (hb8) d_M_setting_171 (fun H locs hP hD hS => ?_)
        refine lv_goto (tgt := 300) hx hb d_M_setting_172 (by decide) ?_
        refine lv_dload hx hb d_M_setting_300 (lv_at hl 0 rfl) ?_
        exact W.dret (v := FP.dconst0) hx hb hr (fun t9 ht hW => ⟨⟨FP.dconst0, (pI t111 1010 u b8), rfl, (by (try rw [hC111.1] at c2); (try simp [gI_pI] at c2); rw [hC111.1, hC111.2.1]; unfold mSet; rw [if_pos hC111.2.2]; simp [hcx, bd, gI_pI, gD_pI, k1, c2]), BM_at ht hW hP hK hD⟩, hS.F ht⟩) hS.2.2 d_M_setting_302
      · have _u : True := trivial
        refine lv_dconst1 hx hb d_M_setting_157 ?_
        refine lv_goto (tgt := 162) hx hb d_M_setting_158 (by decide) ?_
        refine lv_dstore (lv' := [(6, .double (FP.dconst1)), (0, .ref (ad (0))), (1, .int (x)), (2, .int (w)), (3, .double (v)), (5, .int (FP.d2i v)), (8, .int (b8))]) hx hb d_M_setting_162 hl (by decide) rfl (fun ls hl => ?_)
        refine lv_aload_n hx hb d_M_setting_164 rfl (lv_at hl 1 rfl) ?_
        refine g_M_open hx hb hts hown hK hP mw_604 d_M_setting_165 ?_
        refine lv_iload_n hx hb d_M_setting_168 rfl (lv_at hl 2 rfl) ?_
        refine lv_iload hx hb d_M_setting_169 (lv_at hl 6 rfl) ?_
        refine p_m_open hx hb hK hP hD hS (r := u) hu hxu (hb8) d_M_setting_171 (fun H locs hP hD hS => ?_)
        refine lv_goto (tgt := 300) hx hb d_M_setting_172 (by decide) ?_
        refine lv_dload hx hb d_M_setting_300 (lv_at hl 0 rfl) ?_
        exact W.dret (v := FP.dconst1) hx hb hr (fun t9 ht hW => ⟨⟨FP.dconst1, (pI t111 1010 u b8), rfl, (by (try rw [hC111.1] at c2); (try simp [gI_pI] at c2); rw [hC111.1, hC111.2.1]; unfold mSet; rw [if_pos hC111.2.2]; simp [hcx, bd, gI_pI, gD_pI, k1, c2]), BM_at ht hW hP hK hD⟩, hS.F ht⟩) hS.2.2 d_M_setting_302
    by_cases k3 : w = 1
    · have _u : True := trivial
      refine lv_tableIn (off := 63) (tgt := 175) hx hb d_M_setting_112 (by rw [k3]; decide) (by rw [k3]; decide) (by rw [k3]; decide) (by decide) ?_
      refine lv_aload_n hx hb d_M_setting_175 rfl (lv_at hl 0 rfl) ?_
      refine g_M_watched hx hb hts hown hK hP mw_605 d_M_setting_176 ?_
      refine lv_iload_n hx hb d_M_setting_179 rfl (lv_at hl 1 rfl) ?_
      refine g_m_watched hx hb hK hP (r := u) hu hxu d_M_setting_180 ?_
      refine lv_if_eq (tgt := 188) hx hb d_M_setting_181 (by decide) (fun c4 => ?_) (fun c4 => ?_)
      · have _u : True := trivial
        refine lv_dconst0 hx hb d_M_setting_188 ?_
        refine lv_dstore (lv' := [(6, .double (FP.dconst0)), (0, .ref (ad (0))), (1, .int (x)), (2, .int (w)), (3, .double (v)), (5, .int (FP.d2i v)), (8, .int (b8))]) hx hb d_M_setting_189 hl (by decide) rfl (fun ls hl => ?_)
        refine lv_aload_n hx hb d_M_setting_191 rfl (lv_at hl 1 rfl) ?_
        refine g_M_watched hx hb hts hown hK hP mw_605 d_M_setting_192 ?_
        refine lv_iload_n hx hb d_M_setting_195 rfl (lv_at hl 2 rfl) ?_
        refine lv_iload hx hb d_M_setting_196 (lv_at hl 6 rfl) ?_
        refine p_m_watched hx hb hK hP hD hS (r := u) hu hxu (hb8) d_M_setting_198 (fun H locs hP hD hS => ?_)
        refine lv_goto (tgt := 300) hx hb d_M_setting_199 (by decide) ?_
        refine lv_dload hx hb d_M_setting_300 (lv_at hl 0 rfl) ?_
        exact W.dret (v := FP.dconst0) hx hb hr (fun t9 ht hW => ⟨⟨FP.dconst0, (pI t111 1011 u b8), rfl, (by (try rw [hC111.1] at c4); (try simp [gI_pI] at c4); rw [hC111.1, hC111.2.1]; unfold mSet; rw [if_pos hC111.2.2]; simp [hcx, bd, gI_pI, gD_pI, k1, k3, c4]), BM_at ht hW hP hK hD⟩, hS.F ht⟩) hS.2.2 d_M_setting_302
      · have _u : True := trivial
        refine lv_dconst1 hx hb d_M_setting_184 ?_
        refine lv_goto (tgt := 189) hx hb d_M_setting_185 (by decide) ?_
        refine lv_dstore (lv' := [(6, .double (FP.dconst1)), (0, .ref (ad (0))), (1, .int (x)), (2, .int (w)), (3, .double (v)), (5, .int (FP.d2i v)), (8, .int (b8))]) hx hb d_M_setting_189 hl (by decide) rfl (fun ls hl => ?_)
        refine lv_aload_n hx hb d_M_setting_191 rfl (lv_at hl 1 rfl) ?_
        refine g_M_watched hx hb hts hown hK hP mw_605 d_M_setting_192 ?_
        refine lv_iload_n hx hb d_M_setting_195 rfl (lv_at hl 2 rfl) ?_
        refine lv_iload hx hb d_M_setting_196 (lv_at hl 6 rfl) ?_
        refine p_m_watched hx hb hK hP hD hS (r := u) hu hxu (hb8) d_M_setting_198 (fun H locs hP hD hS => ?_)
        refine lv_goto (tgt := 300) hx hb d_M_setting_199 (by decide) ?_
        refine lv_dload hx hb d_M_setting_300 (lv_at hl 0 rfl) ?_
        exact W.dret (v := FP.dconst1) hx hb hr (fun t9 ht hW => ⟨⟨FP.dconst1, (pI t111 1011 u b8), rfl, (by (try rw [hC111.1] at c4); (try simp [gI_pI] at c4); rw [hC111.1, hC111.2.1]; unfold mSet; rw [if_pos hC111.2.2]; simp [hcx, bd, gI_pI, gD_pI, k1, k3, c4]), BM_at ht hW hP hK hD⟩, hS.F ht⟩) hS.2.2 d_M_setting_302
    by_cases k5 : w = 2
    · have _u : True := trivial
      refine lv_tableIn (off := 90) (tgt := 202) hx hb d_M_setting_112 (by rw [k5]; decide) (by rw [k5]; decide) (by rw [k5]; decide) (by decide) ?_
      refine lv_aload_n hx hb d_M_setting_202 rfl (lv_at hl 0 rfl) ?_
      refine g_M_greatest hx hb hts hown hK hP mw_607 d_M_setting_203 ?_
      refine lv_iload_n hx hb d_M_setting_206 rfl (lv_at hl 1 rfl) ?_
      refine g_m_greatest hx hb hK hP (r := u) hu hxu d_M_setting_207 ?_
      refine lv_i2d hx hb d_M_setting_208 ?_
      refine lv_dstore (lv' := [(6, .double (FP.i2d (gI t111 1013 u))), (0, .ref (ad (0))), (1, .int (x)), (2, .int (w)), (3, .double (v)), (5, .int (FP.d2i v)), (8, .int (b8))]) hx hb d_M_setting_209 hl (by decide) rfl (fun ls hl => ?_)
      refine lv_aload_n hx hb d_M_setting_211 rfl (lv_at hl 1 rfl) ?_
      refine g_M_greatest hx hb hts hown hK hP mw_607 d_M_setting_212 ?_
      refine lv_iload_n hx hb d_M_setting_215 rfl (lv_at hl 2 rfl) ?_
      refine lv_iload hx hb d_M_setting_216 (lv_at hl 5 rfl) ?_
      refine p_m_greatest hx hb hK hP hD hS (r := u) hu hxu d_M_setting_218 (fun H locs hP hD hS => ?_)
      refine lv_goto (tgt := 300) hx hb d_M_setting_219 (by decide) ?_
      refine lv_dload hx hb d_M_setting_300 (lv_at hl 0 rfl) ?_
      exact W.dret (v := FP.i2d (gI t111 1013 u)) hx hb hr (fun t9 ht hW => ⟨⟨FP.i2d (gI t111 1013 u), (pI t111 1013 u (FP.d2i v)), rfl, (by rw [hC111.1]; unfold mSet; rw [if_pos hC111.2.2]; simp [hcx, bd, gI_pI, gD_pI, k1, k3, k5]), BM_at ht hW hP hK hD⟩, hS.F ht⟩) hS.2.2 d_M_setting_302
    by_cases k6 : w = 3
    · have _u : True := trivial
      refine lv_tableIn (off := 110) (tgt := 222) hx hb d_M_setting_112 (by rw [k6]; decide) (by rw [k6]; decide) (by rw [k6]; decide) (by decide) ?_
      refine lv_aload_n hx hb d_M_setting_222 rfl (lv_at hl 0 rfl) ?_
      refine g_M_full hx hb hts hown hK hP mw_608 d_M_setting_223 ?_
      refine lv_iload_n hx hb d_M_setting_226 rfl (lv_at hl 1 rfl) ?_
      refine g_m_full hx hb hK hP (r := u) hu hxu d_M_setting_227 ?_
      refine lv_i2d hx hb d_M_setting_228 ?_
      refine lv_dstore (lv' := [(6, .double (FP.i2d (gI t111 1014 u))), (0, .ref (ad (0))), (1, .int (x)), (2, .int (w)), (3, .double (v)), (5, .int (FP.d2i v)), (8, .int (b8))]) hx hb d_M_setting_229 hl (by decide) rfl (fun ls hl => ?_)
      refine lv_aload_n hx hb d_M_setting_231 rfl (lv_at hl 1 rfl) ?_
      refine g_M_full hx hb hts hown hK hP mw_608 d_M_setting_232 ?_
      refine lv_iload_n hx hb d_M_setting_235 rfl (lv_at hl 2 rfl) ?_
      refine lv_iload hx hb d_M_setting_236 (lv_at hl 5 rfl) ?_
      refine p_m_full hx hb hK hP hD hS (r := u) hu hxu d_M_setting_238 (fun H locs hP hD hS => ?_)
      refine lv_goto (tgt := 300) hx hb d_M_setting_239 (by decide) ?_
      refine lv_dload hx hb d_M_setting_300 (lv_at hl 0 rfl) ?_
      exact W.dret (v := FP.i2d (gI t111 1014 u)) hx hb hr (fun t9 ht hW => ⟨⟨FP.i2d (gI t111 1014 u), (pI t111 1014 u (FP.d2i v)), rfl, (by rw [hC111.1]; unfold mSet; rw [if_pos hC111.2.2]; simp [hcx, bd, gI_pI, gD_pI, k1, k3, k5, k6]), BM_at ht hW hP hK hD⟩, hS.F ht⟩) hS.2.2 d_M_setting_302
    by_cases k7 : w = 4
    · have _u : True := trivial
      refine lv_tableIn (off := 130) (tgt := 242) hx hb d_M_setting_112 (by rw [k7]; decide) (by rw [k7]; decide) (by rw [k7]; decide) (by decide) ?_
      refine lv_aload_n hx hb d_M_setting_242 rfl (lv_at hl 0 rfl) ?_
      refine g_M_best hx hb hts hown hK hP mw_609 d_M_setting_243 ?_
      refine lv_iload_n hx hb d_M_setting_246 rfl (lv_at hl 1 rfl) ?_
      refine g_m_best hx hb hK hP (r := u) hu hxu d_M_setting_247 ?_
      refine lv_dstore (lv' := [(6, .double (gD t111 1015 u)), (0, .ref (ad (0))), (1, .int (x)), (2, .int (w)), (3, .double (v)), (5, .int (FP.d2i v)), (8, .int (b8))]) hx hb d_M_setting_248 hl (by decide) rfl (fun ls hl => ?_)
      refine lv_aload_n hx hb d_M_setting_250 rfl (lv_at hl 1 rfl) ?_
      refine g_M_best hx hb hts hown hK hP mw_609 d_M_setting_251 ?_
      refine lv_iload_n hx hb d_M_setting_254 rfl (lv_at hl 2 rfl) ?_
      refine lv_dload_n hx hb d_M_setting_255 rfl (lv_at hl 4 rfl) ?_
      refine p_m_best hx hb hK hP hD hS (r := u) hu hxu d_M_setting_256 (fun H locs hP hD hS => ?_)
      refine lv_goto (tgt := 300) hx hb d_M_setting_257 (by decide) ?_
      refine lv_dload hx hb d_M_setting_300 (lv_at hl 0 rfl) ?_
      exact W.dret (v := gD t111 1015 u) hx hb hr (fun t9 ht hW => ⟨⟨gD t111 1015 u, (pD t111 1015 u v), rfl, (by rw [hC111.1]; unfold mSet; rw [if_pos hC111.2.2]; simp [hcx, bd, gI_pI, gD_pI, k1, k3, k5, k6, k7]), BM_at ht hW hP hK hD⟩, hS.F ht⟩) hS.2.2 d_M_setting_302
    refine lv_tableOut (tgt := 260) hx hb d_M_setting_112 (by have ek1 := lv_neT (a := 0) k1 rfl; have ek3 := lv_neT (a := 1) k3 rfl; have ek5 := lv_neT (a := 2) k5 rfl; have ek6 := lv_neT (a := 3) k6 rfl; have ek7 := lv_neT (a := 4) k7 rfl; omega) (by decide) ?_
    obtain ⟨q, hq, hwq⟩ := isW_t (mSetBad_w hC111.2.2 k1 k3 k5 k6 k7)
    have hcq : cl (w - 10) = q := cl_of hwq (by omega)
    refine lv_aload_n hx hb d_M_setting_260 rfl (lv_at hl 0 rfl) ?_
    refine g_M_barred hx hb hts hown hK hP mw_606 d_M_setting_261 ?_
    refine lv_bipush (v := 10) hx hb d_M_setting_264 (by decide) ?_
    refine lv_iload_n hx hb d_M_setting_266 rfl (lv_at hl 1 rfl) ?_
    refine lv_imul hx hb d_M_setting_267 ?_
    refine lv_iload_n hx hb d_M_setting_268 rfl (lv_at hl 2 rfl) ?_
    refine lv_iadd hx hb d_M_setting_269 ?_
    refine lv_bipush (v := 10) hx hb d_M_setting_270 (by decide) ?_
    refine lv_isub hx hb d_M_setting_272 ?_
    refine g_m_barred hx hb hK hP (r := (10 * u + q)) (by omega) (t_of hxu hwq) d_M_setting_273 ?_
    refine lv_if_eq (tgt := 281) hx hb d_M_setting_274 (by decide) (fun c8 => ?_) (fun c8 => ?_)
    · have _u : True := trivial
      refine lv_dconst0 hx hb d_M_setting_281 ?_
      refine lv_dstore (lv' := [(6, .double (FP.dconst0)), (0, .ref (ad (0))), (1, .int (x)), (2, .int (w)), (3, .double (v)), (5, .int (FP.d2i v)), (8, .int (b8))]) hx hb d_M_setting_282 hl (by decide) rfl (fun ls hl => ?_)
      refine lv_aload_n hx hb d_M_setting_284 rfl (lv_at hl 1 rfl) ?_
      refine g_M_barred hx hb hts hown hK hP mw_606 d_M_setting_285 ?_
      refine lv_bipush (v := 10) hx hb d_M_setting_288 (by decide) ?_
      refine lv_iload_n hx hb d_M_setting_290 rfl (lv_at hl 2 rfl) ?_
      refine lv_imul hx hb d_M_setting_291 ?_
      refine lv_iload_n hx hb d_M_setting_292 rfl (lv_at hl 3 rfl) ?_
      refine lv_iadd hx hb d_M_setting_293 ?_
      refine lv_bipush (v := 10) hx hb d_M_setting_294 (by decide) ?_
      refine lv_isub hx hb d_M_setting_296 ?_
      refine lv_iload hx hb d_M_setting_297 (lv_at hl 6 rfl) ?_
      refine p_m_barred hx hb hK hP hD hS (r := (10 * u + q)) (by omega) (t_of hxu hwq) (hb8) d_M_setting_299 (fun H locs hP hD hS => ?_)
      refine lv_dload hx hb d_M_setting_300 (lv_at hl 0 rfl) ?_
      exact W.dret (v := FP.dconst0) hx hb hr (fun t9 ht hW => ⟨⟨FP.dconst0, (pI t111 1012 (10 * u + q) b8), rfl, (by (try rw [hC111.1] at c8); (try simp [gI_pI] at c8); rw [hC111.1, hC111.2.1]; unfold mSet; rw [if_pos hC111.2.2]; simp [hcx, bd, gI_pI, gD_pI, k1, k3, k5, k6, k7, c8, hcq]), BM_at ht hW hP hK hD⟩, hS.F ht⟩) hS.2.2 d_M_setting_302
    · have _u : True := trivial
      refine lv_dconst1 hx hb d_M_setting_277 ?_
      refine lv_goto (tgt := 282) hx hb d_M_setting_278 (by decide) ?_
      refine lv_dstore (lv' := [(6, .double (FP.dconst1)), (0, .ref (ad (0))), (1, .int (x)), (2, .int (w)), (3, .double (v)), (5, .int (FP.d2i v)), (8, .int (b8))]) hx hb d_M_setting_282 hl (by decide) rfl (fun ls hl => ?_)
      refine lv_aload_n hx hb d_M_setting_284 rfl (lv_at hl 1 rfl) ?_
      refine g_M_barred hx hb hts hown hK hP mw_606 d_M_setting_285 ?_
      refine lv_bipush (v := 10) hx hb d_M_setting_288 (by decide) ?_
      refine lv_iload_n hx hb d_M_setting_290 rfl (lv_at hl 2 rfl) ?_
      refine lv_imul hx hb d_M_setting_291 ?_
      refine lv_iload_n hx hb d_M_setting_292 rfl (lv_at hl 3 rfl) ?_
      refine lv_iadd hx hb d_M_setting_293 ?_
      refine lv_bipush (v := 10) hx hb d_M_setting_294 (by decide) ?_
      refine lv_isub hx hb d_M_setting_296 ?_
      refine lv_iload hx hb d_M_setting_297 (lv_at hl 6 rfl) ?_
      refine p_m_barred hx hb hK hP hD hS (r := (10 * u + q)) (by omega) (t_of hxu hwq) (hb8) d_M_setting_299 (fun H locs hP hD hS => ?_)
      refine lv_dload hx hb d_M_setting_300 (lv_at hl 0 rfl) ?_
      exact W.dret (v := FP.dconst1) hx hb hr (fun t9 ht hW => ⟨⟨FP.dconst1, (pI t111 1012 (10 * u + q) b8), rfl, (by (try rw [hC111.1] at c8); (try simp [gI_pI] at c8); rw [hC111.1, hC111.2.1]; unfold mSet; rw [if_pos hC111.2.2]; simp [hcx, bd, gI_pI, gD_pI, k1, k3, k5, k6, k7, c8, hcq]), BM_at ht hW hP hK hD⟩, hS.F ht⟩) hS.2.2 d_M_setting_302
  have hJ90 : ∀ (t90 : Mem) (H : Heap) (locs : List Loc) (ls : Array Slot), t90 = t ∧ mSetBad x w v = 0 → va_P D clm (mw ad ka t90) H → va_D (AM ad s.heap.size) (mw ad ka t90) → va_S (AM ad s.heap.size) s.heap H locs → lv_has ls 9 [(0, .ref (ad (0))), (1, .int (x)), (2, .int (w)), (3, .double (v)), (5, .int (FP.d2i v))] → W p l e ({ frames := 1, cells := 0, slots := 0, locals := 22 }) s m ([.ref (ad (0)), .int (x), .int (w), .double (v)] : List Value).toArray below meth c H locs 0 0 (MQ below (va_Qd (fun (r : UInt64) (t' : Mem) => mSet t x w v = (r, t')) (BM D ad ka s.heap.size) (AM ad s.heap.size)) ([.ref (ad (0)), .int (x), .int (w), .double (v)] : List Value).toArray s 0 0 (AM ad s.heap.size)) (F0 m 90 ls []) := by
    intro t90 H locs ls hC90 hP hD hS hl
    refine lv_aload_n hx hb d_M_setting_90 rfl (lv_at hl 0 rfl) ?_
    refine lv_iconst (v := 0) hx hb d_M_setting_91 (by decide) ?_
    refine p_M_thrown hx hb hts hown hK hP hD hS mw_590 d_M_setting_92 (fun H locs hP hD hS => ?_)
    refine lv_dconst0 hx hb d_M_setting_95 ?_
    refine lv_dstore (lv' := [(6, .double (FP.dconst0)), (0, .ref (ad (0))), (1, .int (x)), (2, .int (w)), (3, .double (v)), (5, .int (FP.d2i v))]) hx hb d_M_setting_96 hl (by decide) rfl (fun ls hl => ?_)
    refine lv_dload_n hx hb d_M_setting_98 rfl (lv_at hl 4 rfl) ?_
    refine lv_dconst0 hx hb d_M_setting_99 ?_
    refine lv_dcmp hx hb d_M_setting_100 ?_
    refine lv_if_eq (tgt := 108) hx hb d_M_setting_101 (by decide) (fun c9 => ?_) (fun c9 => ?_)
    · have _u : True := trivial
      refine lv_iconst (v := 0) hx hb d_M_setting_108 (by decide) ?_
      refine lv_istore (lv' := [(8, .int (0)), (6, .double (FP.dconst0)), (0, .ref (ad (0))), (1, .int (x)), (2, .int (w)), (3, .double (v)), (5, .int (FP.d2i v))]) hx hb d_M_setting_109 hl (by decide) rfl (fun ls hl => ?_)
      exact hJ111 (pI t90 0 0 0) 0 _ _ ls ⟨by rw [hC90.1], by simp [nzD, c9], hC90.2⟩ hP hD hS (lv_sub hl [2, 3, 4, 5, 6, 1, 0] rfl)
    · have _u : True := trivial
      refine lv_iconst (v := 1) hx hb d_M_setting_104 (by decide) ?_
      refine lv_goto (tgt := 109) hx hb d_M_setting_105 (by decide) ?_
      refine lv_istore (lv' := [(8, .int (1)), (6, .double (FP.dconst0)), (0, .ref (ad (0))), (1, .int (x)), (2, .int (w)), (3, .double (v)), (5, .int (FP.d2i v))]) hx hb d_M_setting_109 hl (by decide) rfl (fun ls hl => ?_)
      exact hJ111 (pI t90 0 0 0) 1 _ _ ls ⟨by rw [hC90.1], by simp [nzD, c9], hC90.2⟩ hP hD hS (lv_sub hl [2, 3, 4, 5, 6, 1, 0] rfl)
  refine lv_dload_n hx hb d_M_setting_0 rfl (lv_at hl 3 rfl) ?_
  refine lv_d2i hx hb d_M_setting_1 ?_
  refine lv_istore (lv' := [(5, .int (FP.d2i v)), (0, .ref (ad (0))), (1, .int (x)), (2, .int (w)), (3, .double (v))]) hx hb d_M_setting_2 hl (by decide) rfl (fun ls hl => ?_)
  refine lv_iload_n hx hb d_M_setting_4 rfl (lv_at hl 2 rfl) ?_
  refine lv_iconst (v := 0) hx hb d_M_setting_5 (by decide) ?_
  refine lv_iconst (v := 2) hx hb d_M_setting_6 (by decide) ?_
  have hA1 := hS.1
  refine va_calli (va_runS (As := [.int (x), .int (0), .int (2)]) (rest := []) ⟨hx, hb, hml, hown, hts⟩ (c_M_in l D ad ka s.heap.size t x 0 2) (cwS 3 hts (gs mw_696 mw_697 mw_6 mw_698) rfl rfl rfl (by decide +kernel) ⟨Nat.le_of_ble_eq_true rfl, Nat.le_of_ble_eq_true rfl⟩) ⟨PM_blind, fun U hU hW => ⟨rfl, PM_at hU hW hP hK hD⟩⟩ rfl rfl hl.1 rfl (lv_room (Nat.le_of_ble_eq_true rfl)) d_M_setting_7 ⟨Nat.le_of_ble_eq_true rfl, Nat.le_of_ble_eq_true rfl⟩) hS (fun q _ h => AM_up hA1 q h) (AM_up hA1) (fun r10 t12 tq H1 locs ht hvm hw11 hB hz1 hk1 hS => ?_)
  obtain ⟨hP, hD⟩ := BM_back ht hB (AM_up hA1)
  generalize H1 = H at hP hS ⊢
  obtain ⟨hwr, hwt⟩ := hw11
  rw [hwt] at hP hD
  rw [hwr]
  refine lv_if_eq (tgt := 33) hx hb d_M_setting_10 (by decide) (fun c13 => ?_) (fun c13 => ?_)
  · have _u : True := trivial
    refine lv_aload_n hx hb d_M_setting_33 rfl (lv_at hl 1 rfl) ?_
    refine lv_iconst (v := 1) hx hb d_M_setting_34 (by decide) ?_
    have hA1 := hS.1
    refine va_calli (va_runV (As := [.int (1)]) (rest := []) ⟨hx, hb, hml, hown, hts⟩ (c_M_refuse l D ad ka H.size t 1) (cwV 1 hts (gv mw_699 mw_701 (big_sel (i := 4) (by decide +kernel) (by decide +kernel)) mw_6 mw_702) rfl rfl rfl (by decide +kernel) ⟨Nat.le_of_ble_eq_true rfl, Nat.le_of_ble_eq_true rfl⟩) ⟨PM_blind, va_recv hK hP (ci := 0) (q0 := 0) rfl (at_M), fun U hU hW => ⟨rfl, PM_at hU hW hP hK hD⟩⟩ rfl rfl hl.1 rfl (lv_room (Nat.le_of_ble_eq_true rfl)) d_M_setting_35 ⟨Nat.le_of_ble_eq_true rfl, Nat.le_of_ble_eq_true rfl⟩) hS (fun q _ h => AM_up hA1 q h) (AM_up hA1) (fun r14 t16 tq H1 locs ht hvm hw15 hB hz1 hk1 hS => ?_)
    obtain ⟨hP, hD⟩ := BM_back ht hB (AM_up hA1)
    generalize H1 = H at hP hS ⊢
    obtain ⟨hwr, hwt⟩ := hw15
    rw [hwt] at hP hD
    rw [hwr]
    refine lv_i2d hx hb d_M_setting_38 ?_
    exact W.dret (v := FP.i2d 0) hx hb hr (fun t9 ht hW => ⟨⟨FP.i2d 0, (pI t 0 0 1), rfl, (by first | (simp [mSet, mSetBad, bstD, c13, isW4.1, isW4.2.1, isW4.2.2.1, isW4.2.2.2, isW5]; done) | (exfalso; simp_all [isW4, isW5]; done)), BM_at ht hW hP hK hD⟩, hS.F ht⟩) hS.2.2 d_M_setting_39
  · have _u : True := trivial
    refine lv_iload_n hx hb d_M_setting_13 rfl (lv_at hl 3 rfl) ?_
    refine lv_iconst (v := 0) hx hb d_M_setting_14 (by decide) ?_
    refine lv_iconst (v := 4) hx hb d_M_setting_15 (by decide) ?_
    have hA1 := hS.1
    refine va_calli (va_runS (As := [.int (w), .int (0), .int (4)]) (rest := []) ⟨hx, hb, hml, hown, hts⟩ (c_M_in l D ad ka H.size t w 0 4) (cwS 3 hts (gs mw_696 mw_697 mw_6 mw_698) rfl rfl rfl (by decide +kernel) ⟨Nat.le_of_ble_eq_true rfl, Nat.le_of_ble_eq_true rfl⟩) ⟨PM_blind, fun U hU hW => ⟨rfl, PM_at hU hW hP hK hD⟩⟩ rfl rfl hl.1 rfl (lv_room (Nat.le_of_ble_eq_true rfl)) d_M_setting_16 ⟨Nat.le_of_ble_eq_true rfl, Nat.le_of_ble_eq_true rfl⟩) hS (fun q _ h => AM_up hA1 q h) (AM_up hA1) (fun r17 t19 tq H1 locs ht hvm hw18 hB hz1 hk1 hS => ?_)
    obtain ⟨hP, hD⟩ := BM_back ht hB (AM_up hA1)
    generalize H1 = H at hP hS ⊢
    obtain ⟨hwr, hwt⟩ := hw18
    rw [hwt] at hP hD
    rw [hwr]
    refine lv_if_ne (tgt := 40) hx hb d_M_setting_19 (by decide) (fun c20 => ?_) (fun c20 => ?_)
    · have _u : True := trivial
      refine lv_iload_n hx hb d_M_setting_40 rfl (lv_at hl 3 rfl) ?_
      refine lv_iconst (v := 2) hx hb d_M_setting_41 (by decide) ?_
      refine lv_icmp_eq (tgt := 50) hx hb d_M_setting_42 (by decide) (fun c21 => ?_) (fun c21 => ?_)
      · have _u : True := trivial
        refine lv_iload hx hb d_M_setting_50 (lv_at hl 0 rfl) ?_
        refine lv_iconst (v := 1) hx hb d_M_setting_52 (by decide) ?_
        refine lv_sipush (v := 1000) hx hb d_M_setting_53 (by decide) ?_
        have hA1 := hS.1
        refine va_calli (va_runS (As := [.int (FP.d2i v), .int (1), .int (1000)]) (rest := []) ⟨hx, hb, hml, hown, hts⟩ (c_M_in l D ad ka H.size t (FP.d2i v) 1 1000) (cwS 3 hts (gs mw_696 mw_697 mw_6 mw_698) rfl rfl rfl (by decide +kernel) ⟨Nat.le_of_ble_eq_true rfl, Nat.le_of_ble_eq_true rfl⟩) ⟨PM_blind, fun U hU hW => ⟨rfl, PM_at hU hW hP hK hD⟩⟩ rfl rfl hl.1 rfl (lv_room (Nat.le_of_ble_eq_true rfl)) d_M_setting_56 ⟨Nat.le_of_ble_eq_true rfl, Nat.le_of_ble_eq_true rfl⟩) hS (fun q _ h => AM_up hA1 q h) (AM_up hA1) (fun r22 t24 tq H1 locs ht hvm hw23 hB hz1 hk1 hS => ?_)
        obtain ⟨hP, hD⟩ := BM_back ht hB (AM_up hA1)
        generalize H1 = H at hP hS ⊢
        obtain ⟨hwr, hwt⟩ := hw23
        rw [hwt] at hP hD
        rw [hwr]
        refine lv_if_eq (tgt := 83) hx hb d_M_setting_59 (by decide) (fun c25 => ?_) (fun c25 => ?_)
        · have _u : True := trivial
          refine lv_aload_n hx hb d_M_setting_83 rfl (lv_at hl 1 rfl) ?_
          refine lv_iconst (v := 1) hx hb d_M_setting_84 (by decide) ?_
          have hA1 := hS.1
          refine va_calli (va_runV (As := [.int (1)]) (rest := []) ⟨hx, hb, hml, hown, hts⟩ (c_M_refuse l D ad ka H.size t 1) (cwV 1 hts (gv mw_699 mw_701 (big_sel (i := 4) (by decide +kernel) (by decide +kernel)) mw_6 mw_702) rfl rfl rfl (by decide +kernel) ⟨Nat.le_of_ble_eq_true rfl, Nat.le_of_ble_eq_true rfl⟩) ⟨PM_blind, va_recv hK hP (ci := 0) (q0 := 0) rfl (at_M), fun U hU hW => ⟨rfl, PM_at hU hW hP hK hD⟩⟩ rfl rfl hl.1 rfl (lv_room (Nat.le_of_ble_eq_true rfl)) d_M_setting_85 ⟨Nat.le_of_ble_eq_true rfl, Nat.le_of_ble_eq_true rfl⟩) hS (fun q _ h => AM_up hA1 q h) (AM_up hA1) (fun r26 t28 tq H1 locs ht hvm hw27 hB hz1 hk1 hS => ?_)
          obtain ⟨hP, hD⟩ := BM_back ht hB (AM_up hA1)
          generalize H1 = H at hP hS ⊢
          obtain ⟨hwr, hwt⟩ := hw27
          rw [hwt] at hP hD
          rw [hwr]
          refine lv_i2d hx hb d_M_setting_88 ?_
          exact W.dret (v := FP.i2d 0) hx hb hr (fun t9 ht hW => ⟨⟨FP.i2d 0, (pI t 0 0 1), rfl, (by first | (simp [mSet, mSetBad, bstD, c13, c20, c21, c25, isW4.1, isW4.2.1, isW4.2.2.1, isW4.2.2.2, isW5]; done) | (exfalso; simp_all [isW4, isW5]; done)), BM_at ht hW hP hK hD⟩, hS.F ht⟩) hS.2.2 d_M_setting_89
        · have _u : True := trivial
          refine lv_iload_n hx hb d_M_setting_62 rfl (lv_at hl 3 rfl) ?_
          refine lv_iconst (v := 4) hx hb d_M_setting_63 (by decide) ?_
          refine lv_icmp_ne (tgt := 90) hx hb d_M_setting_64 (by decide) (fun c29 => ?_) (fun c29 => ?_)
          · have _u : True := trivial
            exact hJ90 t  _ _ ls ⟨rfl, by first | (simp [mSetBad, bstD, c13, c20, c21, c25, c29, isW4.1, isW4.2.1, isW4.2.2.1, isW4.2.2.2, isW5]; done) | (exfalso; simp_all [isW4, isW5]; done)⟩ hP hD hS (lv_sub hl [1, 2, 3, 4, 0] rfl)
          · have _u : True := trivial
            refine lv_dload_n hx hb d_M_setting_67 rfl (lv_at hl 4 rfl) ?_
            refine lv_ldc2d (own := "ListForgeModel") (v := 4602678819172646912) hx hb hown (bg hts mw_731) d_M_setting_68 ?_
            refine lv_dcmp hx hb d_M_setting_71 ?_
            refine lv_if_lt (tgt := 83) hx hb d_M_setting_72 (by decide) (fun c30 => ?_) (fun c30 => ?_)
            · have _u : True := trivial
              refine lv_aload_n hx hb d_M_setting_83 rfl (lv_at hl 1 rfl) ?_
              refine lv_iconst (v := 1) hx hb d_M_setting_84 (by decide) ?_
              have hA1 := hS.1
              refine va_calli (va_runV (As := [.int (1)]) (rest := []) ⟨hx, hb, hml, hown, hts⟩ (c_M_refuse l D ad ka H.size t 1) (cwV 1 hts (gv mw_699 mw_701 (big_sel (i := 4) (by decide +kernel) (by decide +kernel)) mw_6 mw_702) rfl rfl rfl (by decide +kernel) ⟨Nat.le_of_ble_eq_true rfl, Nat.le_of_ble_eq_true rfl⟩) ⟨PM_blind, va_recv hK hP (ci := 0) (q0 := 0) rfl (at_M), fun U hU hW => ⟨rfl, PM_at hU hW hP hK hD⟩⟩ rfl rfl hl.1 rfl (lv_room (Nat.le_of_ble_eq_true rfl)) d_M_setting_85 ⟨Nat.le_of_ble_eq_true rfl, Nat.le_of_ble_eq_true rfl⟩) hS (fun q _ h => AM_up hA1 q h) (AM_up hA1) (fun r31 t33 tq H1 locs ht hvm hw32 hB hz1 hk1 hS => ?_)
              obtain ⟨hP, hD⟩ := BM_back ht hB (AM_up hA1)
              generalize H1 = H at hP hS ⊢
              obtain ⟨hwr, hwt⟩ := hw32
              rw [hwt] at hP hD
              rw [hwr]
              refine lv_i2d hx hb d_M_setting_88 ?_
              exact W.dret (v := FP.i2d 0) hx hb hr (fun t9 ht hW => ⟨⟨FP.i2d 0, (pI t 0 0 1), rfl, (by first | (simp [mSet, mSetBad, bstD, c13, c20, c21, c25, c29, c30, isW4.1, isW4.2.1, isW4.2.2.1, isW4.2.2.2, isW5]; done) | (exfalso; simp_all [isW4, isW5]; done)), BM_at ht hW hP hK hD⟩, hS.F ht⟩) hS.2.2 d_M_setting_89
            · have _u : True := trivial
              refine lv_dload_n hx hb d_M_setting_75 rfl (lv_at hl 4 rfl) ?_
              refine lv_ldc2d (own := "ListForgeModel") (v := 4621819117588971520) hx hb hown (bg hts mw_732) d_M_setting_76 ?_
              refine lv_dcmp hx hb d_M_setting_79 ?_
              refine lv_if_le (tgt := 90) hx hb d_M_setting_80 (by decide) (fun c34 => ?_) (fun c34 => ?_)
              · have _u : True := trivial
                exact hJ90 t  _ _ ls ⟨rfl, by first | (simp [mSetBad, bstD, c13, c20, c21, c25, c29, c30, c34, isW4.1, isW4.2.1, isW4.2.2.1, isW4.2.2.2, isW5]; done) | (exfalso; simp_all [isW4, isW5]; done)⟩ hP hD hS (lv_sub hl [1, 2, 3, 4, 0] rfl)
              · have _u : True := trivial
                refine lv_aload_n hx hb d_M_setting_83 rfl (lv_at hl 1 rfl) ?_
                refine lv_iconst (v := 1) hx hb d_M_setting_84 (by decide) ?_
                have hA1 := hS.1
                refine va_calli (va_runV (As := [.int (1)]) (rest := []) ⟨hx, hb, hml, hown, hts⟩ (c_M_refuse l D ad ka H.size t 1) (cwV 1 hts (gv mw_699 mw_701 (big_sel (i := 4) (by decide +kernel) (by decide +kernel)) mw_6 mw_702) rfl rfl rfl (by decide +kernel) ⟨Nat.le_of_ble_eq_true rfl, Nat.le_of_ble_eq_true rfl⟩) ⟨PM_blind, va_recv hK hP (ci := 0) (q0 := 0) rfl (at_M), fun U hU hW => ⟨rfl, PM_at hU hW hP hK hD⟩⟩ rfl rfl hl.1 rfl (lv_room (Nat.le_of_ble_eq_true rfl)) d_M_setting_85 ⟨Nat.le_of_ble_eq_true rfl, Nat.le_of_ble_eq_true rfl⟩) hS (fun q _ h => AM_up hA1 q h) (AM_up hA1) (fun r35 t37 tq H1 locs ht hvm hw36 hB hz1 hk1 hS => ?_)
                obtain ⟨hP, hD⟩ := BM_back ht hB (AM_up hA1)
                generalize H1 = H at hP hS ⊢
                obtain ⟨hwr, hwt⟩ := hw36
                rw [hwt] at hP hD
                rw [hwr]
                refine lv_i2d hx hb d_M_setting_88 ?_
                exact W.dret (v := FP.i2d 0) hx hb hr (fun t9 ht hW => ⟨⟨FP.i2d 0, (pI t 0 0 1), rfl, (by first | (simp [mSet, mSetBad, bstD, c13, c20, c21, c25, c29, c30, c34, isW4.1, isW4.2.1, isW4.2.2.1, isW4.2.2.2, isW5]; done) | (exfalso; simp_all [isW4, isW5]; done)), BM_at ht hW hP hK hD⟩, hS.F ht⟩) hS.2.2 d_M_setting_89
      · have _u : True := trivial
        refine lv_iload_n hx hb d_M_setting_45 rfl (lv_at hl 3 rfl) ?_
        refine lv_iconst (v := 3) hx hb d_M_setting_46 (by decide) ?_
        refine lv_icmp_ne (tgt := 62) hx hb d_M_setting_47 (by decide) (fun c38 => ?_) (fun c38 => ?_)
        · have _u : True := trivial
          refine lv_iload_n hx hb d_M_setting_62 rfl (lv_at hl 3 rfl) ?_
          refine lv_iconst (v := 4) hx hb d_M_setting_63 (by decide) ?_
          refine lv_icmp_ne (tgt := 90) hx hb d_M_setting_64 (by decide) (fun c39 => ?_) (fun c39 => ?_)
          · have _u : True := trivial
            exact hJ90 t  _ _ ls ⟨rfl, by first | (simp [mSetBad, bstD, c13, c20, c21, c38, c39, isW4.1, isW4.2.1, isW4.2.2.1, isW4.2.2.2, isW5]; done) | (exfalso; simp_all [isW4, isW5]; done)⟩ hP hD hS (lv_sub hl [1, 2, 3, 4, 0] rfl)
          · have _u : True := trivial
            refine lv_dload_n hx hb d_M_setting_67 rfl (lv_at hl 4 rfl) ?_
            refine lv_ldc2d (own := "ListForgeModel") (v := 4602678819172646912) hx hb hown (bg hts mw_731) d_M_setting_68 ?_
            refine lv_dcmp hx hb d_M_setting_71 ?_
            refine lv_if_lt (tgt := 83) hx hb d_M_setting_72 (by decide) (fun c40 => ?_) (fun c40 => ?_)
            · have _u : True := trivial
              refine lv_aload_n hx hb d_M_setting_83 rfl (lv_at hl 1 rfl) ?_
              refine lv_iconst (v := 1) hx hb d_M_setting_84 (by decide) ?_
              have hA1 := hS.1
              refine va_calli (va_runV (As := [.int (1)]) (rest := []) ⟨hx, hb, hml, hown, hts⟩ (c_M_refuse l D ad ka H.size t 1) (cwV 1 hts (gv mw_699 mw_701 (big_sel (i := 4) (by decide +kernel) (by decide +kernel)) mw_6 mw_702) rfl rfl rfl (by decide +kernel) ⟨Nat.le_of_ble_eq_true rfl, Nat.le_of_ble_eq_true rfl⟩) ⟨PM_blind, va_recv hK hP (ci := 0) (q0 := 0) rfl (at_M), fun U hU hW => ⟨rfl, PM_at hU hW hP hK hD⟩⟩ rfl rfl hl.1 rfl (lv_room (Nat.le_of_ble_eq_true rfl)) d_M_setting_85 ⟨Nat.le_of_ble_eq_true rfl, Nat.le_of_ble_eq_true rfl⟩) hS (fun q _ h => AM_up hA1 q h) (AM_up hA1) (fun r41 t43 tq H1 locs ht hvm hw42 hB hz1 hk1 hS => ?_)
              obtain ⟨hP, hD⟩ := BM_back ht hB (AM_up hA1)
              generalize H1 = H at hP hS ⊢
              obtain ⟨hwr, hwt⟩ := hw42
              rw [hwt] at hP hD
              rw [hwr]
              refine lv_i2d hx hb d_M_setting_88 ?_
              exact W.dret (v := FP.i2d 0) hx hb hr (fun t9 ht hW => ⟨⟨FP.i2d 0, (pI t 0 0 1), rfl, (by first | (simp [mSet, mSetBad, bstD, c13, c20, c21, c38, c39, c40, isW4.1, isW4.2.1, isW4.2.2.1, isW4.2.2.2, isW5]; done) | (exfalso; simp_all [isW4, isW5]; done)), BM_at ht hW hP hK hD⟩, hS.F ht⟩) hS.2.2 d_M_setting_89
            · have _u : True := trivial
              refine lv_dload_n hx hb d_M_setting_75 rfl (lv_at hl 4 rfl) ?_
              refine lv_ldc2d (own := "ListForgeModel") (v := 4621819117588971520) hx hb hown (bg hts mw_732) d_M_setting_76 ?_
              refine lv_dcmp hx hb d_M_setting_79 ?_
              refine lv_if_le (tgt := 90) hx hb d_M_setting_80 (by decide) (fun c44 => ?_) (fun c44 => ?_)
              · have _u : True := trivial
                exact hJ90 t  _ _ ls ⟨rfl, by first | (simp [mSetBad, bstD, c13, c20, c21, c38, c39, c40, c44, isW4.1, isW4.2.1, isW4.2.2.1, isW4.2.2.2, isW5]; done) | (exfalso; simp_all [isW4, isW5]; done)⟩ hP hD hS (lv_sub hl [1, 2, 3, 4, 0] rfl)
              · have _u : True := trivial
                refine lv_aload_n hx hb d_M_setting_83 rfl (lv_at hl 1 rfl) ?_
                refine lv_iconst (v := 1) hx hb d_M_setting_84 (by decide) ?_
                have hA1 := hS.1
                refine va_calli (va_runV (As := [.int (1)]) (rest := []) ⟨hx, hb, hml, hown, hts⟩ (c_M_refuse l D ad ka H.size t 1) (cwV 1 hts (gv mw_699 mw_701 (big_sel (i := 4) (by decide +kernel) (by decide +kernel)) mw_6 mw_702) rfl rfl rfl (by decide +kernel) ⟨Nat.le_of_ble_eq_true rfl, Nat.le_of_ble_eq_true rfl⟩) ⟨PM_blind, va_recv hK hP (ci := 0) (q0 := 0) rfl (at_M), fun U hU hW => ⟨rfl, PM_at hU hW hP hK hD⟩⟩ rfl rfl hl.1 rfl (lv_room (Nat.le_of_ble_eq_true rfl)) d_M_setting_85 ⟨Nat.le_of_ble_eq_true rfl, Nat.le_of_ble_eq_true rfl⟩) hS (fun q _ h => AM_up hA1 q h) (AM_up hA1) (fun r45 t47 tq H1 locs ht hvm hw46 hB hz1 hk1 hS => ?_)
                obtain ⟨hP, hD⟩ := BM_back ht hB (AM_up hA1)
                generalize H1 = H at hP hS ⊢
                obtain ⟨hwr, hwt⟩ := hw46
                rw [hwt] at hP hD
                rw [hwr]
                refine lv_i2d hx hb d_M_setting_88 ?_
                exact W.dret (v := FP.i2d 0) hx hb hr (fun t9 ht hW => ⟨⟨FP.i2d 0, (pI t 0 0 1), rfl, (by first | (simp [mSet, mSetBad, bstD, c13, c20, c21, c38, c39, c40, c44, isW4.1, isW4.2.1, isW4.2.2.1, isW4.2.2.2, isW5]; done) | (exfalso; simp_all [isW4, isW5]; done)), BM_at ht hW hP hK hD⟩, hS.F ht⟩) hS.2.2 d_M_setting_89
        · have _u : True := trivial
          refine lv_iload hx hb d_M_setting_50 (lv_at hl 0 rfl) ?_
          refine lv_iconst (v := 1) hx hb d_M_setting_52 (by decide) ?_
          refine lv_sipush (v := 1000) hx hb d_M_setting_53 (by decide) ?_
          have hA1 := hS.1
          refine va_calli (va_runS (As := [.int (FP.d2i v), .int (1), .int (1000)]) (rest := []) ⟨hx, hb, hml, hown, hts⟩ (c_M_in l D ad ka H.size t (FP.d2i v) 1 1000) (cwS 3 hts (gs mw_696 mw_697 mw_6 mw_698) rfl rfl rfl (by decide +kernel) ⟨Nat.le_of_ble_eq_true rfl, Nat.le_of_ble_eq_true rfl⟩) ⟨PM_blind, fun U hU hW => ⟨rfl, PM_at hU hW hP hK hD⟩⟩ rfl rfl hl.1 rfl (lv_room (Nat.le_of_ble_eq_true rfl)) d_M_setting_56 ⟨Nat.le_of_ble_eq_true rfl, Nat.le_of_ble_eq_true rfl⟩) hS (fun q _ h => AM_up hA1 q h) (AM_up hA1) (fun r48 t50 tq H1 locs ht hvm hw49 hB hz1 hk1 hS => ?_)
          obtain ⟨hP, hD⟩ := BM_back ht hB (AM_up hA1)
          generalize H1 = H at hP hS ⊢
          obtain ⟨hwr, hwt⟩ := hw49
          rw [hwt] at hP hD
          rw [hwr]
          refine lv_if_eq (tgt := 83) hx hb d_M_setting_59 (by decide) (fun c51 => ?_) (fun c51 => ?_)
          · have _u : True := trivial
            refine lv_aload_n hx hb d_M_setting_83 rfl (lv_at hl 1 rfl) ?_
            refine lv_iconst (v := 1) hx hb d_M_setting_84 (by decide) ?_
            have hA1 := hS.1
            refine va_calli (va_runV (As := [.int (1)]) (rest := []) ⟨hx, hb, hml, hown, hts⟩ (c_M_refuse l D ad ka H.size t 1) (cwV 1 hts (gv mw_699 mw_701 (big_sel (i := 4) (by decide +kernel) (by decide +kernel)) mw_6 mw_702) rfl rfl rfl (by decide +kernel) ⟨Nat.le_of_ble_eq_true rfl, Nat.le_of_ble_eq_true rfl⟩) ⟨PM_blind, va_recv hK hP (ci := 0) (q0 := 0) rfl (at_M), fun U hU hW => ⟨rfl, PM_at hU hW hP hK hD⟩⟩ rfl rfl hl.1 rfl (lv_room (Nat.le_of_ble_eq_true rfl)) d_M_setting_85 ⟨Nat.le_of_ble_eq_true rfl, Nat.le_of_ble_eq_true rfl⟩) hS (fun q _ h => AM_up hA1 q h) (AM_up hA1) (fun r52 t54 tq H1 locs ht hvm hw53 hB hz1 hk1 hS => ?_)
            obtain ⟨hP, hD⟩ := BM_back ht hB (AM_up hA1)
            generalize H1 = H at hP hS ⊢
            obtain ⟨hwr, hwt⟩ := hw53
            rw [hwt] at hP hD
            rw [hwr]
            refine lv_i2d hx hb d_M_setting_88 ?_
            exact W.dret (v := FP.i2d 0) hx hb hr (fun t9 ht hW => ⟨⟨FP.i2d 0, (pI t 0 0 1), rfl, (by first | (simp [mSet, mSetBad, bstD, c13, c20, c21, c38, c51, isW4.1, isW4.2.1, isW4.2.2.1, isW4.2.2.2, isW5]; done) | (exfalso; simp_all [isW4, isW5]; done)), BM_at ht hW hP hK hD⟩, hS.F ht⟩) hS.2.2 d_M_setting_89
          · have _u : True := trivial
            refine lv_iload_n hx hb d_M_setting_62 rfl (lv_at hl 3 rfl) ?_
            refine lv_iconst (v := 4) hx hb d_M_setting_63 (by decide) ?_
            refine lv_icmp_ne (tgt := 90) hx hb d_M_setting_64 (by decide) (fun c55 => ?_) (fun c55 => ?_)
            · have _u : True := trivial
              exact hJ90 t  _ _ ls ⟨rfl, by first | (simp [mSetBad, bstD, c13, c20, c21, c38, c51, c55, isW4.1, isW4.2.1, isW4.2.2.1, isW4.2.2.2, isW5]; done) | (exfalso; simp_all [isW4, isW5]; done)⟩ hP hD hS (lv_sub hl [1, 2, 3, 4, 0] rfl)
            · have _u : True := trivial
              refine lv_dload_n hx hb d_M_setting_67 rfl (lv_at hl 4 rfl) ?_
              refine lv_ldc2d (own := "ListForgeModel") (v := 4602678819172646912) hx hb hown (bg hts mw_731) d_M_setting_68 ?_
              refine lv_dcmp hx hb d_M_setting_71 ?_
              refine lv_if_lt (tgt := 83) hx hb d_M_setting_72 (by decide) (fun c56 => ?_) (fun c56 => ?_)
              · have _u : True := trivial
                refine lv_aload_n hx hb d_M_setting_83 rfl (lv_at hl 1 rfl) ?_
                refine lv_iconst (v := 1) hx hb d_M_setting_84 (by decide) ?_
                have hA1 := hS.1
                refine va_calli (va_runV (As := [.int (1)]) (rest := []) ⟨hx, hb, hml, hown, hts⟩ (c_M_refuse l D ad ka H.size t 1) (cwV 1 hts (gv mw_699 mw_701 (big_sel (i := 4) (by decide +kernel) (by decide +kernel)) mw_6 mw_702) rfl rfl rfl (by decide +kernel) ⟨Nat.le_of_ble_eq_true rfl, Nat.le_of_ble_eq_true rfl⟩) ⟨PM_blind, va_recv hK hP (ci := 0) (q0 := 0) rfl (at_M), fun U hU hW => ⟨rfl, PM_at hU hW hP hK hD⟩⟩ rfl rfl hl.1 rfl (lv_room (Nat.le_of_ble_eq_true rfl)) d_M_setting_85 ⟨Nat.le_of_ble_eq_true rfl, Nat.le_of_ble_eq_true rfl⟩) hS (fun q _ h => AM_up hA1 q h) (AM_up hA1) (fun r57 t59 tq H1 locs ht hvm hw58 hB hz1 hk1 hS => ?_)
                obtain ⟨hP, hD⟩ := BM_back ht hB (AM_up hA1)
                generalize H1 = H at hP hS ⊢
                obtain ⟨hwr, hwt⟩ := hw58
                rw [hwt] at hP hD
                rw [hwr]
                refine lv_i2d hx hb d_M_setting_88 ?_
                exact W.dret (v := FP.i2d 0) hx hb hr (fun t9 ht hW => ⟨⟨FP.i2d 0, (pI t 0 0 1), rfl, (by first | (simp [mSet, mSetBad, bstD, c13, c20, c21, c38, c51, c55, c56, isW4.1, isW4.2.1, isW4.2.2.1, isW4.2.2.2, isW5]; done) | (exfalso; simp_all [isW4, isW5]; done)), BM_at ht hW hP hK hD⟩, hS.F ht⟩) hS.2.2 d_M_setting_89
              · have _u : True := trivial
                refine lv_dload_n hx hb d_M_setting_75 rfl (lv_at hl 4 rfl) ?_
                refine lv_ldc2d (own := "ListForgeModel") (v := 4621819117588971520) hx hb hown (bg hts mw_732) d_M_setting_76 ?_
                refine lv_dcmp hx hb d_M_setting_79 ?_
                refine lv_if_le (tgt := 90) hx hb d_M_setting_80 (by decide) (fun c60 => ?_) (fun c60 => ?_)
                · have _u : True := trivial
                  exact hJ90 t  _ _ ls ⟨rfl, by first | (simp [mSetBad, bstD, c13, c20, c21, c38, c51, c55, c56, c60, isW4.1, isW4.2.1, isW4.2.2.1, isW4.2.2.2, isW5]; done) | (exfalso; simp_all [isW4, isW5]; done)⟩ hP hD hS (lv_sub hl [1, 2, 3, 4, 0] rfl)
                · have _u : True := trivial
                  refine lv_aload_n hx hb d_M_setting_83 rfl (lv_at hl 1 rfl) ?_
                  refine lv_iconst (v := 1) hx hb d_M_setting_84 (by decide) ?_
                  have hA1 := hS.1
                  refine va_calli (va_runV (As := [.int (1)]) (rest := []) ⟨hx, hb, hml, hown, hts⟩ (c_M_refuse l D ad ka H.size t 1) (cwV 1 hts (gv mw_699 mw_701 (big_sel (i := 4) (by decide +kernel) (by decide +kernel)) mw_6 mw_702) rfl rfl rfl (by decide +kernel) ⟨Nat.le_of_ble_eq_true rfl, Nat.le_of_ble_eq_true rfl⟩) ⟨PM_blind, va_recv hK hP (ci := 0) (q0 := 0) rfl (at_M), fun U hU hW => ⟨rfl, PM_at hU hW hP hK hD⟩⟩ rfl rfl hl.1 rfl (lv_room (Nat.le_of_ble_eq_true rfl)) d_M_setting_85 ⟨Nat.le_of_ble_eq_true rfl, Nat.le_of_ble_eq_true rfl⟩) hS (fun q _ h => AM_up hA1 q h) (AM_up hA1) (fun r61 t63 tq H1 locs ht hvm hw62 hB hz1 hk1 hS => ?_)
                  obtain ⟨hP, hD⟩ := BM_back ht hB (AM_up hA1)
                  generalize H1 = H at hP hS ⊢
                  obtain ⟨hwr, hwt⟩ := hw62
                  rw [hwt] at hP hD
                  rw [hwr]
                  refine lv_i2d hx hb d_M_setting_88 ?_
                  exact W.dret (v := FP.i2d 0) hx hb hr (fun t9 ht hW => ⟨⟨FP.i2d 0, (pI t 0 0 1), rfl, (by first | (simp [mSet, mSetBad, bstD, c13, c20, c21, c38, c51, c55, c56, c60, isW4.1, isW4.2.1, isW4.2.2.1, isW4.2.2.2, isW5]; done) | (exfalso; simp_all [isW4, isW5]; done)), BM_at ht hW hP hK hD⟩, hS.F ht⟩) hS.2.2 d_M_setting_89
    · have _u : True := trivial
      refine lv_iload_n hx hb d_M_setting_22 rfl (lv_at hl 3 rfl) ?_
      refine lv_bipush (v := 10) hx hb d_M_setting_23 (by decide) ?_
      refine lv_bipush (v := 19) hx hb d_M_setting_25 (by decide) ?_
      have hA1 := hS.1
      refine va_calli (va_runS (As := [.int (w), .int (10), .int (19)]) (rest := []) ⟨hx, hb, hml, hown, hts⟩ (c_M_in l D ad ka H.size t w 10 19) (cwS 3 hts (gs mw_696 mw_697 mw_6 mw_698) rfl rfl rfl (by decide +kernel) ⟨Nat.le_of_ble_eq_true rfl, Nat.le_of_ble_eq_true rfl⟩) ⟨PM_blind, fun U hU hW => ⟨rfl, PM_at hU hW hP hK hD⟩⟩ rfl rfl hl.1 rfl (lv_room (Nat.le_of_ble_eq_true rfl)) d_M_setting_27 ⟨Nat.le_of_ble_eq_true rfl, Nat.le_of_ble_eq_true rfl⟩) hS (fun q _ h => AM_up hA1 q h) (AM_up hA1) (fun r64 t66 tq H1 locs ht hvm hw65 hB hz1 hk1 hS => ?_)
      obtain ⟨hP, hD⟩ := BM_back ht hB (AM_up hA1)
      generalize H1 = H at hP hS ⊢
      obtain ⟨hwr, hwt⟩ := hw65
      rw [hwt] at hP hD
      rw [hwr]
      refine lv_if_ne (tgt := 40) hx hb d_M_setting_30 (by decide) (fun c67 => ?_) (fun c67 => ?_)
      · have _u : True := trivial
        refine lv_iload_n hx hb d_M_setting_40 rfl (lv_at hl 3 rfl) ?_
        refine lv_iconst (v := 2) hx hb d_M_setting_41 (by decide) ?_
        refine lv_icmp_eq (tgt := 50) hx hb d_M_setting_42 (by decide) (fun c68 => ?_) (fun c68 => ?_)
        · have _u : True := trivial
          refine lv_iload hx hb d_M_setting_50 (lv_at hl 0 rfl) ?_
          refine lv_iconst (v := 1) hx hb d_M_setting_52 (by decide) ?_
          refine lv_sipush (v := 1000) hx hb d_M_setting_53 (by decide) ?_
          have hA1 := hS.1
          refine va_calli (va_runS (As := [.int (FP.d2i v), .int (1), .int (1000)]) (rest := []) ⟨hx, hb, hml, hown, hts⟩ (c_M_in l D ad ka H.size t (FP.d2i v) 1 1000) (cwS 3 hts (gs mw_696 mw_697 mw_6 mw_698) rfl rfl rfl (by decide +kernel) ⟨Nat.le_of_ble_eq_true rfl, Nat.le_of_ble_eq_true rfl⟩) ⟨PM_blind, fun U hU hW => ⟨rfl, PM_at hU hW hP hK hD⟩⟩ rfl rfl hl.1 rfl (lv_room (Nat.le_of_ble_eq_true rfl)) d_M_setting_56 ⟨Nat.le_of_ble_eq_true rfl, Nat.le_of_ble_eq_true rfl⟩) hS (fun q _ h => AM_up hA1 q h) (AM_up hA1) (fun r69 t71 tq H1 locs ht hvm hw70 hB hz1 hk1 hS => ?_)
          obtain ⟨hP, hD⟩ := BM_back ht hB (AM_up hA1)
          generalize H1 = H at hP hS ⊢
          obtain ⟨hwr, hwt⟩ := hw70
          rw [hwt] at hP hD
          rw [hwr]
          refine lv_if_eq (tgt := 83) hx hb d_M_setting_59 (by decide) (fun c72 => ?_) (fun c72 => ?_)
          · have _u : True := trivial
            refine lv_aload_n hx hb d_M_setting_83 rfl (lv_at hl 1 rfl) ?_
            refine lv_iconst (v := 1) hx hb d_M_setting_84 (by decide) ?_
            have hA1 := hS.1
            refine va_calli (va_runV (As := [.int (1)]) (rest := []) ⟨hx, hb, hml, hown, hts⟩ (c_M_refuse l D ad ka H.size t 1) (cwV 1 hts (gv mw_699 mw_701 (big_sel (i := 4) (by decide +kernel) (by decide +kernel)) mw_6 mw_702) rfl rfl rfl (by decide +kernel) ⟨Nat.le_of_ble_eq_true rfl, Nat.le_of_ble_eq_true rfl⟩) ⟨PM_blind, va_recv hK hP (ci := 0) (q0 := 0) rfl (at_M), fun U hU hW => ⟨rfl, PM_at hU hW hP hK hD⟩⟩ rfl rfl hl.1 rfl (lv_room (Nat.le_of_ble_eq_true rfl)) d_M_setting_85 ⟨Nat.le_of_ble_eq_true rfl, Nat.le_of_ble_eq_true rfl⟩) hS (fun q _ h => AM_up hA1 q h) (AM_up hA1) (fun r73 t75 tq H1 locs ht hvm hw74 hB hz1 hk1 hS => ?_)
            obtain ⟨hP, hD⟩ := BM_back ht hB (AM_up hA1)
            generalize H1 = H at hP hS ⊢
            obtain ⟨hwr, hwt⟩ := hw74
            rw [hwt] at hP hD
            rw [hwr]
            refine lv_i2d hx hb d_M_setting_88 ?_
            exact W.dret (v := FP.i2d 0) hx hb hr (fun t9 ht hW => ⟨⟨FP.i2d 0, (pI t 0 0 1), rfl, (by first | (simp [mSet, mSetBad, bstD, c13, c20, c67, c68, c72, isW4.1, isW4.2.1, isW4.2.2.1, isW4.2.2.2, isW5]; done) | (exfalso; simp_all [isW4, isW5]; done)), BM_at ht hW hP hK hD⟩, hS.F ht⟩) hS.2.2 d_M_setting_89
          · have _u : True := trivial
            refine lv_iload_n hx hb d_M_setting_62 rfl (lv_at hl 3 rfl) ?_
            refine lv_iconst (v := 4) hx hb d_M_setting_63 (by decide) ?_
            refine lv_icmp_ne (tgt := 90) hx hb d_M_setting_64 (by decide) (fun c76 => ?_) (fun c76 => ?_)
            · have _u : True := trivial
              exact hJ90 t  _ _ ls ⟨rfl, by first | (simp [mSetBad, bstD, c13, c20, c67, c68, c72, c76, isW4.1, isW4.2.1, isW4.2.2.1, isW4.2.2.2, isW5]; done) | (exfalso; simp_all [isW4, isW5]; done)⟩ hP hD hS (lv_sub hl [1, 2, 3, 4, 0] rfl)
            · have _u : True := trivial
              refine lv_dload_n hx hb d_M_setting_67 rfl (lv_at hl 4 rfl) ?_
              refine lv_ldc2d (own := "ListForgeModel") (v := 4602678819172646912) hx hb hown (bg hts mw_731) d_M_setting_68 ?_
              refine lv_dcmp hx hb d_M_setting_71 ?_
              refine lv_if_lt (tgt := 83) hx hb d_M_setting_72 (by decide) (fun c77 => ?_) (fun c77 => ?_)
              · have _u : True := trivial
                refine lv_aload_n hx hb d_M_setting_83 rfl (lv_at hl 1 rfl) ?_
                refine lv_iconst (v := 1) hx hb d_M_setting_84 (by decide) ?_
                have hA1 := hS.1
                refine va_calli (va_runV (As := [.int (1)]) (rest := []) ⟨hx, hb, hml, hown, hts⟩ (c_M_refuse l D ad ka H.size t 1) (cwV 1 hts (gv mw_699 mw_701 (big_sel (i := 4) (by decide +kernel) (by decide +kernel)) mw_6 mw_702) rfl rfl rfl (by decide +kernel) ⟨Nat.le_of_ble_eq_true rfl, Nat.le_of_ble_eq_true rfl⟩) ⟨PM_blind, va_recv hK hP (ci := 0) (q0 := 0) rfl (at_M), fun U hU hW => ⟨rfl, PM_at hU hW hP hK hD⟩⟩ rfl rfl hl.1 rfl (lv_room (Nat.le_of_ble_eq_true rfl)) d_M_setting_85 ⟨Nat.le_of_ble_eq_true rfl, Nat.le_of_ble_eq_true rfl⟩) hS (fun q _ h => AM_up hA1 q h) (AM_up hA1) (fun r78 t80 tq H1 locs ht hvm hw79 hB hz1 hk1 hS => ?_)
                obtain ⟨hP, hD⟩ := BM_back ht hB (AM_up hA1)
                generalize H1 = H at hP hS ⊢
                obtain ⟨hwr, hwt⟩ := hw79
                rw [hwt] at hP hD
                rw [hwr]
                refine lv_i2d hx hb d_M_setting_88 ?_
                exact W.dret (v := FP.i2d 0) hx hb hr (fun t9 ht hW => ⟨⟨FP.i2d 0, (pI t 0 0 1), rfl, (by first | (simp [mSet, mSetBad, bstD, c13, c20, c67, c68, c72, c76, c77, isW4.1, isW4.2.1, isW4.2.2.1, isW4.2.2.2, isW5]; done) | (exfalso; simp_all [isW4, isW5]; done)), BM_at ht hW hP hK hD⟩, hS.F ht⟩) hS.2.2 d_M_setting_89
              · have _u : True := trivial
                refine lv_dload_n hx hb d_M_setting_75 rfl (lv_at hl 4 rfl) ?_
                refine lv_ldc2d (own := "ListForgeModel") (v := 4621819117588971520) hx hb hown (bg hts mw_732) d_M_setting_76 ?_
                refine lv_dcmp hx hb d_M_setting_79 ?_
                refine lv_if_le (tgt := 90) hx hb d_M_setting_80 (by decide) (fun c81 => ?_) (fun c81 => ?_)
                · have _u : True := trivial
                  exact hJ90 t  _ _ ls ⟨rfl, by first | (simp [mSetBad, bstD, c13, c20, c67, c68, c72, c76, c77, c81, isW4.1, isW4.2.1, isW4.2.2.1, isW4.2.2.2, isW5]; done) | (exfalso; simp_all [isW4, isW5]; done)⟩ hP hD hS (lv_sub hl [1, 2, 3, 4, 0] rfl)
                · have _u : True := trivial
                  refine lv_aload_n hx hb d_M_setting_83 rfl (lv_at hl 1 rfl) ?_
                  refine lv_iconst (v := 1) hx hb d_M_setting_84 (by decide) ?_
                  have hA1 := hS.1
                  refine va_calli (va_runV (As := [.int (1)]) (rest := []) ⟨hx, hb, hml, hown, hts⟩ (c_M_refuse l D ad ka H.size t 1) (cwV 1 hts (gv mw_699 mw_701 (big_sel (i := 4) (by decide +kernel) (by decide +kernel)) mw_6 mw_702) rfl rfl rfl (by decide +kernel) ⟨Nat.le_of_ble_eq_true rfl, Nat.le_of_ble_eq_true rfl⟩) ⟨PM_blind, va_recv hK hP (ci := 0) (q0 := 0) rfl (at_M), fun U hU hW => ⟨rfl, PM_at hU hW hP hK hD⟩⟩ rfl rfl hl.1 rfl (lv_room (Nat.le_of_ble_eq_true rfl)) d_M_setting_85 ⟨Nat.le_of_ble_eq_true rfl, Nat.le_of_ble_eq_true rfl⟩) hS (fun q _ h => AM_up hA1 q h) (AM_up hA1) (fun r82 t84 tq H1 locs ht hvm hw83 hB hz1 hk1 hS => ?_)
                  obtain ⟨hP, hD⟩ := BM_back ht hB (AM_up hA1)
                  generalize H1 = H at hP hS ⊢
                  obtain ⟨hwr, hwt⟩ := hw83
                  rw [hwt] at hP hD
                  rw [hwr]
                  refine lv_i2d hx hb d_M_setting_88 ?_
                  exact W.dret (v := FP.i2d 0) hx hb hr (fun t9 ht hW => ⟨⟨FP.i2d 0, (pI t 0 0 1), rfl, (by first | (simp [mSet, mSetBad, bstD, c13, c20, c67, c68, c72, c76, c77, c81, isW4.1, isW4.2.1, isW4.2.2.1, isW4.2.2.2, isW5]; done) | (exfalso; simp_all [isW4, isW5]; done)), BM_at ht hW hP hK hD⟩, hS.F ht⟩) hS.2.2 d_M_setting_89
        · have _u : True := trivial
          refine lv_iload_n hx hb d_M_setting_45 rfl (lv_at hl 3 rfl) ?_
          refine lv_iconst (v := 3) hx hb d_M_setting_46 (by decide) ?_
          refine lv_icmp_ne (tgt := 62) hx hb d_M_setting_47 (by decide) (fun c85 => ?_) (fun c85 => ?_)
          · have _u : True := trivial
            refine lv_iload_n hx hb d_M_setting_62 rfl (lv_at hl 3 rfl) ?_
            refine lv_iconst (v := 4) hx hb d_M_setting_63 (by decide) ?_
            refine lv_icmp_ne (tgt := 90) hx hb d_M_setting_64 (by decide) (fun c86 => ?_) (fun c86 => ?_)
            · have _u : True := trivial
              exact hJ90 t  _ _ ls ⟨rfl, by first | (simp [mSetBad, bstD, c13, c20, c67, c68, c85, c86, isW4.1, isW4.2.1, isW4.2.2.1, isW4.2.2.2, isW5]; done) | (exfalso; simp_all [isW4, isW5]; done)⟩ hP hD hS (lv_sub hl [1, 2, 3, 4, 0] rfl)
            · have _u : True := trivial
              refine lv_dload_n hx hb d_M_setting_67 rfl (lv_at hl 4 rfl) ?_
              refine lv_ldc2d (own := "ListForgeModel") (v := 4602678819172646912) hx hb hown (bg hts mw_731) d_M_setting_68 ?_
              refine lv_dcmp hx hb d_M_setting_71 ?_
              refine lv_if_lt (tgt := 83) hx hb d_M_setting_72 (by decide) (fun c87 => ?_) (fun c87 => ?_)
              · have _u : True := trivial
                refine lv_aload_n hx hb d_M_setting_83 rfl (lv_at hl 1 rfl) ?_
                refine lv_iconst (v := 1) hx hb d_M_setting_84 (by decide) ?_
                have hA1 := hS.1
                refine va_calli (va_runV (As := [.int (1)]) (rest := []) ⟨hx, hb, hml, hown, hts⟩ (c_M_refuse l D ad ka H.size t 1) (cwV 1 hts (gv mw_699 mw_701 (big_sel (i := 4) (by decide +kernel) (by decide +kernel)) mw_6 mw_702) rfl rfl rfl (by decide +kernel) ⟨Nat.le_of_ble_eq_true rfl, Nat.le_of_ble_eq_true rfl⟩) ⟨PM_blind, va_recv hK hP (ci := 0) (q0 := 0) rfl (at_M), fun U hU hW => ⟨rfl, PM_at hU hW hP hK hD⟩⟩ rfl rfl hl.1 rfl (lv_room (Nat.le_of_ble_eq_true rfl)) d_M_setting_85 ⟨Nat.le_of_ble_eq_true rfl, Nat.le_of_ble_eq_true rfl⟩) hS (fun q _ h => AM_up hA1 q h) (AM_up hA1) (fun r88 t90 tq H1 locs ht hvm hw89 hB hz1 hk1 hS => ?_)
                obtain ⟨hP, hD⟩ := BM_back ht hB (AM_up hA1)
                generalize H1 = H at hP hS ⊢
                obtain ⟨hwr, hwt⟩ := hw89
                rw [hwt] at hP hD
                rw [hwr]
                refine lv_i2d hx hb d_M_setting_88 ?_
                exact W.dret (v := FP.i2d 0) hx hb hr (fun t9 ht hW => ⟨⟨FP.i2d 0, (pI t 0 0 1), rfl, (by first | (simp [mSet, mSetBad, bstD, c13, c20, c67, c68, c85, c86, c87, isW4.1, isW4.2.1, isW4.2.2.1, isW4.2.2.2, isW5]; done) | (exfalso; simp_all [isW4, isW5]; done)), BM_at ht hW hP hK hD⟩, hS.F ht⟩) hS.2.2 d_M_setting_89
              · have _u : True := trivial
                refine lv_dload_n hx hb d_M_setting_75 rfl (lv_at hl 4 rfl) ?_
                refine lv_ldc2d (own := "ListForgeModel") (v := 4621819117588971520) hx hb hown (bg hts mw_732) d_M_setting_76 ?_
                refine lv_dcmp hx hb d_M_setting_79 ?_
                refine lv_if_le (tgt := 90) hx hb d_M_setting_80 (by decide) (fun c91 => ?_) (fun c91 => ?_)
                · have _u : True := trivial
                  exact hJ90 t  _ _ ls ⟨rfl, by first | (simp [mSetBad, bstD, c13, c20, c67, c68, c85, c86, c87, c91, isW4.1, isW4.2.1, isW4.2.2.1, isW4.2.2.2, isW5]; done) | (exfalso; simp_all [isW4, isW5]; done)⟩ hP hD hS (lv_sub hl [1, 2, 3, 4, 0] rfl)
                · have _u : True := trivial
                  refine lv_aload_n hx hb d_M_setting_83 rfl (lv_at hl 1 rfl) ?_
                  refine lv_iconst (v := 1) hx hb d_M_setting_84 (by decide) ?_
                  have hA1 := hS.1
                  refine va_calli (va_runV (As := [.int (1)]) (rest := []) ⟨hx, hb, hml, hown, hts⟩ (c_M_refuse l D ad ka H.size t 1) (cwV 1 hts (gv mw_699 mw_701 (big_sel (i := 4) (by decide +kernel) (by decide +kernel)) mw_6 mw_702) rfl rfl rfl (by decide +kernel) ⟨Nat.le_of_ble_eq_true rfl, Nat.le_of_ble_eq_true rfl⟩) ⟨PM_blind, va_recv hK hP (ci := 0) (q0 := 0) rfl (at_M), fun U hU hW => ⟨rfl, PM_at hU hW hP hK hD⟩⟩ rfl rfl hl.1 rfl (lv_room (Nat.le_of_ble_eq_true rfl)) d_M_setting_85 ⟨Nat.le_of_ble_eq_true rfl, Nat.le_of_ble_eq_true rfl⟩) hS (fun q _ h => AM_up hA1 q h) (AM_up hA1) (fun r92 t94 tq H1 locs ht hvm hw93 hB hz1 hk1 hS => ?_)
                  obtain ⟨hP, hD⟩ := BM_back ht hB (AM_up hA1)
                  generalize H1 = H at hP hS ⊢
                  obtain ⟨hwr, hwt⟩ := hw93
                  rw [hwt] at hP hD
                  rw [hwr]
                  refine lv_i2d hx hb d_M_setting_88 ?_
                  exact W.dret (v := FP.i2d 0) hx hb hr (fun t9 ht hW => ⟨⟨FP.i2d 0, (pI t 0 0 1), rfl, (by first | (simp [mSet, mSetBad, bstD, c13, c20, c67, c68, c85, c86, c87, c91, isW4.1, isW4.2.1, isW4.2.2.1, isW4.2.2.2, isW5]; done) | (exfalso; simp_all [isW4, isW5]; done)), BM_at ht hW hP hK hD⟩, hS.F ht⟩) hS.2.2 d_M_setting_89
          · have _u : True := trivial
            refine lv_iload hx hb d_M_setting_50 (lv_at hl 0 rfl) ?_
            refine lv_iconst (v := 1) hx hb d_M_setting_52 (by decide) ?_
            refine lv_sipush (v := 1000) hx hb d_M_setting_53 (by decide) ?_
            have hA1 := hS.1
            refine va_calli (va_runS (As := [.int (FP.d2i v), .int (1), .int (1000)]) (rest := []) ⟨hx, hb, hml, hown, hts⟩ (c_M_in l D ad ka H.size t (FP.d2i v) 1 1000) (cwS 3 hts (gs mw_696 mw_697 mw_6 mw_698) rfl rfl rfl (by decide +kernel) ⟨Nat.le_of_ble_eq_true rfl, Nat.le_of_ble_eq_true rfl⟩) ⟨PM_blind, fun U hU hW => ⟨rfl, PM_at hU hW hP hK hD⟩⟩ rfl rfl hl.1 rfl (lv_room (Nat.le_of_ble_eq_true rfl)) d_M_setting_56 ⟨Nat.le_of_ble_eq_true rfl, Nat.le_of_ble_eq_true rfl⟩) hS (fun q _ h => AM_up hA1 q h) (AM_up hA1) (fun r95 t97 tq H1 locs ht hvm hw96 hB hz1 hk1 hS => ?_)
            obtain ⟨hP, hD⟩ := BM_back ht hB (AM_up hA1)
            generalize H1 = H at hP hS ⊢
            obtain ⟨hwr, hwt⟩ := hw96
            rw [hwt] at hP hD
            rw [hwr]
            refine lv_if_eq (tgt := 83) hx hb d_M_setting_59 (by decide) (fun c98 => ?_) (fun c98 => ?_)
            · have _u : True := trivial
              refine lv_aload_n hx hb d_M_setting_83 rfl (lv_at hl 1 rfl) ?_
              refine lv_iconst (v := 1) hx hb d_M_setting_84 (by decide) ?_
              have hA1 := hS.1
              refine va_calli (va_runV (As := [.int (1)]) (rest := []) ⟨hx, hb, hml, hown, hts⟩ (c_M_refuse l D ad ka H.size t 1) (cwV 1 hts (gv mw_699 mw_701 (big_sel (i := 4) (by decide +kernel) (by decide +kernel)) mw_6 mw_702) rfl rfl rfl (by decide +kernel) ⟨Nat.le_of_ble_eq_true rfl, Nat.le_of_ble_eq_true rfl⟩) ⟨PM_blind, va_recv hK hP (ci := 0) (q0 := 0) rfl (at_M), fun U hU hW => ⟨rfl, PM_at hU hW hP hK hD⟩⟩ rfl rfl hl.1 rfl (lv_room (Nat.le_of_ble_eq_true rfl)) d_M_setting_85 ⟨Nat.le_of_ble_eq_true rfl, Nat.le_of_ble_eq_true rfl⟩) hS (fun q _ h => AM_up hA1 q h) (AM_up hA1) (fun r99 t101 tq H1 locs ht hvm hw100 hB hz1 hk1 hS => ?_)
              obtain ⟨hP, hD⟩ := BM_back ht hB (AM_up hA1)
              generalize H1 = H at hP hS ⊢
              obtain ⟨hwr, hwt⟩ := hw100
              rw [hwt] at hP hD
              rw [hwr]
              refine lv_i2d hx hb d_M_setting_88 ?_
              exact W.dret (v := FP.i2d 0) hx hb hr (fun t9 ht hW => ⟨⟨FP.i2d 0, (pI t 0 0 1), rfl, (by first | (simp [mSet, mSetBad, bstD, c13, c20, c67, c68, c85, c98, isW4.1, isW4.2.1, isW4.2.2.1, isW4.2.2.2, isW5]; done) | (exfalso; simp_all [isW4, isW5]; done)), BM_at ht hW hP hK hD⟩, hS.F ht⟩) hS.2.2 d_M_setting_89
            · have _u : True := trivial
              refine lv_iload_n hx hb d_M_setting_62 rfl (lv_at hl 3 rfl) ?_
              refine lv_iconst (v := 4) hx hb d_M_setting_63 (by decide) ?_
              refine lv_icmp_ne (tgt := 90) hx hb d_M_setting_64 (by decide) (fun c102 => ?_) (fun c102 => ?_)
              · have _u : True := trivial
                exact hJ90 t  _ _ ls ⟨rfl, by first | (simp [mSetBad, bstD, c13, c20, c67, c68, c85, c98, c102, isW4.1, isW4.2.1, isW4.2.2.1, isW4.2.2.2, isW5]; done) | (exfalso; simp_all [isW4, isW5]; done)⟩ hP hD hS (lv_sub hl [1, 2, 3, 4, 0] rfl)
              · have _u : True := trivial
                refine lv_dload_n hx hb d_M_setting_67 rfl (lv_at hl 4 rfl) ?_
                refine lv_ldc2d (own := "ListForgeModel") (v := 4602678819172646912) hx hb hown (bg hts mw_731) d_M_setting_68 ?_
                refine lv_dcmp hx hb d_M_setting_71 ?_
                refine lv_if_lt (tgt := 83) hx hb d_M_setting_72 (by decide) (fun c103 => ?_) (fun c103 => ?_)
                · have _u : True := trivial
                  refine lv_aload_n hx hb d_M_setting_83 rfl (lv_at hl 1 rfl) ?_
                  refine lv_iconst (v := 1) hx hb d_M_setting_84 (by decide) ?_
                  have hA1 := hS.1
                  refine va_calli (va_runV (As := [.int (1)]) (rest := []) ⟨hx, hb, hml, hown, hts⟩ (c_M_refuse l D ad ka H.size t 1) (cwV 1 hts (gv mw_699 mw_701 (big_sel (i := 4) (by decide +kernel) (by decide +kernel)) mw_6 mw_702) rfl rfl rfl (by decide +kernel) ⟨Nat.le_of_ble_eq_true rfl, Nat.le_of_ble_eq_true rfl⟩) ⟨PM_blind, va_recv hK hP (ci := 0) (q0 := 0) rfl (at_M), fun U hU hW => ⟨rfl, PM_at hU hW hP hK hD⟩⟩ rfl rfl hl.1 rfl (lv_room (Nat.le_of_ble_eq_true rfl)) d_M_setting_85 ⟨Nat.le_of_ble_eq_true rfl, Nat.le_of_ble_eq_true rfl⟩) hS (fun q _ h => AM_up hA1 q h) (AM_up hA1) (fun r104 t106 tq H1 locs ht hvm hw105 hB hz1 hk1 hS => ?_)
                  obtain ⟨hP, hD⟩ := BM_back ht hB (AM_up hA1)
                  generalize H1 = H at hP hS ⊢
                  obtain ⟨hwr, hwt⟩ := hw105
                  rw [hwt] at hP hD
                  rw [hwr]
                  refine lv_i2d hx hb d_M_setting_88 ?_
                  exact W.dret (v := FP.i2d 0) hx hb hr (fun t9 ht hW => ⟨⟨FP.i2d 0, (pI t 0 0 1), rfl, (by first | (simp [mSet, mSetBad, bstD, c13, c20, c67, c68, c85, c98, c102, c103, isW4.1, isW4.2.1, isW4.2.2.1, isW4.2.2.2, isW5]; done) | (exfalso; simp_all [isW4, isW5]; done)), BM_at ht hW hP hK hD⟩, hS.F ht⟩) hS.2.2 d_M_setting_89
                · have _u : True := trivial
                  refine lv_dload_n hx hb d_M_setting_75 rfl (lv_at hl 4 rfl) ?_
                  refine lv_ldc2d (own := "ListForgeModel") (v := 4621819117588971520) hx hb hown (bg hts mw_732) d_M_setting_76 ?_
                  refine lv_dcmp hx hb d_M_setting_79 ?_
                  refine lv_if_le (tgt := 90) hx hb d_M_setting_80 (by decide) (fun c107 => ?_) (fun c107 => ?_)
                  · have _u : True := trivial
                    exact hJ90 t  _ _ ls ⟨rfl, by first | (simp [mSetBad, bstD, c13, c20, c67, c68, c85, c98, c102, c103, c107, isW4.1, isW4.2.1, isW4.2.2.1, isW4.2.2.2, isW5]; done) | (exfalso; simp_all [isW4, isW5]; done)⟩ hP hD hS (lv_sub hl [1, 2, 3, 4, 0] rfl)
                  · have _u : True := trivial
                    refine lv_aload_n hx hb d_M_setting_83 rfl (lv_at hl 1 rfl) ?_
                    refine lv_iconst (v := 1) hx hb d_M_setting_84 (by decide) ?_
                    have hA1 := hS.1
                    refine va_calli (va_runV (As := [.int (1)]) (rest := []) ⟨hx, hb, hml, hown, hts⟩ (c_M_refuse l D ad ka H.size t 1) (cwV 1 hts (gv mw_699 mw_701 (big_sel (i := 4) (by decide +kernel) (by decide +kernel)) mw_6 mw_702) rfl rfl rfl (by decide +kernel) ⟨Nat.le_of_ble_eq_true rfl, Nat.le_of_ble_eq_true rfl⟩) ⟨PM_blind, va_recv hK hP (ci := 0) (q0 := 0) rfl (at_M), fun U hU hW => ⟨rfl, PM_at hU hW hP hK hD⟩⟩ rfl rfl hl.1 rfl (lv_room (Nat.le_of_ble_eq_true rfl)) d_M_setting_85 ⟨Nat.le_of_ble_eq_true rfl, Nat.le_of_ble_eq_true rfl⟩) hS (fun q _ h => AM_up hA1 q h) (AM_up hA1) (fun r108 t110 tq H1 locs ht hvm hw109 hB hz1 hk1 hS => ?_)
                    obtain ⟨hP, hD⟩ := BM_back ht hB (AM_up hA1)
                    generalize H1 = H at hP hS ⊢
                    obtain ⟨hwr, hwt⟩ := hw109
                    rw [hwt] at hP hD
                    rw [hwr]
                    refine lv_i2d hx hb d_M_setting_88 ?_
                    exact W.dret (v := FP.i2d 0) hx hb hr (fun t9 ht hW => ⟨⟨FP.i2d 0, (pI t 0 0 1), rfl, (by first | (simp [mSet, mSetBad, bstD, c13, c20, c67, c68, c85, c98, c102, c103, c107, isW4.1, isW4.2.1, isW4.2.2.1, isW4.2.2.2, isW5]; done) | (exfalso; simp_all [isW4, isW5]; done)), BM_at ht hW hP hK hD⟩, hS.F ht⟩) hS.2.2 d_M_setting_89
      · have _u : True := trivial
        refine lv_aload_n hx hb d_M_setting_33 rfl (lv_at hl 1 rfl) ?_
        refine lv_iconst (v := 1) hx hb d_M_setting_34 (by decide) ?_
        have hA1 := hS.1
        refine va_calli (va_runV (As := [.int (1)]) (rest := []) ⟨hx, hb, hml, hown, hts⟩ (c_M_refuse l D ad ka H.size t 1) (cwV 1 hts (gv mw_699 mw_701 (big_sel (i := 4) (by decide +kernel) (by decide +kernel)) mw_6 mw_702) rfl rfl rfl (by decide +kernel) ⟨Nat.le_of_ble_eq_true rfl, Nat.le_of_ble_eq_true rfl⟩) ⟨PM_blind, va_recv hK hP (ci := 0) (q0 := 0) rfl (at_M), fun U hU hW => ⟨rfl, PM_at hU hW hP hK hD⟩⟩ rfl rfl hl.1 rfl (lv_room (Nat.le_of_ble_eq_true rfl)) d_M_setting_35 ⟨Nat.le_of_ble_eq_true rfl, Nat.le_of_ble_eq_true rfl⟩) hS (fun q _ h => AM_up hA1 q h) (AM_up hA1) (fun r111 t113 tq H1 locs ht hvm hw112 hB hz1 hk1 hS => ?_)
        obtain ⟨hP, hD⟩ := BM_back ht hB (AM_up hA1)
        generalize H1 = H at hP hS ⊢
        obtain ⟨hwr, hwt⟩ := hw112
        rw [hwt] at hP hD
        rw [hwr]
        refine lv_i2d hx hb d_M_setting_38 ?_
        exact W.dret (v := FP.i2d 0) hx hb hr (fun t9 ht hW => ⟨⟨FP.i2d 0, (pI t 0 0 1), rfl, (by first | (simp [mSet, mSetBad, bstD, c13, c20, c67, isW4.1, isW4.2.1, isW4.2.2.1, isW4.2.2.2, isW5]; done) | (exfalso; simp_all [isW4, isW5]; done)), BM_at ht hW hP hK hD⟩, hS.F ht⟩) hS.2.2 d_M_setting_39
