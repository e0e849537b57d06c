def cntR (t : Mem) (k : Int32) : Int32 := lp (fun a n => if gI t 23 a = k then n + 1 else n) (cl (gI t 30 0)) 0 0
def passR (t : Mem) (r : Nat) (p : Int32) : Mem := L_deliver (pI t 23 r 1) (cl (gI t 20 r)) r p (gI t 32 0)
theorem OKX_pass {t : Mem} {r : Nat} {p : Int32} (h : OKX t) : OKX (passR t r p) := OKX_deliver (OKX_f h (by decide))
theorem OKX_posts {t : Mem} (h : OKX t) : ∃ n, n ≤ 40 ∧ gI t 30 0 = nI n := h.2.2.2.2.2.1
theorem OKX_list {t : Mem} (h : OKX t) (r : Nat) : ∃ u, u < 3 ∧ gI t 20 r = nI u := h.2.2.2.2.2.2.1 r
theorem isW_k {k : Int32} {n : Nat} (hn : n ≤ 60) (h : ¬ isW k 0 (nI n - 1) = 0) : ∃ q : Nat, q < n ∧ k = nI q := by
  cases n with
  | zero =>
    exfalso
    apply h
    unfold isW
    split
    · rfl
    · rename_i h1
      rw [if_pos]
      have h2 := Int32.not_lt.mp h1
      rw [Int32.lt_iff_toInt_lt]
      rw [Int32.le_iff_toInt_le] at h2
      have e : (nI 0 - 1 : Int32).toInt = -1 := by decide
      have e0 : (0 : Int32).toInt = 0 := by decide
      omega
  | succ n =>
    rw [nI_pred] at h
    exact isW_n (nI_toInt (by omega)) h
def toldV (t : Mem) (j : Nat) (w : Int32) : Int32 := if w = 0 then gI t 0 j else if w = 1 then gI t 1 j else if w = 2 then (if gI t 6 j = 0 then 0 else 1) else if w = 3 then gI t 4 j else gI t 3 j
def toldR (t : Mem) (x a w : Int32) : Nat × Int32 × Mem := if isW w 0 4 = 0 then (1, 0, t) else if plz x a = 0 then (1, 0, t) else if gI t 0 (jj x a) = -1 then (2, 0, t) else (0, toldV t (jj x a) w, t)
def sentR (t : Mem) (k w : Int32) : Nat × Int32 × Mem := if isW w 0 3 = 0 then (1, 0, t) else if isW k 0 (gI t 28 0 - 1) = 0 then (2, 0, t) else (0, if w = 0 then gI t 1004 (cl k) else if w = 1 then gI t 1005 (cl k) else if w = 2 then gI t 1006 (cl k) else gI t 1007 (cl k), t)
def nzD (v : UInt64) : Int32 := if Op.cmpValue (FP.dcmp v FP.dconst0) .l = 0 then 0 else 1
def bstD (v : UInt64) : Int32 := if Op.cmpValue (FP.dcmp v 4602678819172646912) .l < 0 then 0 else if 0 < Op.cmpValue (FP.dcmp v 4621819117588971520) .g then 0 else 1
def setR (t : Mem) (x w : Int32) (v : UInt64) : Nat × UInt64 × Mem := if isW x 0 2 = 0 then (1, 0, t) else if w = 0 then (0, bd (gI t 10 (cl x)), pI t 10 (cl x) (nzD v)) else if w = 1 then (0, bd (gI t 11 (cl x)), pI t 11 (cl x) (nzD v)) else if w = 2 then (if isW (FP.d2i v) 1 1000 = 0 then (1, 0, t) else (0, FP.i2d (gI t 12 (cl x)), pI t 12 (cl x) (FP.d2i v))) else if w = 3 then (if isW (FP.d2i v) 1 1000 = 0 then (1, 0, t) else (0, FP.i2d (gI t 13 (cl x)), pI t 13 (cl x) (FP.d2i v))) else if w = 4 then (if bstD v = 0 then (1, 0, t) else (0, gD t 1 (cl x), pD t 1 (cl x) v)) else if isW w 10 19 = 0 then (1, 0, t) else (0, bd (gI t (1017 + cl x) (cl (w - 10))), pI t (1017 + cl x) (cl (w - 10)) (nzD v))
def postT (t : Mem) (x a z : Int32) : Mem := P_comeIn (pI t 30 0 (gI t 30 0 + 1)) (cl (gI t 30 0)) x a z
def postR (t : Mem) (x a z w : Int32) : Nat × Int32 × Mem := if plz x a = 0 then (1, 0, t) else if isW z 1 1000 = 0 then (1, 0, t) else if isW w 0 9 = 0 then (1, 0, t) else if gI t 30 0 < 40 then (if L_refuses t (cl x) (cl a) = 0 then (0, gI t 30 0, if L_holds (postT t x a z) (cl x) (cl a) z (cl w) = 0 then passR (postT t x a z) (cl (gI t 30 0)) (gI t 30 0) else L_tell (postT t x a z) (cl x) (gI t 30 0)) else (3, 0, t)) else (2, 0, t)
def judT (t : Mem) (p h : Int32) : Mem := if h = 0 then passR t (cl p) p else pI t 23 (cl p) 2
def judU (t : Mem) (p h : Int32) : Mem := if h = 1 then O_add (judT t p h) (gI (judT t p h) 21 (cl p)) (gI (judT t p h) 20 (cl p)) 4 p else judT t p h
def judR (t : Mem) (m p h : Int32) : Nat × Int32 × Mem := if isW m 0 11 = 0 then (1, 0, t) else if isW h 0 2 = 0 then (1, 0, t) else if isW p 0 (gI t 30 0 - 1) = 0 then (2, 0, t) else if gI t 23 (cl p) = 0 then (if gI t 6 (12 * cl (gI t 20 (cl p)) + cl m) = 0 then (3, 0, t) else (0, cntR (judU t p h) 0, judU t p h)) else (2, 0, t)
theorem isW_t {w : Int32} (h : ¬ isW w 10 19 = 0) : ∃ q : Nat, q < 10 ∧ w - 10 = nI q := by
  unfold isW at h
  split at h
  · exact absurd rfl h
  · rename_i h1
    split at h
    · exact absurd rfl h
    · rename_i h2
      obtain ⟨j, hj, e⟩ := nI_of2 (M := 19) (n := 19) (by decide) (x := w) (fun q => h1 (Int32.lt_trans q (by decide))) (Int32.not_lt.mp h2)
      have h3 : 10 ≤ j := by
        rcases Nat.lt_or_ge j 10 with q | q
        · exact absurd (by rw [e]; exact nI_lt q (by decide)) h1
        · exact q
      exact ⟨j - 10, by omega, by rw [e]; exact pk_sub h3⟩
set_option maxHeartbeats 4000000 in
set_option maxRecDepth 100000 in
theorem c_F_postsThatAre (l : Launch) (D : va_G) (ad : Nat → Nat) (ka : Nat → ClassId) (sz : Nat) (t : Mem) (ho : OKX t) (k0 : Int32) : Met l y_F_postsThatAre (Cond.code y_F_postsThatAre b_F_postsThatAre 4 (some .int) :: big) ({ frames := 0, cells := 0, slots := 0, locals := 0 }) (va_Pc [.ref (ad (0)), .int (k0)] (PX D ad ka sz t)) (va_Qi (fun (r : Int32) (t' : Mem) => r = cntR t k0 ∧ t' = t) (BX D ad ka sz) (AX ad sz)) 0 0 (AX ad sz) := by
  refine Met.ofW (cc := b_F_postsThatAre) (maxL := 4) (ret := (some .int)) (by decide) rfl ?_
  intro p e s m args below meth c s₁ B hml hv
  obtain ⟨rfl, hsz, hP, hK, hD0⟩ := hv
  have hx := B.exec
  have hb := B.bytes
  have hr := B.returns
  have hlocks := B.notSynchronized
  have hts := atoms_spec (ws := Cond.code y_F_postsThatAre b_F_postsThatAre 4 (some .int) :: big) B.pre
  have hown : s.vm.findClass "ListForge" = some m.cls := findClass_of_methodNamed B.named
  subst hsz
  have hD : va_D (AX ad s.heap.size) (cw ad ka t) := AX_D hD0
  have hS : va_S (AX ad s.heap.size) s.heap s.heap [] := va_S.rf
  have hl := lv_entry ([.ref (ad (0)), .int (k0)]) (n := 4) (Nat.le_of_ble_eq_true rfl)
  rw [lg_entry_eq]
  generalize (lg_sl ([.ref (ad (0)), .int (k0)]) ++ List.replicate (4 - (lg_sl ([.ref (ad (0)), .int (k0)])).length) Slot.unset).toArray = ls at hl ⊢
  have hl : lv_has ls 4 [(0, .ref (ad (0))), (1, .int (k0))] := hl

  obtain ⟨n0, hn0, hn⟩ := OKX_posts ho
  have hcn : cl (gI t 30 0) = n0 := cl_of hn (by omega)
  refine lv_iconst (v := 0) hx hb d_F_postsThatAre_0 (by decide) ?_
  refine lv_istore_n (lv' := [(2, .int (0)), (0, .ref (ad (0))), (1, .int (k0))]) hx hb d_F_postsThatAre_1 rfl hl (by decide) rfl (fun ls hl => ?_)
  refine lv_iconst (v := 0) hx hb d_F_postsThatAre_2 (by decide) ?_
  refine lv_istore_n (lv' := [(3, .int (0)), (2, .int (0)), (0, .ref (ad (0))), (1, .int (k0))]) hx hb d_F_postsThatAre_3 rfl hl (by decide) rfl (fun ls hl => ?_)
  have hloop1 : ∀ (n a1 : Nat) (f : Int32) (t11 : Mem) (H : Heap) (locs : List Loc) (ls : Array Slot), a1 ≤ n0 → n0 + 1 ≤ a1 + n → t11 = t → lp (fun a n => if gI t 23 a = k0 then n + 1 else n) (n0 - a1) a1 f = lp (fun a n => if gI t 23 a = k0 then n + 1 else n) n0 0 0 → va_P D cls (cw ad ka t11) H → va_D (AX ad s.heap.size) (cw ad ka t11) → va_S (AX ad s.heap.size) s.heap H locs → lv_has ls 4 [(0, .ref (ad (0))), (1, .int (k0)), (2, .int (f)), (3, .int (nI a1))] → W p l e ({ frames := 0, cells := 0, slots := 0, locals := 0 }) s m ([.ref (ad (0)), .int (k0)] : List Value).toArray below meth c H locs 0 0 (MQ below (va_Qi (fun (r : Int32) (t' : Mem) => r = cntR t k0 ∧ t' = t) (BX D ad ka s.heap.size) (AX ad s.heap.size)) ([.ref (ad (0)), .int (k0)] : List Value).toArray s 0 0 (AX ad s.heap.size)) (F0 m 4 ls []) := by
    intro n
    induction n with
    | zero => intro a1 f t11 H locs ls h1 h2; exact absurd h2 (by omega)
    | succ n ih1 =>
      intro a1 f t11 H locs ls ha1 hn1 ho1 hF1 hP hD hS hl
      refine lv_iload_n hx hb d_F_postsThatAre_4 rfl (lv_at hl 3 rfl) ?_
      refine lv_aload_n hx hb d_F_postsThatAre_5 rfl (lv_at hl 0 rfl) ?_
      refine g_F_postCount hx hb hts hown hK hP mw_178 d_F_postsThatAre_6 ?_
      refine lv_icmp_ge (tgt := 34) hx hb d_F_postsThatAre_9 (by decide) (fun c1 => ?_) (fun c1 => ?_)
      · have _u : True := trivial
        obtain rfl := nI_eq_of (x := gI t11 30 0) (N := n0) (by rw [ho1]; exact hn) (by omega) ha1 c1
        have hE1 := lp_end hF1
        refine lv_iload_n hx hb d_F_postsThatAre_34 rfl (lv_at hl 2 rfl) ?_
        exact W.iret (v := f) hx hb hr (fun t9 ht hW => ⟨⟨f, t11, rfl, ⟨by rw [cntR, hcn]; exact hE1, ho1⟩, BX_at ht hW hP hK hD⟩, hS.F ht⟩) hS.2.2 d_F_postsThatAre_35
      · have _u : True := trivial
        have hlt1 : a1 < n0 := nI_lt_of (x := gI t11 30 0) (N := n0) (by rw [ho1]; exact hn) ha1 c1
        refine lv_aload_n hx hb d_F_postsThatAre_12 rfl (lv_at hl 0 rfl) ?_
        refine g_F_posts hx hb hts hown hK hP mw_176 d_F_postsThatAre_13 ?_
        refine lv_iload_n hx hb d_F_postsThatAre_16 rfl (lv_at hl 3 rfl) ?_
        refine a_posts hx hb hK hP (r := a1) (by omega) rfl d_F_postsThatAre_17 ?_
        refine g_P_fate hx hb hts hown hK hP (by omega) mw_133 d_F_postsThatAre_18 ?_
        refine lv_iload_n hx hb d_F_postsThatAre_21 rfl (lv_at hl 1 rfl) ?_
        refine lv_icmp_ne (tgt := 28) hx hb d_F_postsThatAre_22 (by decide) (fun c2 => ?_) (fun c2 => ?_)
        · have _u : True := trivial
          refine lv_iinc (v := nI (a1 + 1)) (lv' := [(3, .int (nI (a1 + 1))), (0, .ref (ad (0))), (1, .int (k0)), (2, .int (f))]) hx hb d_F_postsThatAre_28 hl (k := 3) rfl (nI_1 _) (by decide) rfl (fun ls hl => ?_)
          refine lv_goto (tgt := 4) hx hb d_F_postsThatAre_31 (by decide) ?_
          exact ih1 (a1 + 1) f t11 H _ ls (by omega) (by omega) ho1 (lp_next hlt1 hF1 (by rw [ho1] at c2; simp [c2])) hP hD hS (lv_sub hl [1, 2, 3, 0] rfl)
        · have _u : True := trivial
          refine lv_iinc (v := f + 1) (lv' := [(2, .int (f + 1)), (0, .ref (ad (0))), (1, .int (k0)), (3, .int (nI a1))]) hx hb d_F_postsThatAre_25 hl (k := 2) rfl (rfl) (by decide) rfl (fun ls hl => ?_)
          refine lv_iinc (v := nI (a1 + 1)) (lv' := [(3, .int (nI (a1 + 1))), (2, .int (f + 1)), (0, .ref (ad (0))), (1, .int (k0))]) hx hb d_F_postsThatAre_28 hl (k := 3) rfl (nI_1 _) (by decide) rfl (fun ls hl => ?_)
          refine lv_goto (tgt := 4) hx hb d_F_postsThatAre_31 (by decide) ?_
          exact ih1 (a1 + 1) (f + 1) t11 H _ ls (by omega) (by omega) ho1 (lp_next hlt1 hF1 (by rw [ho1] at c2; simp [c2])) hP hD hS (lv_sub hl [2, 3, 1, 0] rfl)
  exact hloop1 (n0 + 1) 0 0 t s.heap _ ls (by omega) (by omega) rfl rfl hP hD hS (lv_sub hl [2, 3, 1, 0] rfl)
set_option maxHeartbeats 4000000 in
set_option maxRecDepth 100000 in
theorem c_F_letThrough (l : Launch) (D : va_G) (ad : Nat → Nat) (ka : Nat → ClassId) (sz : Nat) (t : Mem) (ho : OKX t) (r : Nat) (hrp : r < 40) (p0 : Int32) (hp0 : p0 = nI r) : Met l y_F_letThrough (Cond.code y_F_letThrough b_F_letThrough 3 none :: big) ({ frames := 3, cells := 0, slots := 0, locals := 72 }) (va_Pc [.ref (ad (0)), .int (p0)] (PX D ad ka sz t)) (va_Qv (fun t' : Mem => t' = passR t r p0) (BX D ad ka sz) (AX ad sz)) 0 0 (AX ad sz) := by
  refine Met.ofW (cc := b_F_letThrough) (maxL := 3) (ret := none) (by decide) rfl ?_
  intro p e s m args below meth c s₁ B hml hv
  obtain ⟨rfl, hsz, hP, hK, hD0⟩ := hv
  have hx := B.exec
  have hb := B.bytes
  have hr := B.returns
  have hlocks := B.notSynchronized
  have hts := atoms_spec (ws := Cond.code y_F_letThrough b_F_letThrough 3 none :: big) B.pre
  have hown : s.vm.findClass "ListForge" = some m.cls := findClass_of_methodNamed B.named
  subst hsz
  have hD : va_D (AX ad s.heap.size) (cw ad ka t) := AX_D hD0
  have hS : va_S (AX ad s.heap.size) s.heap s.heap [] := va_S.rf
  have hl := lv_entry ([.ref (ad (0)), .int (p0)]) (n := 3) (Nat.le_of_ble_eq_true rfl)
  rw [lg_entry_eq]
  generalize (lg_sl ([.ref (ad (0)), .int (p0)]) ++ List.replicate (3 - (lg_sl ([.ref (ad (0)), .int (p0)])).length) Slot.unset).toArray = ls at hl ⊢
  have hl : lv_has ls 3 [(0, .ref (ad (0))), (1, .int (p0))] := hl

  obtain ⟨v, hv, hve⟩ := OKX_list ho r
  have hcv : cl (gI t 20 r) = v := cl_of hve (by omega)
  refine lv_aload_n hx hb d_F_letThrough_0 rfl (lv_at hl 0 rfl) ?_
  refine g_F_posts hx hb hts hown hK hP mw_176 d_F_letThrough_1 ?_
  refine lv_iload_n hx hb d_F_letThrough_4 rfl (lv_at hl 1 rfl) ?_
  refine a_posts hx hb hK hP (r := r) hrp hp0 d_F_letThrough_5 ?_
  refine lv_astore_n (lv' := [(2, .ref (ad (20 + r))), (0, .ref (ad (0))), (1, .int (p0))]) hx hb d_F_letThrough_6 rfl hl (by decide) rfl (fun ls hl => ?_)
  refine lv_aload_n hx hb d_F_letThrough_7 rfl (lv_at hl 0 rfl) ?_
  refine lv_iconst (v := 1) hx hb d_F_letThrough_8 (by decide) ?_
  refine p_P_fate hx hb hts hown hK hP hD hS hrp mw_133 d_F_letThrough_9 (fun H locs hP hD hS => ?_)
  refine lv_aload_n hx hb d_F_letThrough_12 rfl (lv_at hl 1 rfl) ?_
  refine g_F_lists hx hb hts hown hK hP mw_175 d_F_letThrough_13 ?_
  refine lv_aload_n hx hb d_F_letThrough_16 rfl (lv_at hl 0 rfl) ?_
  refine g_P_list hx hb hts hown hK hP hrp mw_126 d_F_letThrough_17 ?_
  refine a_lists hx hb hK hP (r := v) hv (by simpa [gI_pI] using hve) d_F_letThrough_20 ?_
  refine lv_iload_n hx hb d_F_letThrough_21 rfl (lv_at hl 2 rfl) ?_
  refine lv_aload_n hx hb d_F_letThrough_22 rfl (lv_at hl 0 rfl) ?_
  refine lv_aload_n hx hb d_F_letThrough_23 rfl (lv_at hl 1 rfl) ?_
  refine g_F_today hx hb hts hown hK hP mw_180 d_F_letThrough_24 ?_
  refine lv_aload_n hx hb d_F_letThrough_27 rfl (lv_at hl 1 rfl) ?_
  refine g_F_outbox hx hb hts hown hK hP mw_177 d_F_letThrough_28 ?_
  have hA1 := hS.1
  refine va_callv (va_runV (As := [.int (p0), .ref (ad (20 + r)), .int (gI (pI t 23 r 1) 32 0), .ref (ad (3))]) (rest := []) ⟨hx, hb, hml, hown, hts⟩ (c_L_deliver l D ad ka H.size (pI t 23 r 1) v hv r hrp (OKX_f ho (by decide)) p0 (gI (pI t 23 r 1) 32 0)) (cwV 4 hts (gv mw_452 mw_453 mw_454 mw_2 mw_455) rfl rfl rfl (by decide +kernel) ⟨Nat.le_of_ble_eq_true rfl, Nat.le_of_ble_eq_true rfl⟩) ⟨PX_blind, va_recv hK hP (ci := 0) (q0 := 8 + v) rfl (at_L hv), fun U hU hW => ⟨rfl, PX_at hU hW hP hK hD⟩⟩ rfl rfl hl.1 rfl (lv_room (Nat.le_of_ble_eq_true rfl)) d_F_letThrough_31 ⟨Nat.le_of_ble_eq_true rfl, Nat.le_of_ble_eq_true rfl⟩) hS (fun q _ h => AX_up hA1 q h) (AX_up hA1) (fun t3 tq H1 locs ht hvm hw2 hB hz1 hk1 hS => ?_)
  obtain ⟨hP, hD⟩ := BX_back ht hB (AX_up hA1)
  generalize H1 = H at hP hS ⊢
  rw [hw2] at hP hD
  exact W.vret hx hb hr (fun t9 ht hW => ⟨⟨(L_deliver (pI t 23 r 1) v r p0 (gI (pI t 23 r 1) 32 0)), rfl, (by simp [passR, hcv, gI_pI]), BX_at ht hW hP hK hD⟩, hS.F ht⟩) hS.2.2 d_F_letThrough_34
set_option maxHeartbeats 4000000 in
set_option maxRecDepth 100000 in
theorem c_F_told (l : Launch) (hl0 : l.stackTraces = false) (D : va_G) (ad : Nat → Nat) (ka : Nat → ClassId) (sa : Nat → Nat) (sz : Nat) (t : Mem) (x a w : Int32) : vx_Met l y_F_told (Cond.code y_F_told b_F_told 5 (some .int) :: big) ({ frames := 9, cells := 3, slots := 18, locals := 146 }) (va_Pc [.ref (ad (0)), .int (x), .int (a), .int (w)] (PZ D ad ka sa sz t)) (va_Qi (fun (r : Int32) (t' : Mem) => toldR t x a w = (0, r, t')) (BX D ad ka sz) (AX ad sz)) (XT D ad ka sz t (fun E => (E = e_IAE ∧ (toldR t x a w).1 = 1) ∨ (E = e_NSE ∧ (toldR t x a w).1 = 2))) 3 18 (AX ad sz) := by
  refine vx_ofW (cc := b_F_told) (maxL := 5) (ret := (some .int)) (by decide) rfl ?_
  intro p e s m args below meth c s₁ B hml hTb hv
  obtain ⟨rfl, ⟨hsz, hP, hK, hD0⟩, hZ⟩ := hv
  have hx := B.exec
  have hb := B.bytes
  have hr := B.returns
  have hlocks := B.notSynchronized
  have hts := atoms_spec (ws := Cond.code y_F_told b_F_told 5 (some .int) :: big) B.pre
  have hown : s.vm.findClass "ListForge" = some m.cls := findClass_of_methodNamed B.named
  subst hsz
  have hD : va_D (AX ad s.heap.size) (cw ad ka t) := AX_D hD0
  have hS : va_S (AX ad s.heap.size) s.heap s.heap [] := va_S.rf
  have hl := lv_entry ([.ref (ad (0)), .int (x), .int (a), .int (w)]) (n := 5) (Nat.le_of_ble_eq_true rfl)
  rw [lg_entry_eq]
  generalize (lg_sl ([.ref (ad (0)), .int (x), .int (a), .int (w)]) ++ List.replicate (5 - (lg_sl ([.ref (ad (0)), .int (x), .int (a), .int (w)])).length) Slot.unset).toArray = ls at hl ⊢
  have hl : lv_has ls 5 [(0, .ref (ad (0))), (1, .int (x)), (2, .int (a)), (3, .int (w))] := hl

  refine lv_iload_n hx hb d_F_told_0 rfl (lv_at hl 3 rfl) ?_
  refine lv_iconst (v := 0) hx hb d_F_told_1 (by decide) ?_
  refine lv_iconst (v := 4) hx hb d_F_told_2 (by decide) ?_
  have hA1 := hS.1
  refine va_calli (va_runS (As := [.int (w), .int (0), .int (4)]) (rest := []) ⟨hx, hb, hml, hown, hts⟩ (c_F_isWithin l D ad ka s.heap.size t w 0 4) (cwS 3 hts (gs mw_207 mw_208 mw_1 mw_209) rfl rfl rfl (by decide +kernel) ⟨Nat.le_of_ble_eq_true rfl, Nat.le_of_ble_eq_true rfl⟩) ⟨PX_blind, fun U hU hW => ⟨rfl, PX_at hU hW hP hK hD⟩⟩ rfl rfl hl.1 rfl (lv_room (Nat.le_of_ble_eq_true rfl)) d_F_told_3 ⟨Nat.le_of_ble_eq_true rfl, Nat.le_of_ble_eq_true rfl⟩) hS (fun q _ h => AX_up hA1 q h) (AX_up hA1) (fun r1 t3 tq H1 locs ht hvm hw2 hB hz1 hk1 hS => ?_)
  obtain ⟨hP, hD⟩ := BX_back ht hB (AX_up hA1)
  generalize H1 = H at hP hS ⊢
  obtain ⟨hwr, hwt⟩ := hw2
  rw [hwt] at hP hD
  rw [hwr]
  have hA1 := hS.1
  refine vx_callv (vx_runS (As := [.int (isW w 0 4)]) (rest := []) ⟨hx, hb, hml, hown, hts⟩ (c_F_require l hl0 D ad ka sa H.size t (isW w 0 4)) (cwS 1 hts (gs mw_210 mw_211 mw_1 mw_212) rfl rfl rfl (by decide +kernel) ⟨Nat.le_of_ble_eq_true rfl, Nat.le_of_ble_eq_true rfl⟩) ⟨PZ_blind, fun U hU hW => ⟨rfl, PX_at hU hW hP hK hD, ZX_at hU hW hZ hS⟩⟩ rfl rfl hl.1 rfl (lv_room (Nat.le_of_ble_eq_true rfl)) d_F_told_6 ⟨Nat.le_of_ble_eq_true rfl, Nat.le_of_ble_eq_true rfl⟩) hS (fun q _ h => AX_up hA1 q h) (AX_up hA1) (fun q _ h => AX_up hA1 q h) (fun E ce q9 _ tq H1 locs ht hvm _ hB hz1 hk1 hS hce hcv hcl => vx_out (fun x hx9 => (hTb x hx9).elim) hlocks hce hcv hcl (fun t9 e9 a9 => XT_out ht hB.2 (AX_up hA1) hK hS (Or.inl ⟨hB.1.1, by simp [toldR, hB.1.2]⟩) e9 a9) (fun z hz => hS.2.2 z hz) (by decide) (by decide)) (fun t6 tq H1 locs ht hvm hw5 hB hz1 hk1 hS => ?_)
  obtain ⟨hP, hD⟩ := BX_back ht hB (AX_up hA1)
  generalize H1 = H at hP hS ⊢
  obtain ⟨hwt, hz6⟩ := hw5
  rw [hwt] at hP hD
  refine lv_aload_n hx hb d_F_told_9 rfl (lv_at hl 0 rfl) ?_
  refine lv_iload_n hx hb d_F_told_10 rfl (lv_at hl 1 rfl) ?_
  refine lv_iload_n hx hb d_F_told_11 rfl (lv_at hl 2 rfl) ?_
  have hA1 := hS.1
  refine vx_callr (vx_runV (As := [.int (x), .int (a)]) (rest := []) ⟨hx, hb, hml, hown, hts⟩ (c_F_existing l hl0 D ad ka sa H.size t x a) (cwV 2 hts (gv mw_358 mw_360 (big_sel (i := 1) (by decide +kernel) (by decide +kernel)) mw_1 mw_361) rfl rfl rfl (by decide +kernel) ⟨Nat.le_of_ble_eq_true rfl, Nat.le_of_ble_eq_true rfl⟩) ⟨PZ_blind, va_recv hK hP (ci := 4) (q0 := 0) rfl (at_F), fun U hU hW => ⟨rfl, PX_at hU hW hP hK hD, ZX_at hU hW hZ hS⟩⟩ rfl rfl hl.1 rfl (lv_room (Nat.le_of_ble_eq_true rfl)) d_F_told_12 ⟨Nat.le_of_ble_eq_true rfl, Nat.le_of_ble_eq_true rfl⟩) hS (fun q _ h => AX_up hA1 q h) (AX_up hA1) (fun q _ h => AX_up hA1 q h) (fun E ce q9 _ tq H1 locs ht hvm _ hB hz1 hk1 hS hce hcv hcl => vx_out (fun x hx9 => (hTb x hx9).elim) hlocks hce hcv hcl (fun t9 e9 a9 => XT_out ht hB.2 (AX_up hA1) hK hS (hB.1.elim (fun h => Or.inl ⟨h.1, by simp [toldR, hz6, h.2]⟩) (fun h => (Or.inr ⟨h.1, by simp [toldR, hz6, h.2.1, h.2.2]⟩))) e9 a9) (fun z hz => hS.2.2 z hz) (by decide) (by decide)) (fun t9 r7 tq H1 locs ht hvm hw8 hB hz1 hk1 hS => ?_)
  obtain ⟨hra, hB⟩ := hB
  obtain ⟨hP, hD⟩ := BX_back ht hB (AX_up hA1)
  generalize H1 = H at hP hS ⊢
  obtain ⟨u, a0⟩ := t9
  have hu : u < 3 := hw8.1
  have ha0 : a0 < 12 := hw8.2.1
  have hxu : x = nI u := hw8.2.2.1
  have hau : a = nI a0 := hw8.2.2.2.1
  have hpl : ¬ plz x a = 0 := hw8.2.2.2.2.1
  have hst : ¬ gI t 0 (12 * u + a0) = -1 := hw8.2.2.2.2.2
  have hcx : cl x = u := cl_of hxu (by omega)
  have hca : cl a = a0 := cl_of hau (by omega)
  have hj : jj x a = 12 * u + a0 := by rw [jj, hcx, hca]
  have hra2 : r7 = ad (60 + (12 * u + a0)) := hra
  rw [hra2]
  refine lv_astore (lv' := [(4, .ref (ad (60 + (12 * u + a0)))), (0, .ref (ad (0))), (1, .int (x)), (2, .int (a)), (3, .int (w))]) hx hb d_F_told_15 hl (by decide) rfl (fun ls hl => ?_)
  refine lv_iload_n hx hb d_F_told_17 rfl (lv_at hl 4 rfl) ?_
  by_cases k10 : w = 0
  · have _u : True := trivial
    refine lv_tableIn (off := 30) (tgt := 48) hx hb d_F_told_18 (by rw [k10]; decide) (by rw [k10]; decide) (by rw [k10]; decide) (by decide) ?_
    refine lv_aload hx hb d_F_told_48 (lv_at hl 0 rfl) ?_
    refine g_S_state hx hb hts hown hK hP (by omega) mw_38 d_F_told_50 ?_
    refine vx_ret (W.widen (k := 3) (n := 18) (by decide) (by decide) ?_)
    exact W.iret (v := gI t 0 (12 * u + a0)) hx hb hr (fun t9 ht hW => ⟨⟨gI t 0 (12 * u + a0), t, rfl, (by simp [toldR, gI_pI, gI_pD, gD_pI, gD_pD, hpl, hj, hcx, hca, toldV, hz6, k10, hst] <;> decide), BX_at ht hW hP hK hD⟩, hS.F ht⟩) hS.2.2 d_F_told_53
  by_cases k11 : w = 1
  · have _u : True := trivial
    refine lv_tableIn (off := 36) (tgt := 54) hx hb d_F_told_18 (by rw [k11]; decide) (by rw [k11]; decide) (by rw [k11]; decide) (by decide) ?_
    refine lv_aload hx hb d_F_told_54 (lv_at hl 0 rfl) ?_
    refine g_S_way hx hb hts hown hK hP (by omega) mw_41 d_F_told_56 ?_
    refine vx_ret (W.widen (k := 3) (n := 18) (by decide) (by decide) ?_)
    exact W.iret (v := gI t 1 (12 * u + a0)) hx hb hr (fun t9 ht hW => ⟨⟨gI t 1 (12 * u + a0), t, rfl, (by simp [toldR, gI_pI, gI_pD, gD_pI, gD_pD, hpl, hj, hcx, hca, toldV, hz6, k10, k11, hst] <;> decide), BX_at ht hW hP hK hD⟩, hS.F ht⟩) hS.2.2 d_F_told_59
  by_cases k12 : w = 2
  · have _u : True := trivial
    refine lv_tableIn (off := 42) (tgt := 60) hx hb d_F_told_18 (by rw [k12]; decide) (by rw [k12]; decide) (by rw [k12]; decide) (by decide) ?_
    refine lv_aload hx hb d_F_told_60 (lv_at hl 0 rfl) ?_
    refine g_S_moderates hx hb hts hown hK hP (by omega) mw_53 d_F_told_62 ?_
    refine lv_if_eq (tgt := 72) hx hb d_F_told_65 (by decide) (fun c13 => ?_) (fun c13 => ?_)
    · have _u : True := trivial
      refine lv_iconst (v := 0) hx hb d_F_told_72 (by decide) ?_
      refine vx_ret (W.widen (k := 3) (n := 18) (by decide) (by decide) ?_)
      exact W.iret (v := 0) hx hb hr (fun t9 ht hW => ⟨⟨0, t, rfl, (by simp [toldR, gI_pI, gI_pD, gD_pI, gD_pD, hpl, hj, hcx, hca, toldV, hz6, k10, k11, k12, c13, hst] <;> decide), BX_at ht hW hP hK hD⟩, hS.F ht⟩) hS.2.2 d_F_told_73
    · have _u : True := trivial
      refine lv_iconst (v := 1) hx hb d_F_told_68 (by decide) ?_
      refine lv_goto (tgt := 73) hx hb d_F_told_69 (by decide) ?_
      refine vx_ret (W.widen (k := 3) (n := 18) (by decide) (by decide) ?_)
      exact W.iret (v := 1) hx hb hr (fun t9 ht hW => ⟨⟨1, t, rfl, (by simp [toldR, gI_pI, gI_pD, gD_pI, gD_pD, hpl, hj, hcx, hca, toldV, hz6, k10, k11, k12, c13, hst] <;> decide), BX_at ht hW hP hK hD⟩, hS.F ht⟩) hS.2.2 d_F_told_73
  by_cases k14 : w = 3
  · have _u : True := trivial
    refine lv_tableIn (off := 56) (tgt := 74) hx hb d_F_told_18 (by rw [k14]; decide) (by rw [k14]; decide) (by rw [k14]; decide) (by decide) ?_
    refine lv_aload hx hb d_F_told_74 (lv_at hl 0 rfl) ?_
    refine g_S_warning hx hb hts hown hK hP (by omega) mw_48 d_F_told_76 ?_
    refine vx_ret (W.widen (k := 3) (n := 18) (by decide) (by decide) ?_)
    exact W.iret (v := gI t 4 (12 * u + a0)) hx hb hr (fun t9 ht hW => ⟨⟨gI t 4 (12 * u + a0), t, rfl, (by simp [toldR, gI_pI, gI_pD, gD_pI, gD_pD, hpl, hj, hcx, hca, toldV, hz6, k10, k11, k12, k14, hst] <;> decide), BX_at ht hW hP hK hD⟩, hS.F ht⟩) hS.2.2 d_F_told_79
  refine lv_tableOut (tgt := 80) hx hb d_F_told_18 (by have ek10 := lv_neT (a := 0) k10 rfl; have ek11 := lv_neT (a := 1) k11 rfl; have ek12 := lv_neT (a := 2) k12 rfl; have ek14 := lv_neT (a := 3) k14 rfl; omega) (by decide) ?_
  refine lv_aload hx hb d_F_told_80 (lv_at hl 0 rfl) ?_
  refine g_S_since hx hb hts hown hK hP (by omega) mw_45 d_F_told_82 ?_
  refine vx_ret (W.widen (k := 3) (n := 18) (by decide) (by decide) ?_)
  exact W.iret (v := gI t 3 (12 * u + a0)) hx hb hr (fun t9 ht hW => ⟨⟨gI t 3 (12 * u + a0), t, rfl, (by simp [toldR, gI_pI, gI_pD, gD_pI, gD_pD, hpl, hj, hcx, hca, toldV, hz6, k10, k11, k12, k14, hst] <;> decide), BX_at ht hW hP hK hD⟩, hS.F ht⟩) hS.2.2 d_F_told_85
set_option maxHeartbeats 4000000 in
set_option maxRecDepth 100000 in
theorem c_F_sent (l : Launch) (hl0 : l.stackTraces = false) (D : va_G) (ad : Nat → Nat) (ka : Nat → ClassId) (sa : Nat → Nat) (sz : Nat) (t : Mem) (ho : OKX t) (k w : Int32) : vx_Met l y_F_sent (Cond.code y_F_sent b_F_sent 3 (some .int) :: big) ({ frames := 7, cells := 2, slots := 12, locals := 102 }) (va_Pc [.ref (ad (0)), .int (k), .int (w)] (PZ D ad ka sa sz t)) (va_Qi (fun (r : Int32) (t' : Mem) => sentR t k w = (0, r, t')) (BX D ad ka sz) (AX ad sz)) (XT D ad ka sz t (fun E => (E = e_IAE ∧ (sentR t k w).1 = 1) ∨ (E = e_IOE ∧ (sentR t k w).1 = 2))) 2 12 (AX ad sz) := by
  refine vx_ofW (cc := b_F_sent) (maxL := 3) (ret := (some .int)) (by decide) rfl ?_
  intro p e s m args below meth c s₁ B hml hTb hv
  obtain ⟨rfl, ⟨hsz, hP, hK, hD0⟩, hZ⟩ := hv
  have hx := B.exec
  have hb := B.bytes
  have hr := B.returns
  have hlocks := B.notSynchronized
  have hts := atoms_spec (ws := Cond.code y_F_sent b_F_sent 3 (some .int) :: big) B.pre
  have hown : s.vm.findClass "ListForge" = some m.cls := findClass_of_methodNamed B.named
  subst hsz
  have hD : va_D (AX ad s.heap.size) (cw ad ka t) := AX_D hD0
  have hS : va_S (AX ad s.heap.size) s.heap s.heap [] := va_S.rf
  have hl := lv_entry ([.ref (ad (0)), .int (k), .int (w)]) (n := 3) (Nat.le_of_ble_eq_true rfl)
  rw [lg_entry_eq]
  generalize (lg_sl ([.ref (ad (0)), .int (k), .int (w)]) ++ List.replicate (3 - (lg_sl ([.ref (ad (0)), .int (k), .int (w)])).length) Slot.unset).toArray = ls at hl ⊢
  have hl : lv_has ls 3 [(0, .ref (ad (0))), (1, .int (k)), (2, .int (w))] := hl

  obtain ⟨k9, hk0, hk⟩ := OKX_kept ho
  refine lv_iload_n hx hb d_F_sent_0 rfl (lv_at hl 2 rfl) ?_
  refine lv_iconst (v := 0) hx hb d_F_sent_1 (by decide) ?_
  refine lv_iconst (v := 3) hx hb d_F_sent_2 (by decide) ?_
  have hA1 := hS.1
  refine va_calli (va_runS (As := [.int (w), .int (0), .int (3)]) (rest := []) ⟨hx, hb, hml, hown, hts⟩ (c_F_isWithin l D ad ka s.heap.size t w 0 3) (cwS 3 hts (gs mw_207 mw_208 mw_1 mw_209) rfl rfl rfl (by decide +kernel) ⟨Nat.le_of_ble_eq_true rfl, Nat.le_of_ble_eq_true rfl⟩) ⟨PX_blind, fun U hU hW => ⟨rfl, PX_at hU hW hP hK hD⟩⟩ rfl rfl hl.1 rfl (lv_room (Nat.le_of_ble_eq_true rfl)) d_F_sent_3 ⟨Nat.le_of_ble_eq_true rfl, Nat.le_of_ble_eq_true rfl⟩) hS (fun q _ h => AX_up hA1 q h) (AX_up hA1) (fun r1 t3 tq H1 locs ht hvm hw2 hB hz1 hk1 hS => ?_)
  obtain ⟨hP, hD⟩ := BX_back ht hB (AX_up hA1)
  generalize H1 = H at hP hS ⊢
  obtain ⟨hwr, hwt⟩ := hw2
  rw [hwt] at hP hD
  rw [hwr]
  have hA1 := hS.1
  refine vx_callv (vx_runS (As := [.int (isW w 0 3)]) (rest := []) ⟨hx, hb, hml, hown, hts⟩ (c_F_require l hl0 D ad ka sa H.size t (isW w 0 3)) (cwS 1 hts (gs mw_210 mw_211 mw_1 mw_212) rfl rfl rfl (by decide +kernel) ⟨Nat.le_of_ble_eq_true rfl, Nat.le_of_ble_eq_true rfl⟩) ⟨PZ_blind, fun U hU hW => ⟨rfl, PX_at hU hW hP hK hD, ZX_at hU hW hZ hS⟩⟩ rfl rfl hl.1 rfl (lv_room (Nat.le_of_ble_eq_true rfl)) d_F_sent_6 ⟨Nat.le_of_ble_eq_true rfl, Nat.le_of_ble_eq_true rfl⟩) hS (fun q _ h => AX_up hA1 q h) (AX_up hA1) (fun q _ h => AX_up hA1 q h) (fun E ce q9 _ tq H1 locs ht hvm _ hB hz1 hk1 hS hce hcv hcl => vx_out (fun x hx9 => (hTb x hx9).elim) hlocks hce hcv hcl (fun t9 e9 a9 => XT_out ht hB.2 (AX_up hA1) hK hS (Or.inl ⟨hB.1.1, by simp [sentR, hB.1.2]⟩) e9 a9) (fun z hz => hS.2.2 z hz) (by decide) (by decide)) (fun t6 tq H1 locs ht hvm hw5 hB hz1 hk1 hS => ?_)
  obtain ⟨hP, hD⟩ := BX_back ht hB (AX_up hA1)
  generalize H1 = H at hP hS ⊢
  obtain ⟨hwt, hz6⟩ := hw5
  rw [hwt] at hP hD
  refine lv_iload_n hx hb d_F_sent_9 rfl (lv_at hl 1 rfl) ?_
  refine lv_iconst (v := 0) hx hb d_F_sent_10 (by decide) ?_
  refine lv_aload_n hx hb d_F_sent_11 rfl (lv_at hl 0 rfl) ?_
  refine g_F_outbox hx hb hts hown hK hP mw_177 d_F_sent_12 ?_
  refine g_O_kept hx hb hts hown hK hP mw_158 d_F_sent_15 ?_
  refine lv_iconst (v := 1) hx hb d_F_sent_18 (by decide) ?_
  refine lv_isub hx hb d_F_sent_19 ?_
  have hA1 := hS.1
  refine va_calli (va_runS (As := [.int (k), .int (0), .int ((gI t 28 0) - 1)]) (rest := []) ⟨hx, hb, hml, hown, hts⟩ (c_F_isWithin l D ad ka H.size t k 0 ((gI t 28 0) - 1)) (cwS 3 hts (gs mw_207 mw_208 mw_1 mw_209) rfl rfl rfl (by decide +kernel) ⟨Nat.le_of_ble_eq_true rfl, Nat.le_of_ble_eq_true rfl⟩) ⟨PX_blind, fun U hU hW => ⟨rfl, PX_at hU hW hP hK hD⟩⟩ rfl rfl hl.1 rfl (lv_room (Nat.le_of_ble_eq_true rfl)) d_F_sent_20 ⟨Nat.le_of_ble_eq_true rfl, Nat.le_of_ble_eq_true rfl⟩) hS (fun q _ h => AX_up hA1 q h) (AX_up hA1) (fun r7 t9 tq H1 locs ht hvm hw8 hB hz1 hk1 hS => ?_)
  obtain ⟨hP, hD⟩ := BX_back ht hB (AX_up hA1)
  generalize H1 = H at hP hS ⊢
  obtain ⟨hwr, hwt⟩ := hw8
  rw [hwt] at hP hD
  rw [hwr]
  refine lv_if_ne (tgt := 36) hx hb d_F_sent_23 (by decide) (fun c10 => ?_) (fun c10 => ?_)
  · have _u : True := trivial
    obtain ⟨q, hq, hkq⟩ := isW_k hk0 (by rw [← hk]; exact c10)
    have hcq : cl k = q := cl_of hkq (by omega)
    refine lv_iload_n hx hb d_F_sent_36 rfl (lv_at hl 2 rfl) ?_
    by_cases k11 : w = 0
    · have _u : True := trivial
      refine lv_tableIn (off := 27) (tgt := 64) hx hb d_F_sent_37 (by rw [k11]; decide) (by rw [k11]; decide) (by rw [k11]; decide) (by decide) ?_
      refine lv_aload_n hx hb d_F_sent_64 rfl (lv_at hl 0 rfl) ?_
      refine g_F_outbox hx hb hts hown hK hP mw_177 d_F_sent_65 ?_
      refine g_O_addresses hx hb hts hown hK hP mw_150 d_F_sent_68 ?_
      refine lv_iload_n hx hb d_F_sent_71 rfl (lv_at hl 1 rfl) ?_
      refine g_out (u := 0) hx hb hK hP (by decide) (r := q) (by omega) hkq d_F_sent_72 ?_
      refine vx_ret (W.widen (k := 2) (n := 12) (by decide) (by decide) ?_)
      exact W.iret (v := gI t (1004 + 0) q) hx hb hr (fun t9 ht hW => ⟨⟨gI t (1004 + 0) q, t, rfl, (by simp [sentR, hz6, hcq, c10, k11] <;> decide), BX_at ht hW hP hK hD⟩, hS.F ht⟩) hS.2.2 d_F_sent_73
    by_cases k12 : w = 1
    · have _u : True := trivial
      refine lv_tableIn (off := 37) (tgt := 74) hx hb d_F_sent_37 (by rw [k12]; decide) (by rw [k12]; decide) (by rw [k12]; decide) (by decide) ?_
      refine lv_aload_n hx hb d_F_sent_74 rfl (lv_at hl 0 rfl) ?_
      refine g_F_outbox hx hb hts hown hK hP mw_177 d_F_sent_75 ?_
      refine g_O_lists hx hb hts hown hK hP mw_152 d_F_sent_78 ?_
      refine lv_iload_n hx hb d_F_sent_81 rfl (lv_at hl 1 rfl) ?_
      refine g_out (u := 1) hx hb hK hP (by decide) (r := q) (by omega) hkq d_F_sent_82 ?_
      refine vx_ret (W.widen (k := 2) (n := 12) (by decide) (by decide) ?_)
      exact W.iret (v := gI t (1004 + 1) q) hx hb hr (fun t9 ht hW => ⟨⟨gI t (1004 + 1) q, t, rfl, (by simp [sentR, hz6, hcq, c10, k11, k12] <;> decide), BX_at ht hW hP hK hD⟩, hS.F ht⟩) hS.2.2 d_F_sent_83
    by_cases k13 : w = 2
    · have _u : True := trivial
      refine lv_tableIn (off := 47) (tgt := 84) hx hb d_F_sent_37 (by rw [k13]; decide) (by rw [k13]; decide) (by rw [k13]; decide) (by decide) ?_
      refine lv_aload_n hx hb d_F_sent_84 rfl (lv_at hl 0 rfl) ?_
      refine g_F_outbox hx hb hts hown hK hP mw_177 d_F_sent_85 ?_
      refine g_O_sorts hx hb hts hown hK hP mw_154 d_F_sent_88 ?_
      refine lv_iload_n hx hb d_F_sent_91 rfl (lv_at hl 1 rfl) ?_
      refine g_out (u := 2) hx hb hK hP (by decide) (r := q) (by omega) hkq d_F_sent_92 ?_
      refine vx_ret (W.widen (k := 2) (n := 12) (by decide) (by decide) ?_)
      exact W.iret (v := gI t (1004 + 2) q) hx hb hr (fun t9 ht hW => ⟨⟨gI t (1004 + 2) q, t, rfl, (by simp [sentR, hz6, hcq, c10, k11, k12, k13] <;> decide), BX_at ht hW hP hK hD⟩, hS.F ht⟩) hS.2.2 d_F_sent_93
    refine lv_tableOut (tgt := 94) hx hb d_F_sent_37 (by have ek11 := lv_neT (a := 0) k11 rfl; have ek12 := lv_neT (a := 1) k12 rfl; have ek13 := lv_neT (a := 2) k13 rfl; omega) (by decide) ?_
    refine lv_aload_n hx hb d_F_sent_94 rfl (lv_at hl 0 rfl) ?_
    refine g_F_outbox hx hb hts hown hK hP mw_177 d_F_sent_95 ?_
    refine g_O_numbers hx hb hts hown hK hP mw_156 d_F_sent_98 ?_
    refine lv_iload_n hx hb d_F_sent_101 rfl (lv_at hl 1 rfl) ?_
    refine g_out (u := 3) hx hb hK hP (by decide) (r := q) (by omega) hkq d_F_sent_102 ?_
    refine vx_ret (W.widen (k := 2) (n := 12) (by decide) (by decide) ?_)
    exact W.iret (v := gI t (1004 + 3) q) hx hb hr (fun t9 ht hW => ⟨⟨gI t (1004 + 3) q, t, rfl, (by simp [sentR, hz6, hcq, c10, k11, k12, k13] <;> decide), BX_at ht hW hP hK hD⟩, hS.F ht⟩) hS.2.2 d_F_sent_103
  · have _u : True := trivial
    exact vx_throwS (names := RTE) (own := "ListForge") (cls := e_IOE) (text := "nothing is kept there") hx hb hl0 hown (by decide) (by decide) (bg hts mw_549) (bg hts mw_14) (hZ.2.2.2 (209, "nothing is kept there") (by decide)) (hatO hts hZ.1 ag_IOE an_IOE) ao_IOE hZ.2.1 hZ.2.2.1 hS (by rw [hml]; exact hl.1) d_F_sent_26 d_F_sent_29 d_F_sent_30 d_F_sent_32 d_F_sent_35 (fun x hx9 => (hTb x hx9).elim) (by decide) (Nat.le_of_ble_eq_true rfl) (by decide) (by decide) hlocks (fun t9 a9 z9 k9 => XT_at hP hK hD hS (Or.inr ⟨rfl, by simp [sentR, hz6, c10]⟩) a9 z9 k9) (fun z hz => hS.2.2 z hz) (by decide) (by decide)
set_option maxHeartbeats 4000000 in
set_option maxRecDepth 100000 in
theorem c_F_setting (l : Launch) (hl0 : l.stackTraces = false) (D : va_G) (ad : Nat → Nat) (ka : Nat → ClassId) (sa : Nat → Nat) (sz : Nat) (t : Mem) (x w : Int32) (v : UInt64) : vx_Met l y_F_setting (Cond.code y_F_setting b_F_setting 6 (some .double) :: big) ({ frames := 7, cells := 2, slots := 12, locals := 102 }) (va_Pc [.ref (ad (0)), .int (x), .int (w), .double (v)] (PZ D ad ka sa sz t)) (va_Qd (fun (r : UInt64) (t' : Mem) => setR t x w v = (0, r, t')) (BX D ad ka sz) (AX ad sz)) (XT D ad ka sz t (fun E => (E = e_IAE ∧ (setR t x w v).1 = 1))) 2 12 (AX ad sz) := by
  refine vx_ofW (cc := b_F_setting) (maxL := 6) (ret := (some .double)) (by decide) rfl ?_
  intro p e s m args below meth c s₁ B hml hTb hv
  obtain ⟨rfl, ⟨hsz, hP, hK, hD0⟩, hZ⟩ := hv
  have hx := B.exec
  have hb := B.bytes
  have hr := B.returns
  have hlocks := B.notSynchronized
  have hts := atoms_spec (ws := Cond.code y_F_setting b_F_setting 6 (some .double) :: big) B.pre
  have hown : s.vm.findClass "ListForge" = some m.cls := findClass_of_methodNamed B.named
  subst hsz
  have hD : va_D (AX ad s.heap.size) (cw ad ka t) := AX_D hD0
  have hS : va_S (AX ad s.heap.size) s.heap s.heap [] := va_S.rf
  have hl := lv_entry ([.ref (ad (0)), .int (x), .int (w), .double (v)]) (n := 6) (Nat.le_of_ble_eq_true rfl)
  rw [lg_entry_eq]
  generalize (lg_sl ([.ref (ad (0)), .int (x), .int (w), .double (v)]) ++ List.replicate (6 - (lg_sl ([.ref (ad (0)), .int (x), .int (w), .double (v)])).length) Slot.unset).toArray = ls at hl ⊢
  have hl : lv_has ls 6 [(0, .ref (ad (0))), (1, .int (x)), (2, .int (w)), (3, .double (v))] := hl

  refine lv_iload_n hx hb d_F_setting_0 rfl (lv_at hl 1 rfl) ?_
  refine lv_iconst (v := 0) hx hb d_F_setting_1 (by decide) ?_
  refine lv_iconst (v := 2) hx hb d_F_setting_2 (by decide) ?_
  have hA1 := hS.1
  refine va_calli (va_runS (As := [.int (x), .int (0), .int (2)]) (rest := []) ⟨hx, hb, hml, hown, hts⟩ (c_F_isWithin l D ad ka s.heap.size t x 0 2) (cwS 3 hts (gs mw_207 mw_208 mw_1 mw_209) rfl rfl rfl (by decide +kernel) ⟨Nat.le_of_ble_eq_true rfl, Nat.le_of_ble_eq_true rfl⟩) ⟨PX_blind, fun U hU hW => ⟨rfl, PX_at hU hW hP hK hD⟩⟩ rfl rfl hl.1 rfl (lv_room (Nat.le_of_ble_eq_true rfl)) d_F_setting_3 ⟨Nat.le_of_ble_eq_true rfl, Nat.le_of_ble_eq_true rfl⟩) hS (fun q _ h => AX_up hA1 q h) (AX_up hA1) (fun r1 t3 tq H1 locs ht hvm hw2 hB hz1 hk1 hS => ?_)
  obtain ⟨hP, hD⟩ := BX_back ht hB (AX_up hA1)
  generalize H1 = H at hP hS ⊢
  obtain ⟨hwr, hwt⟩ := hw2
  rw [hwt] at hP hD
  rw [hwr]
  have hA1 := hS.1
  refine vx_callv (vx_runS (As := [.int (isW x 0 2)]) (rest := []) ⟨hx, hb, hml, hown, hts⟩ (c_F_require l hl0 D ad ka sa H.size t (isW x 0 2)) (cwS 1 hts (gs mw_210 mw_211 mw_1 mw_212) rfl rfl rfl (by decide +kernel) ⟨Nat.le_of_ble_eq_true rfl, Nat.le_of_ble_eq_true rfl⟩) ⟨PZ_blind, fun U hU hW => ⟨rfl, PX_at hU hW hP hK hD, ZX_at hU hW hZ hS⟩⟩ rfl rfl hl.1 rfl (lv_room (Nat.le_of_ble_eq_true rfl)) d_F_setting_6 ⟨Nat.le_of_ble_eq_true rfl, Nat.le_of_ble_eq_true rfl⟩) hS (fun q _ h => AX_up hA1 q h) (AX_up hA1) (fun q _ h => AX_up hA1 q h) (fun E ce q9 _ tq H1 locs ht hvm _ hB hz1 hk1 hS hce hcv hcl => vx_out (fun x hx9 => (hTb x hx9).elim) hlocks hce hcv hcl (fun t9 e9 a9 => XT_out ht hB.2 (AX_up hA1) hK hS ⟨hB.1.1, by simp [setR, bstD, hB.1.2]⟩ e9 a9) (fun z hz => hS.2.2 z hz) (by decide) (by decide)) (fun t6 tq H1 locs ht hvm hw5 hB hz1 hk1 hS => ?_)
  obtain ⟨hP, hD⟩ := BX_back ht hB (AX_up hA1)
  generalize H1 = H at hP hS ⊢
  obtain ⟨hwt, hz6⟩ := hw5
  rw [hwt] at hP hD
  obtain ⟨u, hu, hxu⟩ := isW_n (n := 2) (by decide) hz6
  have hcx : cl x = u := cl_of hxu (by omega)
  refine lv_aload_n hx hb d_F_setting_9 rfl (lv_at hl 0 rfl) ?_
  refine g_F_lists hx hb hts hown hK hP mw_175 d_F_setting_10 ?_
  refine lv_iload_n hx hb d_F_setting_13 rfl (lv_at hl 1 rfl) ?_
  refine a_lists hx hb hK hP (r := u) hu hxu d_F_setting_14 ?_
  refine lv_astore (lv' := [(5, .ref (ad (8 + u))), (0, .ref (ad (0))), (1, .int (x)), (2, .int (w)), (3, .double (v))]) hx hb d_F_setting_15 hl (by decide) rfl (fun ls hl => ?_)
  refine lv_iload_n hx hb d_F_setting_17 rfl (lv_at hl 3 rfl) ?_
  by_cases k7 : w = 0
  · have _u : True := trivial
    refine lv_tableIn (off := 34) (tgt := 52) hx hb d_F_setting_18 (by rw [k7]; decide) (by rw [k7]; decide) (by rw [k7]; decide) (by decide) ?_
    refine lv_aload hx hb d_F_setting_52 (lv_at hl 0 rfl) ?_
    refine lv_dload_n hx hb d_F_setting_54 rfl (lv_at hl 4 rfl) ?_
    refine lv_dconst0 hx hb d_F_setting_55 ?_
    refine lv_dcmp hx hb d_F_setting_56 ?_
    refine lv_if_eq (tgt := 64) hx hb d_F_setting_57 (by decide) (fun c8 => ?_) (fun c8 => ?_)
    · have _u : True := trivial
      refine lv_iconst (v := 0) hx hb d_F_setting_64 (by decide) ?_
      have hA1 := hS.1
      refine va_calld (va_runV (As := [.int (0)]) (rest := []) ⟨hx, hb, hml, hown, hts⟩ (c_L_changeOpen l D ad ka H.size t u hu 0 b01_0) (cwV 1 hts (gv mw_396 mw_397 mw_398 mw_2 mw_399) rfl rfl rfl (by decide +kernel) ⟨Nat.le_of_ble_eq_true rfl, Nat.le_of_ble_eq_true rfl⟩) ⟨PX_blind, va_recv hK hP (ci := 0) (q0 := 8 + u) rfl (at_L hu), fun U hU hW => ⟨rfl, PX_at hU hW hP hK hD⟩⟩ rfl rfl hl.1 rfl (lv_room (Nat.le_of_ble_eq_true rfl)) d_F_setting_65 ⟨Nat.le_of_ble_eq_true rfl, Nat.le_of_ble_eq_true rfl⟩) hS (fun q _ h => AX_up hA1 q h) (AX_up hA1) (fun r9 t11 tq H1 locs ht hvm hw10 hB hz1 hk1 hS => ?_)
      obtain ⟨hP, hD⟩ := BX_back ht hB (AX_up hA1)
      generalize H1 = H at hP hS ⊢
      obtain ⟨hwr, hwt⟩ := hw10
      rw [hwt] at hP hD
      rw [hwr]
      refine vx_ret (W.widen (k := 2) (n := 12) (by decide) (by decide) ?_)
      exact W.dret (v := bd (gI t 10 u)) hx hb hr (fun t9 ht hW => ⟨⟨bd (gI t 10 u), (pI t 10 u 0), rfl, (by simp [setR, hz6, hcx, nzD, bstD, k7, c8]), BX_at ht hW hP hK hD⟩, hS.F ht⟩) hS.2.2 d_F_setting_68
    · have _u : True := trivial
      refine lv_iconst (v := 1) hx hb d_F_setting_60 (by decide) ?_
      refine lv_goto (tgt := 65) hx hb d_F_setting_61 (by decide) ?_
      have hA1 := hS.1
      refine va_calld (va_runV (As := [.int (1)]) (rest := []) ⟨hx, hb, hml, hown, hts⟩ (c_L_changeOpen l D ad ka H.size t u hu 1 b01_1) (cwV 1 hts (gv mw_396 mw_397 mw_398 mw_2 mw_399) rfl rfl rfl (by decide +kernel) ⟨Nat.le_of_ble_eq_true rfl, Nat.le_of_ble_eq_true rfl⟩) ⟨PX_blind, va_recv hK hP (ci := 0) (q0 := 8 + u) rfl (at_L hu), fun U hU hW => ⟨rfl, PX_at hU hW hP hK hD⟩⟩ rfl rfl hl.1 rfl (lv_room (Nat.le_of_ble_eq_true rfl)) d_F_setting_65 ⟨Nat.le_of_ble_eq_true rfl, Nat.le_of_ble_eq_true rfl⟩) hS (fun q _ h => AX_up hA1 q h) (AX_up hA1) (fun r12 t14 tq H1 locs ht hvm hw13 hB hz1 hk1 hS => ?_)
      obtain ⟨hP, hD⟩ := BX_back ht hB (AX_up hA1)
      generalize H1 = H at hP hS ⊢
      obtain ⟨hwr, hwt⟩ := hw13
      rw [hwt] at hP hD
      rw [hwr]
      refine vx_ret (W.widen (k := 2) (n := 12) (by decide) (by decide) ?_)
      exact W.dret (v := bd (gI t 10 u)) hx hb hr (fun t9 ht hW => ⟨⟨bd (gI t 10 u), (pI t 10 u 1), rfl, (by simp [setR, hz6, hcx, nzD, bstD, k7, c8]), BX_at ht hW hP hK hD⟩, hS.F ht⟩) hS.2.2 d_F_setting_68
  by_cases k15 : w = 1
  · have _u : True := trivial
    refine lv_tableIn (off := 51) (tgt := 69) hx hb d_F_setting_18 (by rw [k15]; decide) (by rw [k15]; decide) (by rw [k15]; decide) (by decide) ?_
    refine lv_aload hx hb d_F_setting_69 (lv_at hl 0 rfl) ?_
    refine lv_dload_n hx hb d_F_setting_71 rfl (lv_at hl 4 rfl) ?_
    refine lv_dconst0 hx hb d_F_setting_72 ?_
    refine lv_dcmp hx hb d_F_setting_73 ?_
    refine lv_if_eq (tgt := 81) hx hb d_F_setting_74 (by decide) (fun c16 => ?_) (fun c16 => ?_)
    · have _u : True := trivial
      refine lv_iconst (v := 0) hx hb d_F_setting_81 (by decide) ?_
      have hA1 := hS.1
      refine va_calld (va_runV (As := [.int (0)]) (rest := []) ⟨hx, hb, hml, hown, hts⟩ (c_L_changeWatched l D ad ka H.size t u hu 0 b01_0) (cwV 1 hts (gv mw_400 mw_401 mw_402 mw_2 mw_403) rfl rfl rfl (by decide +kernel) ⟨Nat.le_of_ble_eq_true rfl, Nat.le_of_ble_eq_true rfl⟩) ⟨PX_blind, va_recv hK hP (ci := 0) (q0 := 8 + u) rfl (at_L hu), fun U hU hW => ⟨rfl, PX_at hU hW hP hK hD⟩⟩ rfl rfl hl.1 rfl (lv_room (Nat.le_of_ble_eq_true rfl)) d_F_setting_82 ⟨Nat.le_of_ble_eq_true rfl, Nat.le_of_ble_eq_true rfl⟩) hS (fun q _ h => AX_up hA1 q h) (AX_up hA1) (fun r17 t19 tq H1 locs ht hvm hw18 hB hz1 hk1 hS => ?_)
      obtain ⟨hP, hD⟩ := BX_back ht hB (AX_up hA1)
      generalize H1 = H at hP hS ⊢
      obtain ⟨hwr, hwt⟩ := hw18
      rw [hwt] at hP hD
      rw [hwr]
      refine vx_ret (W.widen (k := 2) (n := 12) (by decide) (by decide) ?_)
      exact W.dret (v := bd (gI t 11 u)) hx hb hr (fun t9 ht hW => ⟨⟨bd (gI t 11 u), (pI t 11 u 0), rfl, (by simp [setR, hz6, hcx, nzD, bstD, k7, k15, c16]), BX_at ht hW hP hK hD⟩, hS.F ht⟩) hS.2.2 d_F_setting_85
    · have _u : True := trivial
      refine lv_iconst (v := 1) hx hb d_F_setting_77 (by decide) ?_
      refine lv_goto (tgt := 82) hx hb d_F_setting_78 (by decide) ?_
      have hA1 := hS.1
      refine va_calld (va_runV (As := [.int (1)]) (rest := []) ⟨hx, hb, hml, hown, hts⟩ (c_L_changeWatched l D ad ka H.size t u hu 1 b01_1) (cwV 1 hts (gv mw_400 mw_401 mw_402 mw_2 mw_403) rfl rfl rfl (by decide +kernel) ⟨Nat.le_of_ble_eq_true rfl, Nat.le_of_ble_eq_true rfl⟩) ⟨PX_blind, va_recv hK hP (ci := 0) (q0 := 8 + u) rfl (at_L hu), fun U hU hW => ⟨rfl, PX_at hU hW hP hK hD⟩⟩ rfl rfl hl.1 rfl (lv_room (Nat.le_of_ble_eq_true rfl)) d_F_setting_82 ⟨Nat.le_of_ble_eq_true rfl, Nat.le_of_ble_eq_true rfl⟩) hS (fun q _ h => AX_up hA1 q h) (AX_up hA1) (fun r20 t22 tq H1 locs ht hvm hw21 hB hz1 hk1 hS => ?_)
      obtain ⟨hP, hD⟩ := BX_back ht hB (AX_up hA1)
      generalize H1 = H at hP hS ⊢
      obtain ⟨hwr, hwt⟩ := hw21
      rw [hwt] at hP hD
      rw [hwr]
      refine vx_ret (W.widen (k := 2) (n := 12) (by decide) (by decide) ?_)
      exact W.dret (v := bd (gI t 11 u)) hx hb hr (fun t9 ht hW => ⟨⟨bd (gI t 11 u), (pI t 11 u 1), rfl, (by simp [setR, hz6, hcx, nzD, bstD, k7, k15, c16]), BX_at ht hW hP hK hD⟩, hS.F ht⟩) hS.2.2 d_F_setting_85
  by_cases k23 : w = 2
  · have _u : True := trivial
    refine lv_tableIn (off := 68) (tgt := 86) hx hb d_F_setting_18 (by rw [k23]; decide) (by rw [k23]; decide) (by rw [k23]; decide) (by decide) ?_
    refine lv_dload_n hx hb d_F_setting_86 rfl (lv_at hl 4 rfl) ?_
    refine lv_d2i hx hb d_F_setting_87 ?_
    refine lv_iconst (v := 1) hx hb d_F_setting_88 (by decide) ?_
    refine lv_sipush (v := 1000) hx hb d_F_setting_89 (by decide) ?_
    have hA1 := hS.1
    refine va_calli (va_runS (As := [.int (FP.d2i v), .int (1), .int (1000)]) (rest := []) ⟨hx, hb, hml, hown, hts⟩ (c_F_isWithin l D ad ka H.size t (FP.d2i v) 1 1000) (cwS 3 hts (gs mw_207 mw_208 mw_1 mw_209) rfl rfl rfl (by decide +kernel) ⟨Nat.le_of_ble_eq_true rfl, Nat.le_of_ble_eq_true rfl⟩) ⟨PX_blind, fun U hU hW => ⟨rfl, PX_at hU hW hP hK hD⟩⟩ rfl rfl hl.1 rfl (lv_room (Nat.le_of_ble_eq_true rfl)) d_F_setting_92 ⟨Nat.le_of_ble_eq_true rfl, Nat.le_of_ble_eq_true rfl⟩) hS (fun q _ h => AX_up hA1 q h) (AX_up hA1) (fun r24 t26 tq H1 locs ht hvm hw25 hB hz1 hk1 hS => ?_)
    obtain ⟨hP, hD⟩ := BX_back ht hB (AX_up hA1)
    generalize H1 = H at hP hS ⊢
    obtain ⟨hwr, hwt⟩ := hw25
    rw [hwt] at hP hD
    rw [hwr]
    have hA1 := hS.1
    refine vx_callv (vx_runS (As := [.int (isW (FP.d2i v) 1 1000)]) (rest := []) ⟨hx, hb, hml, hown, hts⟩ (c_F_require l hl0 D ad ka sa H.size t (isW (FP.d2i v) 1 1000)) (cwS 1 hts (gs mw_210 mw_211 mw_1 mw_212) rfl rfl rfl (by decide +kernel) ⟨Nat.le_of_ble_eq_true rfl, Nat.le_of_ble_eq_true rfl⟩) ⟨PZ_blind, fun U hU hW => ⟨rfl, PX_at hU hW hP hK hD, ZX_at hU hW hZ hS⟩⟩ rfl rfl hl.1 rfl (lv_room (Nat.le_of_ble_eq_true rfl)) d_F_setting_95 ⟨Nat.le_of_ble_eq_true rfl, Nat.le_of_ble_eq_true rfl⟩) hS (fun q _ h => AX_up hA1 q h) (AX_up hA1) (fun q _ h => AX_up hA1 q h) (fun E ce q9 _ tq H1 locs ht hvm _ hB hz1 hk1 hS hce hcv hcl => vx_out (fun x hx9 => (hTb x hx9).elim) hlocks hce hcv hcl (fun t9 e9 a9 => XT_out ht hB.2 (AX_up hA1) hK hS ⟨hB.1.1, by simp [setR, bstD, hB.1.2, hz6, k7, k15, k23]⟩ e9 a9) (fun z hz => hS.2.2 z hz) (by decide) (by decide)) (fun t29 tq H1 locs ht hvm hw28 hB hz1 hk1 hS => ?_)
    obtain ⟨hP, hD⟩ := BX_back ht hB (AX_up hA1)
    generalize H1 = H at hP hS ⊢
    obtain ⟨hwt, hz95⟩ := hw28
    rw [hwt] at hP hD
    refine lv_aload hx hb d_F_setting_98 (lv_at hl 0 rfl) ?_
    refine lv_dload_n hx hb d_F_setting_100 rfl (lv_at hl 4 rfl) ?_
    refine lv_d2i hx hb d_F_setting_101 ?_
    have hA1 := hS.1
    refine va_calld (va_runV (As := [.int (FP.d2i v)]) (rest := []) ⟨hx, hb, hml, hown, hts⟩ (c_L_changeGreatest l D ad ka H.size t u hu (FP.d2i v)) (cwV 1 hts (gv mw_404 mw_405 mw_406 mw_2 mw_407) rfl rfl rfl (by decide +kernel) ⟨Nat.le_of_ble_eq_true rfl, Nat.le_of_ble_eq_true rfl⟩) ⟨PX_blind, va_recv hK hP (ci := 0) (q0 := 8 + u) rfl (at_L hu), fun U hU hW => ⟨rfl, PX_at hU hW hP hK hD⟩⟩ rfl rfl hl.1 rfl (lv_room (Nat.le_of_ble_eq_true rfl)) d_F_setting_102 ⟨Nat.le_of_ble_eq_true rfl, Nat.le_of_ble_eq_true rfl⟩) hS (fun q _ h => AX_up hA1 q h) (AX_up hA1) (fun r30 t32 tq H1 locs ht hvm hw31 hB hz1 hk1 hS => ?_)
    obtain ⟨hP, hD⟩ := BX_back ht hB (AX_up hA1)
    generalize H1 = H at hP hS ⊢
    obtain ⟨hwr, hwt⟩ := hw31
    rw [hwt] at hP hD
    rw [hwr]
    refine vx_ret (W.widen (k := 2) (n := 12) (by decide) (by decide) ?_)
    exact W.dret (v := FP.i2d (gI t 12 u)) hx hb hr (fun t9 ht hW => ⟨⟨FP.i2d (gI t 12 u), (pI t 12 u (FP.d2i v)), rfl, (by simp [setR, hz6, hcx, nzD, bstD, k7, k15, k23, hz95]), BX_at ht hW hP hK hD⟩, hS.F ht⟩) hS.2.2 d_F_setting_105
  by_cases k33 : w = 3
  · have _u : True := trivial
    refine lv_tableIn (off := 88) (tgt := 106) hx hb d_F_setting_18 (by rw [k33]; decide) (by rw [k33]; decide) (by rw [k33]; decide) (by decide) ?_
    refine lv_dload_n hx hb d_F_setting_106 rfl (lv_at hl 4 rfl) ?_
    refine lv_d2i hx hb d_F_setting_107 ?_
    refine lv_iconst (v := 1) hx hb d_F_setting_108 (by decide) ?_
    refine lv_sipush (v := 1000) hx hb d_F_setting_109 (by decide) ?_
    have hA1 := hS.1
    refine va_calli (va_runS (As := [.int (FP.d2i v), .int (1), .int (1000)]) (rest := []) ⟨hx, hb, hml, hown, hts⟩ (c_F_isWithin l D ad ka H.size t (FP.d2i v) 1 1000) (cwS 3 hts (gs mw_207 mw_208 mw_1 mw_209) rfl rfl rfl (by decide +kernel) ⟨Nat.le_of_ble_eq_true rfl, Nat.le_of_ble_eq_true rfl⟩) ⟨PX_blind, fun U hU hW => ⟨rfl, PX_at hU hW hP hK hD⟩⟩ rfl rfl hl.1 rfl (lv_room (Nat.le_of_ble_eq_true rfl)) d_F_setting_112 ⟨Nat.le_of_ble_eq_true rfl, Nat.le_of_ble_eq_true rfl⟩) hS (fun q _ h => AX_up hA1 q h) (AX_up hA1) (fun r34 t36 tq H1 locs ht hvm hw35 hB hz1 hk1 hS => ?_)
    obtain ⟨hP, hD⟩ := BX_back ht hB (AX_up hA1)
    generalize H1 = H at hP hS ⊢
    obtain ⟨hwr, hwt⟩ := hw35
    rw [hwt] at hP hD
    rw [hwr]
    have hA1 := hS.1
    refine vx_callv (vx_runS (As := [.int (isW (FP.d2i v) 1 1000)]) (rest := []) ⟨hx, hb, hml, hown, hts⟩ (c_F_require l hl0 D ad ka sa H.size t (isW (FP.d2i v) 1 1000)) (cwS 1 hts (gs mw_210 mw_211 mw_1 mw_212) rfl rfl rfl (by decide +kernel) ⟨Nat.le_of_ble_eq_true rfl, Nat.le_of_ble_eq_true rfl⟩) ⟨PZ_blind, fun U hU hW => ⟨rfl, PX_at hU hW hP hK hD, ZX_at hU hW hZ hS⟩⟩ rfl rfl hl.1 rfl (lv_room (Nat.le_of_ble_eq_true rfl)) d_F_setting_115 ⟨Nat.le_of_ble_eq_true rfl, Nat.le_of_ble_eq_true rfl⟩) hS (fun q _ h => AX_up hA1 q h) (AX_up hA1) (fun q _ h => AX_up hA1 q h) (fun E ce q9 _ tq H1 locs ht hvm _ hB hz1 hk1 hS hce hcv hcl => vx_out (fun x hx9 => (hTb x hx9).elim) hlocks hce hcv hcl (fun t9 e9 a9 => XT_out ht hB.2 (AX_up hA1) hK hS ⟨hB.1.1, by simp [setR, bstD, hB.1.2, hz6, k7, k15, k23, k33]⟩ e9 a9) (fun z hz => hS.2.2 z hz) (by decide) (by decide)) (fun t39 tq H1 locs ht hvm hw38 hB hz1 hk1 hS => ?_)
    obtain ⟨hP, hD⟩ := BX_back ht hB (AX_up hA1)
    generalize H1 = H at hP hS ⊢
    obtain ⟨hwt, hz115⟩ := hw38
    rw [hwt] at hP hD
    refine lv_aload hx hb d_F_setting_118 (lv_at hl 0 rfl) ?_
    refine lv_dload_n hx hb d_F_setting_120 rfl (lv_at hl 4 rfl) ?_
    refine lv_d2i hx hb d_F_setting_121 ?_
    have hA1 := hS.1
    refine va_calld (va_runV (As := [.int (FP.d2i v)]) (rest := []) ⟨hx, hb, hml, hown, hts⟩ (c_L_changeFull l D ad ka H.size t u hu (FP.d2i v)) (cwV 1 hts (gv mw_408 mw_409 mw_410 mw_2 mw_411) rfl rfl rfl (by decide +kernel) ⟨Nat.le_of_ble_eq_true rfl, Nat.le_of_ble_eq_true rfl⟩) ⟨PX_blind, va_recv hK hP (ci := 0) (q0 := 8 + u) rfl (at_L hu), fun U hU hW => ⟨rfl, PX_at hU hW hP hK hD⟩⟩ rfl rfl hl.1 rfl (lv_room (Nat.le_of_ble_eq_true rfl)) d_F_setting_122 ⟨Nat.le_of_ble_eq_true rfl, Nat.le_of_ble_eq_true rfl⟩) hS (fun q _ h => AX_up hA1 q h) (AX_up hA1) (fun r40 t42 tq H1 locs ht hvm hw41 hB hz1 hk1 hS => ?_)
    obtain ⟨hP, hD⟩ := BX_back ht hB (AX_up hA1)
    generalize H1 = H at hP hS ⊢
    obtain ⟨hwr, hwt⟩ := hw41
    rw [hwt] at hP hD
    rw [hwr]
    refine vx_ret (W.widen (k := 2) (n := 12) (by decide) (by decide) ?_)
    exact W.dret (v := FP.i2d (gI t 13 u)) hx hb hr (fun t9 ht hW => ⟨⟨FP.i2d (gI t 13 u), (pI t 13 u (FP.d2i v)), rfl, (by simp [setR, hz6, hcx, nzD, bstD, k7, k15, k23, k33, hz115]), BX_at ht hW hP hK hD⟩, hS.F ht⟩) hS.2.2 d_F_setting_125
  by_cases k43 : w = 4
  · have _u : True := trivial
    refine lv_tableIn (off := 108) (tgt := 126) hx hb d_F_setting_18 (by rw [k43]; decide) (by rw [k43]; decide) (by rw [k43]; decide) (by decide) ?_
    refine lv_dload_n hx hb d_F_setting_126 rfl (lv_at hl 4 rfl) ?_
    refine lv_ldc2d (own := "ListForge") (v := 4602678819172646912) hx hb hown (bg hts mw_412) d_F_setting_127 ?_
    refine lv_dcmp hx hb d_F_setting_130 ?_
    refine lv_if_lt (tgt := 146) hx hb d_F_setting_131 (by decide) (fun c44 => ?_) (fun c44 => ?_)
    · have _u : True := trivial
      refine lv_iconst (v := 0) hx hb d_F_setting_146 (by decide) ?_
      have hA1 := hS.1
      refine vx_callv (vx_runS (As := [.int (0)]) (rest := []) ⟨hx, hb, hml, hown, hts⟩ (c_F_require l hl0 D ad ka sa H.size t 0) (cwS 1 hts (gs mw_210 mw_211 mw_1 mw_212) rfl rfl rfl (by decide +kernel) ⟨Nat.le_of_ble_eq_true rfl, Nat.le_of_ble_eq_true rfl⟩) ⟨PZ_blind, fun U hU hW => ⟨rfl, PX_at hU hW hP hK hD, ZX_at hU hW hZ hS⟩⟩ rfl rfl hl.1 rfl (lv_room (Nat.le_of_ble_eq_true rfl)) d_F_setting_147 ⟨Nat.le_of_ble_eq_true rfl, Nat.le_of_ble_eq_true rfl⟩) hS (fun q _ h => AX_up hA1 q h) (AX_up hA1) (fun q _ h => AX_up hA1 q h) (fun E ce q9 _ tq H1 locs ht hvm _ hB hz1 hk1 hS hce hcv hcl => vx_out (fun x hx9 => (hTb x hx9).elim) hlocks hce hcv hcl (fun t9 e9 a9 => XT_out ht hB.2 (AX_up hA1) hK hS ⟨hB.1.1, by simp [setR, bstD, hz6, k7, k15, k23, k33, k43, c44]⟩ e9 a9) (fun z hz => hS.2.2 z hz) (by decide) (by decide)) (fun t47 tq H1 locs ht hvm hw46 hB hz1 hk1 hS => ?_)
      obtain ⟨hP, hD⟩ := BX_back ht hB (AX_up hA1)
      generalize H1 = H at hP hS ⊢
      obtain ⟨hwt, hz147⟩ := hw46
      exact absurd rfl hz147
    · have _u : True := trivial
      refine lv_dload_n hx hb d_F_setting_134 rfl (lv_at hl 4 rfl) ?_
      refine lv_ldc2d (own := "ListForge") (v := 4621819117588971520) hx hb hown (bg hts mw_413) d_F_setting_135 ?_
      refine lv_dcmp hx hb d_F_setting_138 ?_
      refine lv_if_gt (tgt := 146) hx hb d_F_setting_139 (by decide) (fun c48 => ?_) (fun c48 => ?_)
      · have _u : True := trivial
        refine lv_iconst (v := 0) hx hb d_F_setting_146 (by decide) ?_
        have hA1 := hS.1
        refine vx_callv (vx_runS (As := [.int (0)]) (rest := []) ⟨hx, hb, hml, hown, hts⟩ (c_F_require l hl0 D ad ka sa H.size t 0) (cwS 1 hts (gs mw_210 mw_211 mw_1 mw_212) rfl rfl rfl (by decide +kernel) ⟨Nat.le_of_ble_eq_true rfl, Nat.le_of_ble_eq_true rfl⟩) ⟨PZ_blind, fun U hU hW => ⟨rfl, PX_at hU hW hP hK hD, ZX_at hU hW hZ hS⟩⟩ rfl rfl hl.1 rfl (lv_room (Nat.le_of_ble_eq_true rfl)) d_F_setting_147 ⟨Nat.le_of_ble_eq_true rfl, Nat.le_of_ble_eq_true rfl⟩) hS (fun q _ h => AX_up hA1 q h) (AX_up hA1) (fun q _ h => AX_up hA1 q h) (fun E ce q9 _ tq H1 locs ht hvm _ hB hz1 hk1 hS hce hcv hcl => vx_out (fun x hx9 => (hTb x hx9).elim) hlocks hce hcv hcl (fun t9 e9 a9 => XT_out ht hB.2 (AX_up hA1) hK hS ⟨hB.1.1, by simp [setR, bstD, hz6, k7, k15, k23, k33, k43, c44, c48]⟩ e9 a9) (fun z hz => hS.2.2 z hz) (by decide) (by decide)) (fun t51 tq H1 locs ht hvm hw50 hB hz1 hk1 hS => ?_)
        obtain ⟨hP, hD⟩ := BX_back ht hB (AX_up hA1)
        generalize H1 = H at hP hS ⊢
        obtain ⟨hwt, hz147⟩ := hw50
        exact absurd rfl hz147
      · have _u : True := trivial
        refine lv_iconst (v := 1) hx hb d_F_setting_142 (by decide) ?_
        refine lv_goto (tgt := 147) hx hb d_F_setting_143 (by decide) ?_
        have hA1 := hS.1
        refine vx_callv (vx_runS (As := [.int (1)]) (rest := []) ⟨hx, hb, hml, hown, hts⟩ (c_F_require l hl0 D ad ka sa H.size t 1) (cwS 1 hts (gs mw_210 mw_211 mw_1 mw_212) rfl rfl rfl (by decide +kernel) ⟨Nat.le_of_ble_eq_true rfl, Nat.le_of_ble_eq_true rfl⟩) ⟨PZ_blind, fun U hU hW => ⟨rfl, PX_at hU hW hP hK hD, ZX_at hU hW hZ hS⟩⟩ rfl rfl hl.1 rfl (lv_room (Nat.le_of_ble_eq_true rfl)) d_F_setting_147 ⟨Nat.le_of_ble_eq_true rfl, Nat.le_of_ble_eq_true rfl⟩) hS (fun q _ h => AX_up hA1 q h) (AX_up hA1) (fun q _ h => AX_up hA1 q h) (fun E ce q9 _ tq H1 locs ht hvm _ hB hz1 hk1 hS hce hcv hcl => vx_out (fun x hx9 => (hTb x hx9).elim) hlocks hce hcv hcl (fun t9 e9 a9 => XT_out ht hB.2 (AX_up hA1) hK hS (absurd hB.1.2 (by decide)) e9 a9) (fun z hz => hS.2.2 z hz) (by decide) (by decide)) (fun t54 tq H1 locs ht hvm hw53 hB hz1 hk1 hS => ?_)
        obtain ⟨hP, hD⟩ := BX_back ht hB (AX_up hA1)
        generalize H1 = H at hP hS ⊢
        obtain ⟨hwt, hz147⟩ := hw53
        rw [hwt] at hP hD
        refine lv_aload hx hb d_F_setting_150 (lv_at hl 0 rfl) ?_
        refine lv_dload_n hx hb d_F_setting_152 rfl (lv_at hl 4 rfl) ?_
        have hA1 := hS.1
        refine va_calld (va_runV (As := [.double (v)]) (rest := []) ⟨hx, hb, hml, hown, hts⟩ (c_L_changeBest l D ad ka H.size t u hu v) (cwV 1 hts (gv mw_414 mw_415 mw_416 mw_2 mw_417) rfl rfl rfl (by decide +kernel) ⟨Nat.le_of_ble_eq_true rfl, Nat.le_of_ble_eq_true rfl⟩) ⟨PX_blind, va_recv hK hP (ci := 0) (q0 := 8 + u) rfl (at_L hu), fun U hU hW => ⟨rfl, PX_at hU hW hP hK hD⟩⟩ rfl rfl hl.1 rfl (lv_room (Nat.le_of_ble_eq_true rfl)) d_F_setting_153 ⟨Nat.le_of_ble_eq_true rfl, Nat.le_of_ble_eq_true rfl⟩) hS (fun q _ h => AX_up hA1 q h) (AX_up hA1) (fun r55 t57 tq H1 locs ht hvm hw56 hB hz1 hk1 hS => ?_)
        obtain ⟨hP, hD⟩ := BX_back ht hB (AX_up hA1)
        generalize H1 = H at hP hS ⊢
        obtain ⟨hwr, hwt⟩ := hw56
        rw [hwt] at hP hD
        rw [hwr]
        refine vx_ret (W.widen (k := 2) (n := 12) (by decide) (by decide) ?_)
        exact W.dret (v := gD t 1 u) hx hb hr (fun t9 ht hW => ⟨⟨gD t 1 u, (pD t 1 u v), rfl, (by simp [setR, hz6, hcx, nzD, bstD, k7, k15, k23, k33, k43, c44, c48]), BX_at ht hW hP hK hD⟩, hS.F ht⟩) hS.2.2 d_F_setting_156
  refine lv_tableOut (tgt := 157) hx hb d_F_setting_18 (by have ek7 := lv_neT (a := 0) k7 rfl; have ek15 := lv_neT (a := 1) k15 rfl; have ek23 := lv_neT (a := 2) k23 rfl; have ek33 := lv_neT (a := 3) k33 rfl; have ek43 := lv_neT (a := 4) k43 rfl; omega) (by decide) ?_
  refine lv_iload_n hx hb d_F_setting_157 rfl (lv_at hl 3 rfl) ?_
  refine lv_bipush (v := 10) hx hb d_F_setting_158 (by decide) ?_
  refine lv_bipush (v := 19) hx hb d_F_setting_160 (by decide) ?_
  have hA1 := hS.1
  refine va_calli (va_runS (As := [.int (w), .int (10), .int (19)]) (rest := []) ⟨hx, hb, hml, hown, hts⟩ (c_F_isWithin l D ad ka H.size t w 10 19) (cwS 3 hts (gs mw_207 mw_208 mw_1 mw_209) rfl rfl rfl (by decide +kernel) ⟨Nat.le_of_ble_eq_true rfl, Nat.le_of_ble_eq_true rfl⟩) ⟨PX_blind, fun U hU hW => ⟨rfl, PX_at hU hW hP hK hD⟩⟩ rfl rfl hl.1 rfl (lv_room (Nat.le_of_ble_eq_true rfl)) d_F_setting_162 ⟨Nat.le_of_ble_eq_true rfl, Nat.le_of_ble_eq_true rfl⟩) hS (fun q _ h => AX_up hA1 q h) (AX_up hA1) (fun r58 t60 tq H1 locs ht hvm hw59 hB hz1 hk1 hS => ?_)
  obtain ⟨hP, hD⟩ := BX_back ht hB (AX_up hA1)
  generalize H1 = H at hP hS ⊢
  obtain ⟨hwr, hwt⟩ := hw59
  rw [hwt] at hP hD
  rw [hwr]
  have hA1 := hS.1
  refine vx_callv (vx_runS (As := [.int (isW w 10 19)]) (rest := []) ⟨hx, hb, hml, hown, hts⟩ (c_F_require l hl0 D ad ka sa H.size t (isW w 10 19)) (cwS 1 hts (gs mw_210 mw_211 mw_1 mw_212) rfl rfl rfl (by decide +kernel) ⟨Nat.le_of_ble_eq_true rfl, Nat.le_of_ble_eq_true rfl⟩) ⟨PZ_blind, fun U hU hW => ⟨rfl, PX_at hU hW hP hK hD, ZX_at hU hW hZ hS⟩⟩ rfl rfl hl.1 rfl (lv_room (Nat.le_of_ble_eq_true rfl)) d_F_setting_165 ⟨Nat.le_of_ble_eq_true rfl, Nat.le_of_ble_eq_true rfl⟩) hS (fun q _ h => AX_up hA1 q h) (AX_up hA1) (fun q _ h => AX_up hA1 q h) (fun E ce q9 _ tq H1 locs ht hvm _ hB hz1 hk1 hS hce hcv hcl => vx_out (fun x hx9 => (hTb x hx9).elim) hlocks hce hcv hcl (fun t9 e9 a9 => XT_out ht hB.2 (AX_up hA1) hK hS ⟨hB.1.1, by simp [setR, bstD, hB.1.2, hz6, k7, k15, k23, k33, k43]⟩ e9 a9) (fun z hz => hS.2.2 z hz) (by decide) (by decide)) (fun t63 tq H1 locs ht hvm hw62 hB hz1 hk1 hS => ?_)
  obtain ⟨hP, hD⟩ := BX_back ht hB (AX_up hA1)
  generalize H1 = H at hP hS ⊢
  obtain ⟨hwt, hz165⟩ := hw62
  rw [hwt] at hP hD
  obtain ⟨q, hq, hwq⟩ := isW_t hz165
  have hcw : cl (w - 10) = q := cl_of hwq (by omega)
  refine lv_aload hx hb d_F_setting_168 (lv_at hl 0 rfl) ?_
  refine lv_iload_n hx hb d_F_setting_170 rfl (lv_at hl 3 rfl) ?_
  refine lv_bipush (v := 10) hx hb d_F_setting_171 (by decide) ?_
  refine lv_isub hx hb d_F_setting_173 ?_
  refine lv_dload_n hx hb d_F_setting_174 rfl (lv_at hl 4 rfl) ?_
  refine lv_dconst0 hx hb d_F_setting_175 ?_
  refine lv_dcmp hx hb d_F_setting_176 ?_
  refine lv_if_eq (tgt := 184) hx hb d_F_setting_177 (by decide) (fun c64 => ?_) (fun c64 => ?_)
  · have _u : True := trivial
    refine lv_iconst (v := 0) hx hb d_F_setting_184 (by decide) ?_
    have hA1 := hS.1
    refine va_calld (va_runV (As := [.int (w - 10), .int (0)]) (rest := []) ⟨hx, hb, hml, hown, hts⟩ (c_L_changeBarred l D ad ka H.size t u hu q hq (w - 10) hwq 0 b01_0) (cwV 2 hts (gv mw_418 mw_419 mw_420 mw_2 mw_421) rfl rfl rfl (by decide +kernel) ⟨Nat.le_of_ble_eq_true rfl, Nat.le_of_ble_eq_true rfl⟩) ⟨PX_blind, va_recv hK hP (ci := 0) (q0 := 8 + u) rfl (at_L hu), fun U hU hW => ⟨rfl, PX_at hU hW hP hK hD⟩⟩ rfl rfl hl.1 rfl (lv_room (Nat.le_of_ble_eq_true rfl)) d_F_setting_185 ⟨Nat.le_of_ble_eq_true rfl, Nat.le_of_ble_eq_true rfl⟩) hS (fun q _ h => AX_up hA1 q h) (AX_up hA1) (fun r65 t67 tq H1 locs ht hvm hw66 hB hz1 hk1 hS => ?_)
    obtain ⟨hP, hD⟩ := BX_back ht hB (AX_up hA1)
    generalize H1 = H at hP hS ⊢
    obtain ⟨hwr, hwt⟩ := hw66
    rw [hwt] at hP hD
    rw [hwr]
    refine vx_ret (W.widen (k := 2) (n := 12) (by decide) (by decide) ?_)
    exact W.dret (v := bd (gI t (1017 + u) q)) hx hb hr (fun t9 ht hW => ⟨⟨bd (gI t (1017 + u) q), (pI t (1017 + u) q 0), rfl, (by simp [setR, hz6, hcx, nzD, bstD, k7, k15, k23, k33, k43, c64, hcw, hz165]), BX_at ht hW hP hK hD⟩, hS.F ht⟩) hS.2.2 d_F_setting_188
  · have _u : True := trivial
    refine lv_iconst (v := 1) hx hb d_F_setting_180 (by decide) ?_
    refine lv_goto (tgt := 185) hx hb d_F_setting_181 (by decide) ?_
    have hA1 := hS.1
    refine va_calld (va_runV (As := [.int (w - 10), .int (1)]) (rest := []) ⟨hx, hb, hml, hown, hts⟩ (c_L_changeBarred l D ad ka H.size t u hu q hq (w - 10) hwq 1 b01_1) (cwV 2 hts (gv mw_418 mw_419 mw_420 mw_2 mw_421) rfl rfl rfl (by decide +kernel) ⟨Nat.le_of_ble_eq_true rfl, Nat.le_of_ble_eq_true rfl⟩) ⟨PX_blind, va_recv hK hP (ci := 0) (q0 := 8 + u) rfl (at_L hu), fun U hU hW => ⟨rfl, PX_at hU hW hP hK hD⟩⟩ rfl rfl hl.1 rfl (lv_room (Nat.le_of_ble_eq_true rfl)) d_F_setting_185 ⟨Nat.le_of_ble_eq_true rfl, Nat.le_of_ble_eq_true rfl⟩) hS (fun q _ h => AX_up hA1 q h) (AX_up hA1) (fun r68 t70 tq H1 locs ht hvm hw69 hB hz1 hk1 hS => ?_)
    obtain ⟨hP, hD⟩ := BX_back ht hB (AX_up hA1)
    generalize H1 = H at hP hS ⊢
    obtain ⟨hwr, hwt⟩ := hw69
    rw [hwt] at hP hD
    rw [hwr]
    refine vx_ret (W.widen (k := 2) (n := 12) (by decide) (by decide) ?_)
    exact W.dret (v := bd (gI t (1017 + u) q)) hx hb hr (fun t9 ht hW => ⟨⟨bd (gI t (1017 + u) q), (pI t (1017 + u) q 1), rfl, (by simp [setR, hz6, hcx, nzD, bstD, k7, k15, k23, k33, k43, c64, hcw, hz165]), BX_at ht hW hP hK hD⟩, hS.F ht⟩) hS.2.2 d_F_setting_188
