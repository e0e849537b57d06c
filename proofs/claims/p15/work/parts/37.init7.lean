def BK0 : BK := (fun _ => 0, fun _ => 0, fun _ => 0, fun _ => 0, fun _ _ => 0)
def zF : List Value := [.null, .null, .null, .int 0, .int 0, .int 0]
theorem wF_0 {ws : va_W} {h0 : Nat} {ka : Nat → ClassId} {ql : Nat} {B : BK} : wF ws h0 ka ql B 0 = ws ++ (h0, .inr (4, fF ql)) :: ([] ++ [(ql, .inl (ka 2, 3, .inr (.inr (.inr (.inr (fun _ => none))))))]) := by
  simp [wF, lE, blks]
theorem wP_0 {ws b : va_W} {x : Nat × va_E} {ka : Nat → ClassId} {qp : Nat} {a : Nat → Nat} : wP (ws ++ x :: b) ka qp a 0 = ws ++ x :: (b ++ [(qp, .inl (ka 4, 40, .inr (.inr (.inr (.inr (fun _ => none))))))]) := by
  simp [wP, pE, fw]
/-- what a ListForge's constructor makes behind its own cell -/
def vF (ka : Nat → ClassId) (ql qp qo q0 q1 q2 q3 : Nat) (B : BK) (a : Nat → Nat) : va_W := ((ql, lE ka B.hL 3) :: blks ka B 3) ++ ((qp, pE ka a 40) :: fw 40 a (fun _ => .inr (2, zP))) ++ ((qo, .inr (1, [.ref q0, .ref q1, .ref q2, .ref q3, .int 0, .int 0])) :: [(q0, arO ka), (q1, arO ka), (q2, arO ka), (q3, arO ka)])
theorem wP_V {ws b V : va_W} {x : Nat × va_E} {ka : Nat → ClassId} {qp : Nat} {a : Nat → Nat} : wP (ws ++ x :: b) ka qp a 40 ++ V = ws ++ x :: (b ++ ((qp, pE ka a 40) :: fw 40 a (fun _ => .inr (2, zP))) ++ V) := by
  unfold wP
  simp
set_option maxHeartbeats 4000000 in
set_option maxRecDepth 100000 in
theorem c_F_init (l : Launch) (D : va_G) (ka : Nat → ClassId) (h0 sz : Nat) (ws : va_W) : Met l y_F_init (Cond.code y_F_init b_F_init 2 none :: big) ({ frames := 3, cells := 95, slots := 875, locals := 70 }) (va_Pc [.ref h0] (fun U => (va_AO "ListForge$MailingList" U ∧ va_AO "ListForge$Subscription" U ∧ va_AO "ListForge$Post" U ∧ va_Nw (.methodLinkNest "ListForge" 24 y_P_init "ListForge") U) ∧ PC D sz (cT ka) (ws ++ [(h0, .inr (4, zF))]) U)) (va_Qv (fun w : va_W => ∃ (ql qp qo q0 q1 q2 q3 : Nat) (B : BK) (a : Nat → Nat), w = ws ++ (h0, .inr (4, [.ref ql, .ref qp, .ref qo, .int 0, .int 0, .int 0])) :: vF ka ql qp qo q0 q1 q2 q3 B a) (BC D (va_A (ws ++ [(h0, .inr (4, zF))]) sz) (cT ka)) (va_A (ws ++ [(h0, .inr (4, zF))]) sz)) 95 875 (va_A (ws ++ [(h0, .inr (4, zF))]) sz) := by
  refine Met.ofW (cc := b_F_init) (maxL := 2) (ret := none) (by decide) rfl ?_
  intro p e s m args below meth c s₁ B hml hv
  obtain ⟨rfl, ⟨hAL, hAS, hAP, hNw⟩, hsz, hP, hK, hD0⟩ := hv
  have hx := B.exec
  have hb := B.bytes
  have hr := B.returns
  have hlocks := B.notSynchronized
  have hts := atoms_spec (ws := Cond.code y_F_init b_F_init 2 none :: big) B.pre
  have hown : s.vm.findClass "ListForge" = some m.cls := findClass_of_methodNamed B.named
  have hin : meth.name = "<init>" := (name_of_methodNamed B.named B.method).1
  subst hsz
  have hD := hD0.self (sz := s.heap.size)
  generalize hAe : va_A (ws ++ [(h0, .inr (4, zF))]) s.heap.size = A at hD ⊢
  have hA : ∀ q : Nat, s.heap.size ≤ q → A q := fun q h => by rw [← hAe]; exact Or.inr h
  have hS : va_S A s.heap s.heap [] := va_S.rf
  have hl := lv_entry ([.ref h0]) (n := 2) (Nat.le_of_ble_eq_true rfl)
  rw [lg_entry_eq]
  generalize (lg_sl ([.ref h0]) ++ List.replicate (2 - (lg_sl ([.ref h0])).length) Slot.unset).toArray = ls at hl ⊢
  have hl : lv_has ls 2 [(0, .ref h0)] := hl
  refine lv_aload_n hx hb d_F_init_0 rfl (lv_at hl 0 rfl) ?_
  refine W.objInit hx hb hown (bg hts mw_20) (bg hts mw_21) (bg hts mw_22) rfl (by rw [hml]; exact hl.1) rfl d_F_init_1 (Nat.le_of_ble_eq_true rfl) (Nat.le_of_ble_eq_true rfl) ?_
  refine W.eq (g2 := F0 m 4 ls []) rfl ?_
  refine lv_aload_n hx hb d_F_init_4 rfl (lv_at hl 0 rfl) ?_
  refine lv_iconst (v := 3) hx hb d_F_init_5 (by decide) ?_
  refine va_newq (C := "ListForge$MailingList") hx hb hown (bg hts mw_23) hAL hK hP hD hS hA (N' := 3) (by decide) (by decide) (by decide) (Nat.le_of_ble_eq_true rfl) (Nat.le_of_ble_eq_true rfl) d_F_init_6 (fun ql cA H hK1 hP hD hS => ?_)
  have e9 : cA = ka 2 := ka_O (i := 5) (j := 2) hK1 rfl rfl
  subst e9
  rw [tl_app] at hP hD
  refine va_putF (D := D) (ci := 4) (v := .ref ql) (ty := .array (.object "ListForge$MailingList")) (C := "ListForge") (T := T_F) (N := 6) hx hb hts in_F t_F t_F_ok n_F hown hK hP hD hS ws.length (tl_at _ _ _) rfl 0 (by decide) (bg hts mw_175) (fun _ h9 => h9) rfl hin rfl (by decide +kernel) rfl rfl (Nat.le_of_ble_eq_true rfl) d_F_init_9 (fun H locs hP hD hS => ?_)
  rw [tl_set] at hP hD
  refine lv_iconst (v := 0) hx hb d_F_init_12 (by decide) ?_
  refine lv_istore_n (lv' := [(1, .int 0), (0, .ref h0)]) hx hb d_F_init_13 rfl hl (by decide) rfl (fun ls hl => ?_)
  refine W.widen (k := 1 + 16 * 0) (n := 3 + 142 * 0) (by decide) (by decide) ?_
  refine F_loop (ws := ws) (h0 := h0) (ql := ql) (ka := ka) (D := D) hx hb hml hown hts hAS hK hA ⟨by decide, by decide⟩ rfl (fun B H locs ls hP hD hS hl => ?_) 4 0 BK0 H locs ls (by omega) (by omega) (by rw [wF_0]; exact hP) (by rw [wF_0]; exact hD) hS (lv_sub hl [1, 0] rfl)
  unfold wF at hP hD
  refine lv_aload_n hx hb d_F_init_39 rfl (lv_at hl 0 rfl) ?_
  refine lv_bipush (v := 40) hx hb d_F_init_40 (by decide) ?_
  refine va_newq (C := "ListForge$Post") hx hb hown (bg hts mw_118) hAP hK hP hD hS hA (N' := 40) (by decide) (by decide) (by decide) (Nat.le_of_ble_eq_true rfl) (Nat.le_of_ble_eq_true rfl) d_F_init_42 (fun qp cA H hK1 hP hD hS => ?_)
  have e9 : cA = ka 4 := ka_O (i := 5) (j := 4) hK1 rfl rfl
  subst e9
  rw [tl_app] at hP hD
  refine va_putF (D := D) (ci := 4) (v := .ref qp) (ty := .array (.object "ListForge$Post")) (C := "ListForge") (T := T_F) (N := 6) hx hb hts in_F t_F t_F_ok n_F hown hK hP hD hS ws.length (tl_at _ _ _) rfl 1 (by decide) (bg hts mw_176) (fun _ h9 => h9) rfl hin rfl (by decide +kernel) rfl rfl (Nat.le_of_ble_eq_true rfl) d_F_init_45 (fun H locs hP hD hS => ?_)
  rw [tl_set] at hP hD
  refine lv_iconst (v := 0) hx hb d_F_init_48 (by decide) ?_
  refine lv_istore_n (lv' := [(1, .int 0), (0, .ref h0)]) hx hb d_F_init_49 rfl hl (by decide) rfl (fun ls hl => ?_)
  refine W.widen (k := 50 + 0) (n := 469 + 4 * 0) (by decide) (by decide) ?_
  refine F_loop2 (X := ws ++ (h0, .inr (4, [.ref ql, .ref qp, .null, .int 0, .int 0, .int 0])) :: ((ql, lE ka B.hL 3) :: blks ka B 3)) (i0 := ws.length) (k0 := 50) (s0 := 469) (h0 := h0) (ql := ql) (qp := qp) (ka := ka) (D := D) hx hb hml hown hts hNw hK hA (tl_at _ _ _) ⟨by decide, by decide⟩ rfl (fun a H locs ls hP hD hS hl => ?_) 41 0 (fun _ => 0) H locs ls (by omega) (by omega) (by rw [wP_0]; exact hP) (by rw [wP_0]; exact hD) hS (lv_sub hl [1, 0] rfl)
  refine lv_aload_n hx hb d_F_init_75 rfl (lv_at hl 0 rfl) ?_
  refine va_new (ci := 1) (fs := zO) (C := "ListForge$Outbox") (T := T_O) (N := 6) hx hb hts in_O t_O t_O_ok hown (bg hts mw_143) (bg hts mw_144) (bg hts mw_5) hK hP hD hS hA rfl (fun k hk => by rcases (show k = 0 ∨ k = 1 ∨ k = 2 ∨ k = 3 ∨ k = 4 ∨ k = 5 by omega) with rfl | rfl | rfl | rfl | rfl | rfl <;> rfl) (Nat.le_of_ble_eq_true rfl) (Nat.le_of_ble_eq_true rfl) d_F_init_76 (fun qo H hP hD hS => ?_)
  refine lv_dup hx hb d_F_init_79 rfl ?_
  have hFc : ∀ z, va_A (wP (ws ++ (h0, .inr (4, [.ref ql, .ref qp, .null, .int 0, .int 0, .int 0])) :: ((ql, lE ka B.hL 3) :: blks ka B 3)) ka qp a 40 ++ [(qo, .inr (1, zO))]) H.size z → A z := fun z h => h.elim (fun ⟨k, e, hk⟩ => hD.2 k _ hk) (fun h => hA z (Nat.le_trans hS.1 h))
  refine va_callv (va_runI (As := []) (rest := [.ref qo, .ref h0]) ⟨hx, hb, hml, hown, hts⟩ (c_O_init l D ka qo H.size _) (cwI 0 hts (gi_c mw_147 gi_0) rfl rfl rfl (bg hts mw_5) (bg hts mw_145) (bg hts mw_146) rfl (by decide +kernel) ⟨(Nat.le_of_ble_eq_true rfl), (Nat.le_of_ble_eq_true rfl)⟩) ⟨fun a U g mk q => by obtain ⟨q0, q1, qP, qK, qD⟩ := q; exact ⟨q0, q1, qP, va_K.moved (u := U) (U := U.calling g mk a) (Vm.Alike.refl U.vm) qK, qD⟩, fun U hU hW => ⟨rfl, by rw [hU], by rw [hU]; exact hP, va_K.moved hW.alike hK, hD.weaken (fun _ _ _ _ => trivial)⟩⟩ rfl rfl hl.1 rfl (lv_room (Nat.le_of_ble_eq_true rfl)) d_F_init_80 ⟨(Nat.le_of_ble_eq_true rfl), (Nat.le_of_ble_eq_true rfl)⟩) hS (fun q _ h => hFc q h) hFc (fun u t H1 locs ht hvm hw hB hz1 hk1 hS => ?_)
  obtain ⟨hP1, hK1, hD1⟩ := hB
  obtain ⟨q0, q1, q2, q3, rfl⟩ := hw
  rw [ht] at hP1
  have hD : va_D A _ := ⟨hD1.1, fun k z hk => hFc _ (hD1.2 k z hk)⟩
  have hP := hP1
  rw [wP_V] at hP hD
  refine va_putF (D := D) (ci := 4) (v := .ref qo) (ty := .object "ListForge$Outbox") (C := "ListForge") (T := T_F) (N := 6) hx hb hts in_F t_F t_F_ok n_F hown hK hP hD hS ws.length (tl_at _ _ _) rfl 2 (by decide) (bg hts mw_177) (fun _ h9 => h9) rfl hin rfl (by decide +kernel) rfl rfl (Nat.le_of_ble_eq_true rfl) d_F_init_83 (fun H locs hP hD hS => ?_)
  rw [tl_set] at hP hD
  refine W.widen (k := 95) (n := 875) (by decide) (by decide) ?_
  exact W.vret hx hb hr (fun t ht hW => ⟨⟨_, rfl, ⟨ql, qp, qo, q0, q1, q2, q3, B, a, rfl⟩, by rw [ht]; exact hP, va_K.moved hW.alike hK, hD⟩, hS.F ht⟩) hS.2.2 d_F_init_86
