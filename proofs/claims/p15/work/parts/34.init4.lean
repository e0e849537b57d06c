def zL : List Value := [.int 0, .null, .null, .null, .int 0, .int 0, .int 0, .int 0, .double 0, .int 0, .int 0, .int 0]
def iL (x : Int32) (qa qb qc : Nat) : List Value := [.int x, .ref qa, .ref qb, .ref qc, .int 0, .int 0, .int 100, .int 200, .double 4613937818241073152, .int 0, .int 0, .int 0]
abbrev arZ (ka : Nat → ClassId) (n : Nat) : va_E := .inl (ka 1, n, .inl (fun _ => 0))
/-- what a MailingList's constructor makes behind its own cell -/
def vL (ka : Nat → ClassId) (qa qb qc : Nat) (a : Nat → Nat) : va_W := ((qa, sE ka a 12) :: fw 12 a (fun _ => .inr (3, iS))) ++ [(qb, arZ ka 12)] ++ [(qc, arZ ka 10)]
theorem wL_0 {ws : va_W} {h0 : Nat} {fs : List Value} {ka : Nat → ClassId} {qa : Nat} {a : Nat → Nat} : wL ws h0 fs ka qa a 0 = ws ++ (h0, .inr (0, fs)) :: ([] ++ [(qa, .inl (ka 3, 12, .inr (.inr (.inr (.inr (fun _ => none))))))]) := by
  simp [wL, sE, fw]
set_option maxHeartbeats 4000000 in
set_option maxRecDepth 100000 in
theorem c_L_init (l : Launch) (D : va_G) (ka : Nat → ClassId) (h0 sz : Nat) (ws : va_W) (x : Int32) : Met l y_L_init (Cond.code y_L_init b_L_init 3 none :: big) ({ frames := 2, cells := 15, slots := 130, locals := 40 }) (va_Pc [.ref h0, .int x] (fun U => va_AO "ListForge$Subscription" U ∧ PC D sz (cT ka) (ws ++ [(h0, .inr (0, zL))]) U)) (va_Qv (fun w : va_W => ∃ (qa qb qc : Nat) (a : Nat → Nat), w = ws ++ (h0, .inr (0, iL x qa qb qc)) :: vL ka qa qb qc a) (BC D (va_A (ws ++ [(h0, .inr (0, zL))]) sz) (cT ka)) (va_A (ws ++ [(h0, .inr (0, zL))]) sz)) 15 130 (va_A (ws ++ [(h0, .inr (0, zL))]) sz) := by
  refine Met.ofW (cc := b_L_init) (maxL := 3) (ret := none) (by decide) rfl ?_
  intro p e s m args below meth c s₁ B hml hv
  obtain ⟨rfl, hAO, hsz, hP, hK, hD0⟩ := hv
  have hx := B.exec
  have hb := B.bytes
  have hr := B.returns
  have hlocks := B.notSynchronized
  have hts := atoms_spec (ws := Cond.code y_L_init b_L_init 3 none :: big) B.pre
  have hown : s.vm.findClass "ListForge$MailingList" = some m.cls := findClass_of_methodNamed B.named
  have hin : meth.name = "<init>" := (name_of_methodNamed B.named B.method).1
  subst hsz
  have hD := hD0.self (sz := s.heap.size)
  generalize hAe : va_A (ws ++ [(h0, .inr (0, zL))]) s.heap.size = A at hD ⊢
  have hA : ∀ q : Nat, s.heap.size ≤ q → A q := fun q h => by rw [← hAe]; exact Or.inr h
  have hS : va_S A s.heap s.heap [] := va_S.rf
  have hl := lv_entry ([.ref h0, .int x]) (n := 3) (Nat.le_of_ble_eq_true rfl)
  rw [lg_entry_eq]
  generalize (lg_sl ([.ref h0, .int x]) ++ List.replicate (3 - (lg_sl ([.ref h0, .int x])).length) Slot.unset).toArray = ls at hl ⊢
  have hl : lv_has ls 3 [(0, .ref h0), (1, .int x)] := hl
  refine lv_aload_n hx hb d_L_init_0 rfl (lv_at hl 0 rfl) ?_
  refine W.objInit hx hb hown (bg hts mw_29) (bg hts mw_21) (bg hts mw_22) rfl (by rw [hml]; exact hl.1) rfl d_L_init_1 (Nat.le_of_ble_eq_true rfl) (Nat.le_of_ble_eq_true rfl) ?_
  refine W.eq (g2 := F0 m 4 ls []) rfl ?_
  refine lv_aload_n hx hb d_L_init_4 rfl (lv_at hl 0 rfl) ?_
  refine lv_iload_n hx hb d_L_init_5 rfl (lv_at hl 1 rfl) ?_
  refine va_putF (D := D) (ci := 0) (v := .int x) (ty := .int) (C := "ListForge$MailingList") (T := T_L) (N := 12) hx hb hts in_L t_L t_L_ok n_L hown hK hP hD hS ws.length (tl_at _ _ _) rfl 0 (by decide) (bg hts mw_75) (fun _ h9 => h9) rfl hin rfl (by decide +kernel) rfl rfl (Nat.le_of_ble_eq_true rfl) d_L_init_6 (fun H locs hP hD hS => ?_)
  rw [tl_set] at hP hD
  refine lv_aload_n hx hb d_L_init_9 rfl (lv_at hl 0 rfl) ?_
  refine lv_bipush (v := 12) hx hb d_L_init_10 (by decide) ?_
  refine va_newq (C := "ListForge$Subscription") hx hb hown (bg hts mw_30) hAO hK hP hD hS hA (N' := 12) (by decide) (by decide) (by decide) (Nat.le_of_ble_eq_true rfl) (Nat.le_of_ble_eq_true rfl) d_L_init_12 (fun qa cA H hK1 hP hD hS => ?_)
  have e9 : cA = ka 3 := ka_O (i := 5) (j := 3) hK1 rfl rfl
  subst e9
  rw [tl_app] at hP hD
  refine va_putF (D := D) (ci := 0) (v := .ref qa) (ty := .array (.object "ListForge$Subscription")) (C := "ListForge$MailingList") (T := T_L) (N := 12) hx hb hts in_L t_L t_L_ok n_L hown hK hP hD hS ws.length (tl_at _ _ _) rfl 1 (by decide) (bg hts mw_76) (fun _ h9 => h9) rfl hin rfl (by decide +kernel) rfl rfl (Nat.le_of_ble_eq_true rfl) d_L_init_15 (fun H locs hP hD hS => ?_)
  rw [tl_set] at hP hD
  refine lv_iconst (v := 0) hx hb d_L_init_18 (by decide) ?_
  refine lv_istore_n (lv' := [(2, .int 0), (0, .ref h0), (1, .int x)]) hx hb d_L_init_19 rfl hl (by decide) rfl (fun ls hl => ?_)
  refine W.widen (k := 1 + 0) (n := 12 + 8 * 0) (by decide) (by decide) ?_
  refine L_loop (ws := ws) (h0 := h0) (qa := qa) (x := x) (ka := ka) (D := D) hx hb hml hown hts hK hA ⟨by decide, by decide⟩ rfl (fun a H locs ls hP hD hS hl => ?_) 13 0 (fun _ => 0) H locs ls (by omega) (by omega) (by rw [wL_0]; exact hP) (by rw [wL_0]; exact hD) hS (lv_sub hl [1, 2, 0] rfl)
  unfold wL at hP hD
  refine lv_aload_n hx hb d_L_init_45 rfl (lv_at hl 0 rfl) ?_
  refine lv_bipush (v := 12) hx hb d_L_init_46 (by decide) ?_
  refine new_Z (ka := ka) hx hb hts hK hP hD hS hA (N' := 12) (by decide) (by decide) (by decide) (Nat.le_of_ble_eq_true rfl) (Nat.le_of_ble_eq_true rfl) d_L_init_48 (fun qb H hP hD hS => ?_)
  refine va_putF (D := D) (ci := 0) (v := .ref qb) (ty := .array .boolean) (C := "ListForge$MailingList") (T := T_L) (N := 12) hx hb hts in_L t_L t_L_ok n_L hown hK hP hD hS ws.length (tl_at _ _ _) rfl 2 (by decide) (bg hts mw_78) (fun _ h9 => h9) rfl hin rfl (by decide +kernel) rfl rfl (Nat.le_of_ble_eq_true rfl) d_L_init_50 (fun H locs hP hD hS => ?_)
  rw [tl_set] at hP hD
  refine lv_aload_n hx hb d_L_init_53 rfl (lv_at hl 0 rfl) ?_
  refine lv_bipush (v := 10) hx hb d_L_init_54 (by decide) ?_
  refine new_Z (ka := ka) hx hb hts hK hP hD hS hA (N' := 10) (by decide) (by decide) (by decide) (Nat.le_of_ble_eq_true rfl) (Nat.le_of_ble_eq_true rfl) d_L_init_56 (fun qc H hP hD hS => ?_)
  refine va_putF (D := D) (ci := 0) (v := .ref qc) (ty := .array .boolean) (C := "ListForge$MailingList") (T := T_L) (N := 12) hx hb hts in_L t_L t_L_ok n_L hown hK hP hD hS ws.length (tl_at _ _ _) rfl 3 (by decide) (bg hts mw_80) (fun _ h9 => h9) rfl hin rfl (by decide +kernel) rfl rfl (Nat.le_of_ble_eq_true rfl) d_L_init_58 (fun H locs hP hD hS => ?_)
  rw [tl_set] at hP hD
  refine lv_aload_n hx hb d_L_init_61 rfl (lv_at hl 0 rfl) ?_
  refine lv_bipush (v := 100) hx hb d_L_init_62 (by decide) ?_
  refine va_put (D := D) (ci := 0) (v := .int 100) (ty := .int) (C := "ListForge$MailingList") (T := T_L) (N := 12) hx hb hts in_L t_L t_L_ok n_L hown hK hP hD hS ws.length (tl_at _ _ _) rfl 6 (by decide) (bg hts mw_83) (fun _ h9 => h9) rfl (by decide +kernel) rfl rfl (Nat.le_of_ble_eq_true rfl) d_L_init_64 (fun H locs hP hD hS => ?_)
  rw [tl_set] at hP hD
  refine lv_aload_n hx hb d_L_init_67 rfl (lv_at hl 0 rfl) ?_
  refine lv_sipush (v := 200) hx hb d_L_init_68 (by decide) ?_
  refine va_put (D := D) (ci := 0) (v := .int 200) (ty := .int) (C := "ListForge$MailingList") (T := T_L) (N := 12) hx hb hts in_L t_L t_L_ok n_L hown hK hP hD hS ws.length (tl_at _ _ _) rfl 7 (by decide) (bg hts mw_84) (fun _ h9 => h9) rfl (by decide +kernel) rfl rfl (Nat.le_of_ble_eq_true rfl) d_L_init_71 (fun H locs hP hD hS => ?_)
  rw [tl_set] at hP hD
  refine lv_aload_n hx hb d_L_init_74 rfl (lv_at hl 0 rfl) ?_
  refine lv_ldc2d (own := "ListForge$MailingList") (v := 4613937818241073152) hx hb hown (bg hts mw_74) d_L_init_75 ?_
  refine va_put (D := D) (ci := 0) (v := .double 4613937818241073152) (ty := .double) (C := "ListForge$MailingList") (T := T_L) (N := 12) hx hb hts in_L t_L t_L_ok n_L hown hK hP hD hS ws.length (tl_at _ _ _) rfl 8 (by decide) (bg hts mw_85) (fun _ h9 => h9) rfl (by decide +kernel) rfl rfl (Nat.le_of_ble_eq_true rfl) d_L_init_78 (fun H locs hP hD hS => ?_)
  rw [tl_set] at hP hD
  refine W.widen (k := 15) (n := 130) (by decide) (by decide) ?_
  exact W.vret hx hb hr (fun t ht hW => ⟨⟨_, rfl, ⟨qa, qb, qc, a, rfl⟩, by rw [ht]; exact hP, va_K.moved hW.alike hK, hD⟩, hS.F ht⟩) hS.2.2 d_L_init_81
