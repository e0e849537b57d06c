def PC (D : va_G) (sz : Nat) (tys : List (ClassId × FieldType)) (ws : va_W) : State → Prop := fun U => U.heap.size = sz ∧ va_P D cls ws U.heap ∧ va_K D cls tys U ∧ va_D (fun _ => True) ws
def BC (D : va_G) (A : Nat → Prop) (tys : List (ClassId × FieldType)) (ws : va_W) : State → Prop := fun U => va_P D cls ws U.heap ∧ va_K D cls tys U ∧ va_D A ws
def zS : List Value := [.int 0, .int 0, .int 0, .int 0, .int 0, .int 0, .int 0, .double 0]
def iS : List Value := [.int (-1), .int 0, .int 0, .int 0, .int 0, .int 0, .int 0, .double 0]
def zP : List Value := [.int 0, .int 0, .int 0, .int 0]
def zO : List Value := [.null, .null, .null, .null, .int 0, .int 0]
set_option maxHeartbeats 4000000 in
set_option maxRecDepth 100000 in
theorem c_S_init (l : Launch) (D : va_G) (h0 sz k0 : Nat) (tys : List (ClassId × FieldType)) (ws : va_W) (hk0 : ws[k0]? = some (h0, .inr (3, zS))) : Met l y_S_init (Cond.code y_S_init b_S_init 1 none :: big) ({ frames := 1, cells := 0, slots := 0, locals := 12 }) (va_Pc [.ref h0] (PC D sz tys ws)) (va_Qv (fun w : va_W => w = ws.set k0 (h0, .inr (3, iS))) (BC D (va_A ws sz) tys) (va_A ws sz)) 0 0 (va_A ws sz) := by
  refine Met.ofW (cc := b_S_init) (maxL := 1) (ret := none) (by decide) rfl ?_
  intro p e s m args below meth c s₁ B hml hv
  obtain ⟨rfl, hsz, hP, hK, hD0⟩ := hv
  have hx := B.exec
  have hb := B.bytes
  have hr := B.returns
  have hlocks := B.notSynchronized
  have hts := atoms_spec (ws := Cond.code y_S_init b_S_init 1 none :: big) B.pre
  have hown : s.vm.findClass "ListForge$Subscription" = some m.cls := findClass_of_methodNamed B.named
  have hin : meth.name = "<init>" := (name_of_methodNamed B.named B.method).1
  subst hsz
  have hD := hD0.self (sz := s.heap.size)
  generalize hAe : va_A ws s.heap.size = A at hD ⊢
  have hA : ∀ q : Nat, s.heap.size ≤ q → A q := fun q h => by rw [← hAe]; exact Or.inr h
  have hS : va_S A s.heap s.heap [] := va_S.rf
  have hl := lv_entry ([.ref h0]) (n := 1) (Nat.le_of_ble_eq_true rfl)
  rw [lg_entry_eq]
  generalize (lg_sl ([.ref h0]) ++ List.replicate (1 - (lg_sl ([.ref h0])).length) Slot.unset).toArray = ls at hl ⊢
  have hl : lv_has ls 1 [(0, .ref h0)] := hl
  refine lv_aload_n hx hb d_S_init_0 rfl (lv_at hl 0 rfl) ?_
  refine W.objInit hx hb hown (bg hts mw_36) (bg hts mw_21) (bg hts mw_22) rfl (by rw [hml]; exact hl.1) rfl d_S_init_1 (Nat.le_of_ble_eq_true rfl) (Nat.le_of_ble_eq_true rfl) ?_
  refine W.eq (g2 := F0 m 4 ls []) rfl ?_
  refine lv_aload_n hx hb d_S_init_4 rfl (lv_at hl 0 rfl) ?_
  refine lv_iconst (v := -1) hx hb d_S_init_5 (by decide) ?_
  refine va_put (D := D) (ci := 3) (ty := .int) (C := "ListForge$Subscription") (T := T_S) (N := 8) hx hb hts in_S t_S t_S_ok n_S hown hK hP hD hS k0 hk0 rfl 0 (by decide) (bg hts mw_37) (fun _ h9 => h9) rfl (by decide +kernel) rfl rfl (Nat.le_of_ble_eq_true rfl) d_S_init_6 (fun H locs hP hD hS => ?_)
  exact W.vret hx hb hr (fun t ht hW => ⟨⟨_, rfl, rfl, by rw [ht]; exact hP, va_K.moved hW.alike hK, hD⟩, hS.F ht⟩) hS.2.2 d_S_init_9
set_option maxHeartbeats 4000000 in
set_option maxRecDepth 100000 in
theorem c_P_init (l : Launch) (D : va_G) (h0 sz : Nat) (tys : List (ClassId × FieldType)) (ws : va_W) : Met l y_P_init (Cond.code y_P_init b_P_init 1 none :: big) ({ frames := 1, cells := 0, slots := 0, locals := 12 }) (va_Pc [.ref h0] (PC D sz tys ws)) (va_Qv (fun w : va_W => w = ws) (BC D (va_A ws sz) tys) (va_A ws sz)) 0 0 (va_A ws sz) := by
  refine Met.ofW (cc := b_P_init) (maxL := 1) (ret := none) (by decide) rfl ?_
  intro p e s m args below meth c s₁ B hml hv
  obtain ⟨rfl, hsz, hP, hK, hD0⟩ := hv
  have hx := B.exec
  have hb := B.bytes
  have hr := B.returns
  have hlocks := B.notSynchronized
  have hts := atoms_spec (ws := Cond.code y_P_init b_P_init 1 none :: big) B.pre
  have hown : s.vm.findClass "ListForge$Post" = some m.cls := findClass_of_methodNamed B.named
  have hin : meth.name = "<init>" := (name_of_methodNamed B.named B.method).1
  subst hsz
  have hD := hD0.self (sz := s.heap.size)
  generalize hAe : va_A ws s.heap.size = A at hD ⊢
  have hA : ∀ q : Nat, s.heap.size ≤ q → A q := fun q h => by rw [← hAe]; exact Or.inr h
  have hS : va_S A s.heap s.heap [] := va_S.rf
  have hl := lv_entry ([.ref h0]) (n := 1) (Nat.le_of_ble_eq_true rfl)
  rw [lg_entry_eq]
  generalize (lg_sl ([.ref h0]) ++ List.replicate (1 - (lg_sl ([.ref h0])).length) Slot.unset).toArray = ls at hl ⊢
  have hl : lv_has ls 1 [(0, .ref h0)] := hl
  refine lv_aload_n hx hb d_P_init_0 rfl (lv_at hl 0 rfl) ?_
  refine W.objInit hx hb hown (bg hts mw_124) (bg hts mw_21) (bg hts mw_22) rfl (by rw [hml]; exact hl.1) rfl d_P_init_1 (Nat.le_of_ble_eq_true rfl) (Nat.le_of_ble_eq_true rfl) ?_
  refine W.eq (g2 := F0 m 4 ls []) rfl ?_
  exact W.vret hx hb hr (fun t ht hW => ⟨⟨_, rfl, rfl, by rw [ht]; exact hP, va_K.moved hW.alike hK, hD⟩, hS.F ht⟩) hS.2.2 d_P_init_4
