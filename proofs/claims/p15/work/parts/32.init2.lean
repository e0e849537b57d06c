theorem ka_I {D : va_G} {ka : Nat → ClassId} {cA : ClassId} {s : State} (h : va_K D cls (cT ka ++ [(cA, .int)]) s) : cA = ka 0 := Option.some.inj (((h.2 5 (cA, .int) rfl).2).symm.trans (h.2 0 (ka 0, .int) rfl).2)
theorem ka_Z {D : va_G} {ka : Nat → ClassId} {cA : ClassId} {s : State} (h : va_K D cls (cT ka ++ [(cA, .boolean)]) s) : cA = ka 1 := Option.some.inj (((h.2 5 (cA, .boolean) rfl).2).symm.trans (h.2 1 (ka 1, .boolean) rfl).2)
theorem ka_O {D : va_G} {tys : List (ClassId × FieldType)} {cA kA : ClassId} {C : String} {s : State} {i j : Nat} (h : va_K D cls tys s) (h1 : tys[i]? = some (cA, .object C)) (h2 : tys[j]? = some (kA, .object C)) : cA = kA := by
  obtain ⟨-, -, -, -, -, -, e1⟩ := h.2 i _ h1
  obtain ⟨-, -, -, -, -, -, e2⟩ := h.2 j _ h2
  exact Option.some.inj (e1.symm.trans e2)
theorem tl_at {α : Type} (ws v : List α) (x : α) : (ws ++ x :: v)[ws.length]? = some x := by simp
theorem tl_set {α : Type} (ws v : List α) (x y : α) : (ws ++ x :: v).set ws.length y = ws ++ y :: v := by simp
theorem tl_app {α : Type} (ws v : List α) (x y : α) : (ws ++ x :: v) ++ [y] = ws ++ x :: (v ++ [y]) := by simp
section NW
variable {p : Program} {l : Launch} {e : Env} {R : Room} {s : State} {m : MethodId} {args : Array Value} {below : List Frame} {meth : Method} {c : Code} {H : Heap} {locs : List Loc} {cells slots : Nat} {Q : State → Prop} {cc : ByteArray} {pc : Nat} {ls : Array Slot} {rest : List Value} {D : va_G} {A : Nat → Prop} {H0 : Heap} {ka : Nat → ClassId} {c0 : Cond} {ws v : va_W} {x : Nat × va_E}
theorem new_I (hx : p.tables.exec = Jvm.exec) (hb : c.code = cc) (hts : ∀ w ∈ c0 :: big, w.before args s = true) (hK : va_K D cls (cT ka) s) (hP : va_P D cls (ws ++ x :: v) H) (hD : va_D A (ws ++ x :: v)) (hS : va_S A H0 H locs) (hA : ∀ q, H0.size ≤ q → A q) {n : Int32} {N' : Nat} (hn : ¬ n < 0) (hN : n.toNatClampNeg = N') (hbytes : N' * componentBytes .int ≤ 536870912) (hcells : cells + 1 ≤ R.cells) (hslots : slots + N' ≤ R.slots) (hdg : decode cc pc = .ok (.newarray .int, 2))
    (kk : ∀ (q : Nat) (H1 : Heap), va_P D cls (ws ++ x :: (v ++ [(q, .inl (ka 0, N', .inl (fun _ => 0)))])) H1 → va_D A (ws ++ x :: (v ++ [(q, .inl (ka 0, N', .inl (fun _ => 0)))])) → va_S A H0 H1 locs → W p l e R s m args below meth c H1 locs (cells + 1) (slots + N') Q (F0 m (pc + 2) ls (.ref q :: rest))) : W p l e R s m args below meth c H locs cells slots Q (F0 m pc ls (.int n :: rest)) :=
  va_newa (atype := .int) (ty := .int) hx hb (bg hts mw_174) rfl hK hP hD hS hA (a0 := (N', .inl (fun _ => 0))) (fun cA => rfl) hn hN hbytes hcells hslots hdg (fun q cA H1 hK1 h1 h2 h3 => by
    have e9 := ka_I hK1
    subst e9
    rw [tl_app] at h1 h2
    exact kk q H1 h1 h2 h3)
theorem new_Z (hx : p.tables.exec = Jvm.exec) (hb : c.code = cc) (hts : ∀ w ∈ c0 :: big, w.before args s = true) (hK : va_K D cls (cT ka) s) (hP : va_P D cls (ws ++ x :: v) H) (hD : va_D A (ws ++ x :: v)) (hS : va_S A H0 H locs) (hA : ∀ q, H0.size ≤ q → A q) {n : Int32} {N' : Nat} (hn : ¬ n < 0) (hN : n.toNatClampNeg = N') (hbytes : N' * componentBytes .boolean ≤ 536870912) (hcells : cells + 1 ≤ R.cells) (hslots : slots + N' ≤ R.slots) (hdg : decode cc pc = .ok (.newarray .boolean, 2))
    (kk : ∀ (q : Nat) (H1 : Heap), va_P D cls (ws ++ x :: (v ++ [(q, .inl (ka 1, N', .inl (fun _ => 0)))])) H1 → va_D A (ws ++ x :: (v ++ [(q, .inl (ka 1, N', .inl (fun _ => 0)))])) → va_S A H0 H1 locs → W p l e R s m args below meth c H1 locs (cells + 1) (slots + N') Q (F0 m (pc + 2) ls (.ref q :: rest))) : W p l e R s m args below meth c H locs cells slots Q (F0 m pc ls (.int n :: rest)) :=
  va_newa (atype := .boolean) (ty := .boolean) hx hb (bg hts mw_117) rfl hK hP hD hS hA (a0 := (N', .inl (fun _ => 0))) (fun cA => rfl) hn hN hbytes hcells hslots hdg (fun q cA H1 hK1 h1 h2 h3 => by
    have e9 := ka_Z hK1
    subst e9
    rw [tl_app] at h1 h2
    exact kk q H1 h1 h2 h3)
end NW
abbrev arO (ka : Nat → ClassId) : va_E := .inl (ka 0, 60, .inl (fun _ => 0))
set_option maxHeartbeats 4000000 in
set_option maxRecDepth 100000 in
theorem c_O_init (l : Launch) (D : va_G) (ka : Nat → ClassId) (h0 sz : Nat) (ws : va_W) : Met l y_O_init (Cond.code y_O_init b_O_init 1 none :: big) ({ frames := 1, cells := 4, slots := 240, locals := 12 }) (va_Pc [.ref h0] (PC D sz (cT ka) (ws ++ [(h0, .inr (1, zO))]))) (va_Qv (fun w : va_W => ∃ q0 q1 q2 q3 : Nat, w = ws ++ (h0, .inr (1, [.ref q0, .ref q1, .ref q2, .ref q3, .int 0, .int 0])) :: [(q0, arO ka), (q1, arO ka), (q2, arO ka), (q3, arO ka)]) (BC D (va_A (ws ++ [(h0, .inr (1, zO))]) sz) (cT ka)) (va_A (ws ++ [(h0, .inr (1, zO))]) sz)) 4 240 (va_A (ws ++ [(h0, .inr (1, zO))]) sz) := by
  refine Met.ofW (cc := b_O_init) (maxL := 1) (ret := none) (by decide) rfl ?_
  intro p e s m args below meth c s₁ B hml hv
  obtain ⟨rfl, hsz, hP, hK, hD0⟩ := hv
  have hx := B.exec
  have hb := B.bytes
  have hr := B.returns
  have hlocks := B.notSynchronized
  have hts := atoms_spec (ws := Cond.code y_O_init b_O_init 1 none :: big) B.pre
  have hown : s.vm.findClass "ListForge$Outbox" = some m.cls := findClass_of_methodNamed B.named
  have hin : meth.name = "<init>" := (name_of_methodNamed B.named B.method).1
  subst hsz
  have hD := hD0.self (sz := s.heap.size)
  generalize hAe : va_A (ws ++ [(h0, .inr (1, zO))]) s.heap.size = A at hD ⊢
  have hA : ∀ q : Nat, s.heap.size ≤ q → A q := fun q h => by rw [← hAe]; exact Or.inr h
  have hS : va_S A s.heap s.heap [] := va_S.rf
  have hl := lv_entry ([.ref h0]) (n := 1) (Nat.le_of_ble_eq_true rfl)
  rw [lg_entry_eq]
  generalize (lg_sl ([.ref h0]) ++ List.replicate (1 - (lg_sl ([.ref h0])).length) Slot.unset).toArray = ls at hl ⊢
  have hl : lv_has ls 1 [(0, .ref h0)] := hl
  refine lv_aload_n hx hb d_O_init_0 rfl (lv_at hl 0 rfl) ?_
  refine W.objInit hx hb hown (bg hts mw_148) (bg hts mw_21) (bg hts mw_22) rfl (by rw [hml]; exact hl.1) rfl d_O_init_1 (Nat.le_of_ble_eq_true rfl) (Nat.le_of_ble_eq_true rfl) ?_
  refine W.eq (g2 := F0 m 4 ls []) rfl ?_
  refine lv_aload_n hx hb d_O_init_4 rfl (lv_at hl 0 rfl) ?_
  refine lv_bipush (v := 60) hx hb d_O_init_5 (by decide) ?_
  refine new_I (ka := ka) hx hb hts hK hP hD hS hA (N' := 60) (by decide) (by decide) (by decide) (Nat.le_of_ble_eq_true rfl) (Nat.le_of_ble_eq_true rfl) d_O_init_7 (fun q0 H hP hD hS => ?_)
  refine va_putF (D := D) (ci := 1) (v := .ref q0) (ty := .array .int) (C := "ListForge$Outbox") (T := T_O) (N := 6) hx hb hts in_O t_O t_O_ok n_O hown hK hP hD hS ws.length (tl_at _ _ _) rfl 0 (by decide) (bg hts mw_149) (fun _ h9 => h9) rfl hin rfl (by decide +kernel) rfl rfl (Nat.le_of_ble_eq_true rfl) d_O_init_9 (fun H locs hP hD hS => ?_)
  rw [tl_set] at hP hD
  refine lv_aload_n hx hb d_O_init_12 rfl (lv_at hl 0 rfl) ?_
  refine lv_bipush (v := 60) hx hb d_O_init_13 (by decide) ?_
  refine new_I (ka := ka) hx hb hts hK hP hD hS hA (N' := 60) (by decide) (by decide) (by decide) (Nat.le_of_ble_eq_true rfl) (Nat.le_of_ble_eq_true rfl) d_O_init_15 (fun q1 H hP hD hS => ?_)
  refine va_putF (D := D) (ci := 1) (v := .ref q1) (ty := .array .int) (C := "ListForge$Outbox") (T := T_O) (N := 6) hx hb hts in_O t_O t_O_ok n_O hown hK hP hD hS ws.length (tl_at _ _ _) rfl 1 (by decide) (bg hts mw_151) (fun _ h9 => h9) rfl hin rfl (by decide +kernel) rfl rfl (Nat.le_of_ble_eq_true rfl) d_O_init_17 (fun H locs hP hD hS => ?_)
  rw [tl_set] at hP hD
  refine lv_aload_n hx hb d_O_init_20 rfl (lv_at hl 0 rfl) ?_
  refine lv_bipush (v := 60) hx hb d_O_init_21 (by decide) ?_
  refine new_I (ka := ka) hx hb hts hK hP hD hS hA (N' := 60) (by decide) (by decide) (by decide) (Nat.le_of_ble_eq_true rfl) (Nat.le_of_ble_eq_true rfl) d_O_init_23 (fun q2 H hP hD hS => ?_)
  refine va_putF (D := D) (ci := 1) (v := .ref q2) (ty := .array .int) (C := "ListForge$Outbox") (T := T_O) (N := 6) hx hb hts in_O t_O t_O_ok n_O hown hK hP hD hS ws.length (tl_at _ _ _) rfl 2 (by decide) (bg hts mw_153) (fun _ h9 => h9) rfl hin rfl (by decide +kernel) rfl rfl (Nat.le_of_ble_eq_true rfl) d_O_init_25 (fun H locs hP hD hS => ?_)
  rw [tl_set] at hP hD
  refine lv_aload_n hx hb d_O_init_28 rfl (lv_at hl 0 rfl) ?_
  refine lv_bipush (v := 60) hx hb d_O_init_29 (by decide) ?_
  refine new_I (ka := ka) hx hb hts hK hP hD hS hA (N' := 60) (by decide) (by decide) (by decide) (Nat.le_of_ble_eq_true rfl) (Nat.le_of_ble_eq_true rfl) d_O_init_31 (fun q3 H hP hD hS => ?_)
  refine va_putF (D := D) (ci := 1) (v := .ref q3) (ty := .array .int) (C := "ListForge$Outbox") (T := T_O) (N := 6) hx hb hts in_O t_O t_O_ok n_O hown hK hP hD hS ws.length (tl_at _ _ _) rfl 3 (by decide) (bg hts mw_155) (fun _ h9 => h9) rfl hin rfl (by decide +kernel) rfl rfl (Nat.le_of_ble_eq_true rfl) d_O_init_33 (fun H locs hP hD hS => ?_)
  rw [tl_set] at hP hD
  refine W.widen (k := 4) (n := 240) (by decide) (by decide) ?_
  exact W.vret hx hb hr (fun t ht hW => ⟨⟨_, rfl, ⟨q0, q1, q2, q3, rfl⟩, by rw [ht]; exact hP, va_K.moved hW.alike hK, hD⟩, hS.F ht⟩) hS.2.2 d_O_init_36
