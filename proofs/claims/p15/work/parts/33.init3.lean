abbrev sE (ka : Nat → ClassId) (a : Nat → Nat) (j : Nat) : va_E := .inl (ka 3, 12, .inr (.inr (.inr (.inr (fun i => if i < j then some (a i) else none)))))
def wL (ws : va_W) (h0 : Nat) (fs : List Value) (ka : Nat → ClassId) (qa : Nat) (a : Nat → Nat) (j : Nat) : va_W := ws ++ (h0, .inr (0, fs)) :: ((qa, sE ka a j) :: fw j a (fun _ => .inr (3, iS)))
theorem fw_next {j : Nat} {a : Nat → Nat} {w : Nat → va_E} {q : Nat} : fw (j + 1) (va_up a j q) w = fw j a w ++ [(q, w j)] := by
  unfold fw
  rw [List.range_succ, List.map_append]
  congr 1
  · apply List.map_congr_left
    intro i hi
    rw [va_up_ne _ _ (Nat.ne_of_lt (List.mem_range.mp hi))]
  · simp [va_up_self]
theorem up_next {a : Nat → Nat} {j q : Nat} : va_up (fun i => if i < j then some (a i) else none) j (some q) = fun i => if i < j + 1 then some (va_up a j q i) else none := by
  funext i
  by_cases h : i = j
  · subst h
    rw [va_up_self, if_pos (by omega), va_up_self]
  · rw [va_up_ne _ _ h, va_up_ne _ _ h]
    by_cases h2 : i < j
    · rw [if_pos h2, if_pos (by omega)]
    · rw [if_neg h2, if_neg (by omega)]
theorem tl_set1 {α : Type} (ws v : List α) (x y z y2 : α) : ((ws ++ x :: (y :: v)) ++ [z]).set (ws.length + 1) y2 = ws ++ x :: (y2 :: (v ++ [z])) := by
  simp [List.set_append]
theorem tl_at1 {α : Type} (ws v : List α) (x y z : α) : ((ws ++ x :: (y :: v)) ++ [z])[ws.length + 1]? = some y := by
  simp [List.getElem?_append]
theorem wL_next {ws : va_W} {h0 : Nat} {fs : List Value} {ka : Nat → ClassId} {qa : Nat} {a : Nat → Nat} {j q : Nat} : ((wL ws h0 fs ka qa a j) ++ [(q, (Sum.inr (3, iS) : va_E))]).set (ws.length + 1) (qa, .inl (ka 3, 12, .inr (.inr (.inr (.inr (va_up (fun i => if i < j then some (a i) else none) j (some q))))))) = wL ws h0 fs ka qa (va_up a j q) (j + 1) := by
  unfold wL
  rw [tl_set1, fw_next, up_next]
theorem la_at {α : Type} (X : List α) (y : α) : (X ++ [y])[X.length]? = some y := by simp
theorem la_set {α : Type} (X : List α) (y z : α) : (X ++ [y]).set X.length z = X ++ [z] := by simp
abbrev fL (x : Int32) (qa : Nat) : List Value := [.int x, .ref qa, .null, .null, .int 0, .int 0, .int 0, .int 0, .double 0, .int 0, .int 0, .int 0]
section LLP
variable {p : Program} {l : Launch} {e : Env} {R : Room} {s : State} {m : MethodId} {args : Array Value} {below : List Frame} {meth : Method} {c : Code} {Q : State → Prop} {D : va_G} {A : Nat → Prop} {H0 : Heap} {ka : Nat → ClassId} {c0 : Cond} {ws : va_W} {h0 qa : Nat} {x : Int32}
set_option maxHeartbeats 4000000 in
theorem L_loop (hx : p.tables.exec = Jvm.exec) (hb : c.code = b_L_init) (hml : c.maxLocals = 3) (hown : s.vm.findClass "ListForge$MailingList" = some m.cls) (hts : ∀ w ∈ c0 :: big, w.before args s = true) (hK : va_K D cls (cT ka) s) (hA : ∀ q, H0.size ≤ q → A q) (hR : 13 ≤ R.cells ∧ 108 ≤ R.slots) (hRF : R = { frames := 2, cells := R.cells, slots := R.slots, locals := 40 })
    (kk : ∀ (a : Nat → Nat) (H : Heap) (locs : List Loc) (ls : Array Slot), va_P D cls (wL ws h0 (fL x qa) ka qa a 12) H → va_D A (wL ws h0 (fL x qa) ka qa a 12) → va_S A H0 H locs → lv_has ls 3 [(0, .ref h0), (1, .int x), (2, .int (nI 12))] → W p l e R s m args below meth c H locs (1 + 12) (12 + 8 * 12) Q (F0 m 45 ls [])) :
    ∀ (n j : Nat) (a : Nat → Nat) (H : Heap) (locs : List Loc) (ls : Array Slot), j ≤ 12 → 13 ≤ j + n → va_P D cls (wL ws h0 (fL x qa) ka qa a j) H → va_D A (wL ws h0 (fL x qa) ka qa a j) → va_S A H0 H locs → lv_has ls 3 [(0, .ref h0), (1, .int x), (2, .int (nI j))] → W p l e R s m args below meth c H locs (1 + j) (12 + 8 * j) Q (F0 m 20 ls []) := by
  intro n
  induction n with
  | zero => intro j a H locs ls h1 h2; exact absurd h2 (by omega)
  | succ n ih =>
    intro j a H locs ls hj hn hP hD hS hl
    refine lv_iload_n hx hb d_L_init_20 rfl (lv_at hl 2 rfl) ?_
    refine lv_bipush (v := 12) hx hb d_L_init_21 (by decide) ?_
    refine lv_icmp_ge (tgt := 45) hx hb d_L_init_23 (by decide) (fun c1 => ?_) (fun c1 => ?_)
    · obtain rfl := nI_eq_of (x := 12) (N := 12) (rfl) (by decide) hj c1
      exact kk a H locs ls hP hD hS hl
    · have hlt : j < 12 := nI_lt_of (x := 12) (N := 12) (rfl) hj c1
      refine lv_aload_n hx hb d_L_init_26 rfl (lv_at hl 0 rfl) ?_
      refine va_get (D := D) (ci := 0) (v := .ref qa) (C := "ListForge$MailingList") (T := T_L) (N := 12) hx hb hts in_L hown hK hP ws.length (tl_at _ _ _) rfl 1 (by decide) (bg hts mw_76) (fun _ h9 => h9) rfl d_L_init_27 ?_
      refine lv_iload_n hx hb d_L_init_30 rfl (lv_at hl 2 rfl) ?_
      refine va_new (ci := 3) (fs := zS) (C := "ListForge$Subscription") (T := T_S) (N := 8) hx hb hts in_S t_S t_S_ok hown (bg hts mw_30) (bg hts mw_32) (bg hts mw_3) hK hP hD hS hA rfl (fun k hk => by rcases (show k = 0 ∨ k = 1 ∨ k = 2 ∨ k = 3 ∨ k = 4 ∨ k = 5 ∨ k = 6 ∨ k = 7 by omega) with rfl | rfl | rfl | rfl | rfl | rfl | rfl | rfl <;> rfl) (by omega) (by omega) d_L_init_31 (fun q H hP hD hS => ?_)
      refine lv_dup hx hb d_L_init_34 rfl ?_
      have hFc : ∀ z, va_A (wL ws h0 (fL x qa) ka qa a j ++ [(q, .inr (3, zS))]) H.size z → A z := fun z h => h.elim (fun ⟨k, e, hk⟩ => hD.2 k _ hk) (fun h => hA z (Nat.le_trans hS.1 h))
      refine va_callv (va_runI (As := []) (rest := [.ref q, .int (nI j), .ref qa]) ⟨hx, hb, hml, hown, hts⟩ (c_S_init l D q H.size _ (cT ka) (wL ws h0 (fL x qa) ka qa a j ++ [(q, .inr (3, zS))]) (la_at _ _)) (cwI 0 hts (gi_c mw_35 gi_0) rfl rfl rfl (bg hts mw_3) (bg hts mw_33) (bg hts mw_34) rfl (by decide +kernel) (by rw [hRF]; exact ⟨Nat.le_of_ble_eq_true rfl, Nat.le_of_ble_eq_true rfl⟩)) ⟨fun a U g mk q => by obtain ⟨q0, q1, qP, qK, qD⟩ := q; exact ⟨q0, q1, qP, va_K.moved (u := U) (U := U.calling g mk a) (Vm.Alike.refl U.vm) qK, qD⟩, fun U hU hW => ⟨rfl, by rw [hU], by rw [hU]; exact hP, va_K.moved hW.alike hK, hD.weaken (fun _ _ _ _ => trivial)⟩⟩ rfl rfl hl.1 rfl (lv_room (Nat.le_of_ble_eq_true rfl)) d_L_init_35 ⟨by omega, by omega⟩) hS (fun q _ h => hFc q h) hFc (fun u t H1 locs ht hvm hw hB hz1 hk1 hS => ?_)
      obtain ⟨hP1, hK1, hD1⟩ := hB
      rw [ht, hw, la_set] at hP1
      rw [hw, la_set] at hD1
      have hD1 : va_D A (wL ws h0 (fL x qa) ka qa a j ++ [(q, .inr (3, iS))]) := ⟨hD1.1, fun k z hk => hFc _ (hD1.2 k z hk)⟩
      have hjn : (nI j).toNatClampNeg = j := cl_of rfl (by omega)
      refine va_astq (D := D) (r := ("ListForge$Subscription", T_S, 8)) hx hb hK hP1 hD1 hS (ws.length + 1) 3 (wL ws h0 (fL x qa) ka qa a j).length 3 (tl_at1 _ _ _ _ _) rfl (la_at _ _) rfl (vp_in_nI hlt (by decide)) d_L_init_38 (fun H locs hP hD hS => ?_)
      rw [hjn, wL_next] at hP hD
      refine lv_iinc (v := nI (j + 1)) (lv' := [(2, .int (nI (j + 1))), (0, .ref h0), (1, .int x)]) hx hb d_L_init_39 hl (k := 2) rfl (nI_1 _) (by decide) rfl (fun ls hl => ?_)
      refine lv_goto (tgt := 20) hx hb d_L_init_42 (by decide) ?_
      refine W.widen (k := 1 + (j + 1)) (n := 12 + 8 * (j + 1)) (by omega) (by omega) ?_
      exact ih (j + 1) _ H _ ls (by omega) (by omega) hP hD hS (lv_sub hl [1, 2, 0] rfl)
end LLP
