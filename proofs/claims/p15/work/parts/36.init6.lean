abbrev pE (ka : Nat → ClassId) (a : Nat → Nat) (j : Nat) : va_E := .inl (ka 4, 40, .inr (.inr (.inr (.inr (fun i => if i < j then some (a i) else none)))))
def wP (X : va_W) (ka : Nat → ClassId) (qp : Nat) (a : Nat → Nat) (j : Nat) : va_W := X ++ (qp, pE ka a j) :: fw j a (fun _ => .inr (2, zP))
theorem tl_set0 {α : Type} (X v : List α) (y z y2 : α) : ((X ++ y :: v) ++ [z]).set X.length y2 = X ++ y2 :: (v ++ [z]) := by
  simp
theorem tl_at0 {α : Type} (X v : List α) (y z : α) : ((X ++ y :: v) ++ [z])[X.length]? = some y := by
  simp
theorem wP_next {X : va_W} {ka : Nat → ClassId} {qp : Nat} {a : Nat → Nat} {j q : Nat} : ((wP X ka qp a j) ++ [(q, (Sum.inr (2, zP) : va_E))]).set X.length (qp, .inl (ka 4, 40, .inr (.inr (.inr (.inr (va_up (fun i => if i < j then some (a i) else none) j (some q))))))) = wP X ka qp (va_up a j q) (j + 1) := by
  unfold wP
  rw [tl_set0, fw_next, up_next]
section FLP2
variable {p : Program} {l : Launch} {e : Env} {R : Room} {s : State} {m : MethodId} {args : Array Value} {below : List Frame} {meth : Method} {c : Code} {Q : State → Prop} {D : va_G} {A : Nat → Prop} {H0 : Heap} {ka : Nat → ClassId} {c0 : Cond} {X : va_W} {h0 ql qp i0 k0 s0 : Nat}
set_option maxHeartbeats 4000000 in
theorem F_loop2 (hx : p.tables.exec = Jvm.exec) (hb : c.code = b_F_init) (hml : c.maxLocals = 2) (hown : s.vm.findClass "ListForge" = some m.cls) (hts : ∀ w ∈ c0 :: big, w.before args s = true) (hNw : va_Nw (.methodLinkNest "ListForge" 24 y_P_init "ListForge") s) (hK : va_K D cls (cT ka) s) (hA : ∀ q, H0.size ≤ q → A q) (hi0 : X[i0]? = some (h0, .inr (4, [.ref ql, .ref qp, .null, .int 0, .int 0, .int 0]))) (hR : k0 + 40 ≤ R.cells ∧ s0 + 160 ≤ R.slots) (hRF : R = { frames := 3, cells := R.cells, slots := R.slots, locals := 70 })
    (kk : ∀ (a : Nat → Nat) (H : Heap) (locs : List Loc) (ls : Array Slot), va_P D cls (wP X ka qp a 40) H → va_D A (wP X ka qp a 40) → va_S A H0 H locs → lv_has ls 2 [(0, .ref h0), (1, .int (nI 40))] → W p l e R s m args below meth c H locs (k0 + 40) (s0 + 4 * 40) Q (F0 m 75 ls [])) :
    ∀ (n j : Nat) (a : Nat → Nat) (H : Heap) (locs : List Loc) (ls : Array Slot), j ≤ 40 → 41 ≤ j + n → va_P D cls (wP X ka qp a j) H → va_D A (wP X ka qp a j) → va_S A H0 H locs → lv_has ls 2 [(0, .ref h0), (1, .int (nI j))] → W p l e R s m args below meth c H locs (k0 + j) (s0 + 4 * j) Q (F0 m 50 ls []) := by
  intro n
  induction n with
  | zero => intro j B H locs ls h1 h2; exact absurd h2 (by omega)
  | succ n ih =>
    intro j a H locs ls hj hn hP hD hS hl
    refine lv_iload_n hx hb d_F_init_50 rfl (lv_at hl 1 rfl) ?_
    refine lv_bipush (v := 40) hx hb d_F_init_51 (by decide) ?_
    refine lv_icmp_ge (tgt := 75) hx hb d_F_init_53 (by decide) (fun c1 => ?_) (fun c1 => ?_)
    · obtain rfl := nI_eq_of (x := 40) (N := 40) (rfl) (by decide) hj c1
      exact kk a H locs ls hP hD hS hl
    · have hlt : j < 40 := nI_lt_of (x := 40) (N := 40) (rfl) hj c1
      refine lv_aload_n hx hb d_F_init_56 rfl (lv_at hl 0 rfl) ?_
      have hi1 : (wP X ka qp a j)[i0]? = some (h0, .inr (4, [.ref ql, .ref qp, .null, .int 0, .int 0, .int 0])) := by
        unfold wP
        rw [List.getElem?_append_left (List.getElem?_eq_some_iff.mp hi0).1]
        exact hi0
      refine va_get (D := D) (ci := 4) (v := .ref qp) (C := "ListForge") (T := T_F) (N := 6) hx hb hts in_F hown hK hP i0 hi1 rfl 1 (by decide) (bg hts mw_176) (fun _ h9 => h9) rfl d_F_init_57 ?_
      refine lv_iload_n hx hb d_F_init_60 rfl (lv_at hl 1 rfl) ?_
      refine va_new (ci := 2) (fs := zP) (C := "ListForge$Post") (T := T_P) (N := 4) hx hb hts in_P t_P t_P_ok hown (bg hts mw_118) (bg hts mw_120) (bg hts mw_4) hK hP hD hS hA rfl (fun k hk => by rcases (show k = 0 ∨ k = 1 ∨ k = 2 ∨ k = 3 by omega) with rfl | rfl | rfl | rfl <;> rfl) (by omega) (by omega) d_F_init_61 (fun q H hP hD hS => ?_)
      refine lv_dup hx hb d_F_init_64 rfl ?_
      have hFc : ∀ z, va_A (wP X ka qp a j ++ [(q, .inr (2, zP))]) H.size z → A z := fun z h => h.elim (fun ⟨k, e, hk⟩ => hD.2 k _ hk) (fun h => hA z (Nat.le_trans hS.1 h))
      refine va_callv (va_runIN (As := []) (rest := [.ref q, .int (nI j), .ref qp]) ⟨hx, hb, hml, hown, hts⟩ (c_P_init l D q H.size (cT ka) (wP X ka qp a j ++ [(q, .inr (2, zP))])) ⟨va_cnB 0 hts (gi_c mw_123 gi_0) rfl rfl rfl hNw (bg hts mw_4) (by decide +kernel) (by rw [hRF]; exact ⟨Nat.le_of_ble_eq_true rfl, Nat.le_of_ble_eq_true rfl⟩), rfl, bg hts mw_122⟩ ⟨fun a U g mk q => by obtain ⟨q0, q1, qP, qK, qD⟩ := q; exact ⟨q0, q1, qP, va_K.moved (u := U) (U := U.calling g mk a) (Vm.Alike.refl U.vm) qK, qD⟩, fun U hU hW => ⟨rfl, by rw [hU], by rw [hU]; exact hP, va_K.moved hW.alike hK, hD.weaken (fun _ _ _ _ => trivial)⟩⟩ rfl rfl hl.1 rfl (lv_room (Nat.le_of_ble_eq_true rfl)) d_F_init_65 ⟨by omega, by omega⟩) hS (fun q _ h => hFc q h) hFc (fun u t H1 locs ht hvm hw hB hz1 hk1 hS => ?_)
      obtain ⟨hP1, hK1, hD1⟩ := hB
      rw [ht, hw] at hP1
      rw [hw] at hD1
      have hD1 : va_D A (wP X ka qp a j ++ [(q, (Sum.inr (2, zP) : va_E))]) := ⟨hD1.1, fun k z hk => hFc _ (hD1.2 k z hk)⟩
      have hjn : (nI j).toNatClampNeg = j := cl_of rfl (by omega)
      refine va_astq (D := D) (r := ("ListForge$Post", T_P, 4)) hx hb hK hP1 hD1 hS X.length 4 (wP X ka qp a j).length 2 (tl_at0 _ _ _ _) rfl (la_at _ _) rfl (vp_in_nI hlt (by decide)) d_F_init_68 (fun H locs hP hD hS => ?_)
      rw [hjn, wP_next] at hP hD
      refine lv_iinc (v := nI (j + 1)) (lv' := [(1, .int (nI (j + 1))), (0, .ref h0)]) hx hb d_F_init_69 hl (k := 1) rfl (nI_1 _) (by decide) rfl (fun ls hl => ?_)
      refine lv_goto (tgt := 50) hx hb d_F_init_72 (by decide) ?_
      refine W.widen (k := k0 + (j + 1)) (n := s0 + 4 * (j + 1)) (by omega) (by omega) ?_
      exact ih (j + 1) _ H _ ls (by omega) (by omega) hP hD hS (lv_sub hl [1, 0] rfl)
end FLP2
