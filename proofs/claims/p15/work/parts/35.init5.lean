/-- where the lists' cells lie -/
def BK : Type := (Nat → Nat) × (Nat → Nat) × (Nat → Nat) × (Nat → Nat) × (Nat → Nat → Nat)
def BK.hL (B : BK) : Nat → Nat := B.1
def BK.qa (B : BK) : Nat → Nat := B.2.1
def BK.qb (B : BK) : Nat → Nat := B.2.2.1
def BK.qc (B : BK) : Nat → Nat := B.2.2.2.1
def BK.a (B : BK) : Nat → Nat → Nat := B.2.2.2.2
def BK.up (B : BK) (j h qa qb qc : Nat) (a : Nat → Nat) : BK := (va_up B.hL j h, va_up B.qa j qa, va_up B.qb j qb, va_up B.qc j qc, va_up B.a j a)
def blk (ka : Nat → ClassId) (B : BK) (i : Nat) : va_W := (B.hL i, .inr (0, iL (nI i) (B.qa i) (B.qb i) (B.qc i))) :: vL ka (B.qa i) (B.qb i) (B.qc i) (B.a i)
def blks (ka : Nat → ClassId) (B : BK) (j : Nat) : va_W := (List.range j).flatMap (blk ka B)
theorem blks_next {ka : Nat → ClassId} {B : BK} {j h qa qb qc : Nat} {a : Nat → Nat} : blks ka (B.up j h qa qb qc a) (j + 1) = blks ka B j ++ ((h, (Sum.inr (0, iL (nI j) qa qb qc) : va_E)) :: vL ka qa qb qc a) := by
  unfold blks
  rw [List.range_succ, List.flatMap_append]
  congr 1
  · rw [List.flatMap_def, List.flatMap_def]
    congr 1
    apply List.map_congr_left
    intro i hi
    have hne : i ≠ j := Nat.ne_of_lt (List.mem_range.mp hi)
    simp [blk, BK.up, BK.hL, BK.qa, BK.qb, BK.qc, BK.a, va_up_ne _ _ hne]
  · simp [blk, BK.up, BK.hL, BK.qa, BK.qb, BK.qc, BK.a, va_up_self]
abbrev lE (ka : Nat → ClassId) (a : Nat → Nat) (j : Nat) : va_E := .inl (ka 2, 3, .inr (.inr (.inr (.inr (fun i => if i < j then some (a i) else none)))))
abbrev fF (ql : Nat) : List Value := [.ref ql, .null, .null, .int 0, .int 0, .int 0]
def wF (ws : va_W) (h0 : Nat) (ka : Nat → ClassId) (ql : Nat) (B : BK) (j : Nat) : va_W := ws ++ (h0, .inr (4, fF ql)) :: ((ql, lE ka B.hL j) :: blks ka B j)
theorem tl_set2 {α : Type} (ws b v : List α) (x y y2 : α) : ((ws ++ x :: (y :: b)) ++ v).set (ws.length + 1) y2 = ws ++ x :: (y2 :: (b ++ v)) := by
  simp [List.set_append]
theorem tl_at2 {α : Type} (ws b v : List α) (x y : α) : ((ws ++ x :: (y :: b)) ++ v)[ws.length + 1]? = some y := by
  simp [List.getElem?_append]
theorem wF_next {ws : va_W} {h0 : Nat} {ka : Nat → ClassId} {ql : Nat} {B : BK} {j h qa qb qc : Nat} {a : Nat → Nat} : ((wF ws h0 ka ql B j) ++ ((h, (Sum.inr (0, iL (nI j) qa qb qc) : va_E)) :: vL ka qa qb qc a)).set (ws.length + 1) (ql, .inl (ka 2, 3, .inr (.inr (.inr (.inr (va_up (fun i => if i < j then some (B.hL i) else none) j (some h))))))) = wF ws h0 ka ql (B.up j h qa qb qc a) (j + 1) := by
  unfold wF
  rw [tl_set2, blks_next, up_next]
  rfl
section FLP
variable {p : Program} {l : Launch} {e : Env} {R : Room} {s : State} {m : MethodId} {args : Array Value} {below : List Frame} {meth : Method} {c : Code} {Q : State → Prop} {D : va_G} {A : Nat → Prop} {H0 : Heap} {ka : Nat → ClassId} {c0 : Cond} {ws : va_W} {h0 ql : Nat}
set_option maxHeartbeats 4000000 in
theorem F_loop (hx : p.tables.exec = Jvm.exec) (hb : c.code = b_F_init) (hml : c.maxLocals = 2) (hown : s.vm.findClass "ListForge" = some m.cls) (hts : ∀ w ∈ c0 :: big, w.before args s = true) (hAO : va_AO "ListForge$Subscription" s) (hK : va_K D cls (cT ka) s) (hA : ∀ q, H0.size ≤ q → A q) (hR : 49 ≤ R.cells ∧ 429 ≤ R.slots) (hRF : R = { frames := 3, cells := R.cells, slots := R.slots, locals := 70 })
    (kk : ∀ (B : BK) (H : Heap) (locs : List Loc) (ls : Array Slot), va_P D cls (wF ws h0 ka ql B 3) H → va_D A (wF ws h0 ka ql B 3) → va_S A H0 H locs → lv_has ls 2 [(0, .ref h0), (1, .int (nI 3))] → W p l e R s m args below meth c H locs (1 + 16 * 3) (3 + 142 * 3) Q (F0 m 39 ls [])) :
    ∀ (n j : Nat) (B : BK) (H : Heap) (locs : List Loc) (ls : Array Slot), j ≤ 3 → 4 ≤ j + n → va_P D cls (wF ws h0 ka ql B j) H → va_D A (wF ws h0 ka ql B j) → va_S A H0 H locs → lv_has ls 2 [(0, .ref h0), (1, .int (nI j))] → W p l e R s m args below meth c H locs (1 + 16 * j) (3 + 142 * j) Q (F0 m 14 ls []) := by
  intro n
  induction n with
  | zero => intro j B H locs ls h1 h2; exact absurd h2 (by omega)
  | succ n ih =>
    intro j B H locs ls hj hn hP hD hS hl
    refine lv_iload_n hx hb d_F_init_14 rfl (lv_at hl 1 rfl) ?_
    refine lv_iconst (v := 3) hx hb d_F_init_15 (by decide) ?_
    refine lv_icmp_ge (tgt := 39) hx hb d_F_init_16 (by decide) (fun c1 => ?_) (fun c1 => ?_)
    · obtain rfl := nI_eq_of (x := 3) (N := 3) (rfl) (by decide) hj c1
      exact kk B H locs ls hP hD hS hl
    · have hlt : j < 3 := nI_lt_of (x := 3) (N := 3) (rfl) hj c1
      refine lv_aload_n hx hb d_F_init_19 rfl (lv_at hl 0 rfl) ?_
      refine va_get (D := D) (ci := 4) (v := .ref ql) (C := "ListForge") (T := T_F) (N := 6) hx hb hts in_F hown hK hP ws.length (tl_at _ _ _) rfl 0 (by decide) (bg hts mw_175) (fun _ h9 => h9) rfl d_F_init_20 ?_
      refine lv_iload_n hx hb d_F_init_23 rfl (lv_at hl 1 rfl) ?_
      refine va_new (ci := 0) (fs := zL) (C := "ListForge$MailingList") (T := T_L) (N := 12) hx hb hts in_L t_L t_L_ok hown (bg hts mw_23) (bg hts mw_25) (bg hts mw_2) hK hP hD hS hA rfl (fun k hk => by rcases (show k = 0 ∨ k = 1 ∨ k = 2 ∨ k = 3 ∨ k = 4 ∨ k = 5 ∨ k = 6 ∨ k = 7 ∨ k = 8 ∨ k = 9 ∨ k = 10 ∨ k = 11 by omega) with rfl | rfl | rfl | rfl | rfl | rfl | rfl | rfl | rfl | rfl | rfl | rfl <;> rfl) (by omega) (by omega) d_F_init_24 (fun q H hP hD hS => ?_)
      refine lv_dup hx hb d_F_init_27 rfl ?_
      refine lv_iload_n hx hb d_F_init_28 rfl (lv_at hl 1 rfl) ?_
      have hFc : ∀ z, va_A (wF ws h0 ka ql B j ++ [(q, .inr (0, zL))]) H.size z → A z := fun z h => h.elim (fun ⟨k, e, hk⟩ => hD.2 k _ hk) (fun h => hA z (Nat.le_trans hS.1 h))
      refine va_callv (va_runI (As := [.int (nI j)]) (rest := [.ref q, .int (nI j), .ref ql]) ⟨hx, hb, hml, hown, hts⟩ (c_L_init l D ka q H.size (wF ws h0 ka ql B j) (nI j)) (cwI 1 hts (gi_c mw_28 gi_0) rfl rfl rfl (bg hts mw_2) (bg hts mw_26) (bg hts mw_27) rfl (by decide +kernel) (by rw [hRF]; exact ⟨Nat.le_of_ble_eq_true rfl, Nat.le_of_ble_eq_true rfl⟩)) ⟨fun a U g mk q => by obtain ⟨q0, qa, q1, qP, qK, qD⟩ := q; exact ⟨q0, va_AO.moved (u := U) (U := U.calling g mk a) (Vm.Alike.refl U.vm) qa, q1, qP, va_K.moved (u := U) (U := U.calling g mk a) (Vm.Alike.refl U.vm) qK, qD⟩, fun U hU hW => ⟨rfl, va_AO.moved hW.alike hAO, by rw [hU], by rw [hU]; exact hP, va_K.moved hW.alike hK, hD.weaken (fun _ _ _ _ => trivial)⟩⟩ rfl rfl hl.1 rfl (lv_room (Nat.le_of_ble_eq_true rfl)) d_F_init_29 ⟨by omega, by omega⟩) hS (fun q _ h => hFc q h) hFc (fun u t H1 locs ht hvm hw hB hz1 hk1 hS => ?_)
      obtain ⟨hP1, hK1, hD1⟩ := hB
      obtain ⟨qa, qb, qc, a, rfl⟩ := hw
      rw [ht] at hP1
      have hD1 : va_D A (wF ws h0 ka ql B j ++ ((q, (Sum.inr (0, iL (nI j) qa qb qc) : va_E)) :: vL ka qa qb qc a)) := ⟨hD1.1, fun k z hk => hFc _ (hD1.2 k z hk)⟩
      have hjn : (nI j).toNatClampNeg = j := cl_of rfl (by omega)
      refine va_astq (D := D) (r := ("ListForge$MailingList", T_L, 12)) hx hb hK hP1 hD1 hS (ws.length + 1) 2 (wF ws h0 ka ql B j).length 0 (tl_at2 _ _ _ _ _) rfl (tl_at _ _ _) rfl (vp_in_nI hlt (by decide)) d_F_init_32 (fun H locs hP hD hS => ?_)
      rw [hjn, wF_next] at hP hD
      refine lv_iinc (v := nI (j + 1)) (lv' := [(1, .int (nI (j + 1))), (0, .ref h0)]) hx hb d_F_init_33 hl (k := 1) rfl (nI_1 _) (by decide) rfl (fun ls hl => ?_)
      refine lv_goto (tgt := 14) hx hb d_F_init_36 (by decide) ?_
      refine W.widen (k := 1 + 16 * (j + 1)) (n := 3 + 142 * (j + 1)) (by omega) (by omega) ?_
      exact ih (j + 1) _ H _ ls (by omega) (by omega) hP hD hS (lv_sub hl [1, 0] rfl)
end FLP
