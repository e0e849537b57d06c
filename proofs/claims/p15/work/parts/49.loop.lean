def ST_ask (RI : Nat → Mem → Mem → Prop) (L : Nat) : Prop := ∀ (i : Nat) (t u : Mem), RI i t u → i + 5 ≤ L → ∀ (x : Int32) (a : Int32) (w : Int32), ∀ (n : Nat) (r : Int32) (t2 : Mem) (r2 : Int32) (u2 : Mem), askR t x a w = (n, r, t2) → mAsk u x a w = (r2, u2) → RI (i + 5) t2 u2
def ST_confirm (RI : Nat → Mem → Mem → Prop) (L : Nat) : Prop := ∀ (i : Nat) (t u : Mem), RI i t u → i + 5 ≤ L → ∀ (k0 : Int32), ∀ (n : Nat) (r : Int32) (t2 : Mem) (r2 : Int32) (u2 : Mem), cfR t k0 n r t2 → cfM u k0 r2 u2 → RI (i + 5) t2 u2
def ST_leave (RI : Nat → Mem → Mem → Prop) (L : Nat) : Prop := ∀ (i : Nat) (t u : Mem), RI i t u → i + 5 ≤ L → ∀ (x : Int32) (a : Int32), ∀ (n : Nat) (r : Int32) (t2 : Mem) (r2 : Int32) (u2 : Mem), leaveR t x a = (n, r, t2) → mLeave u x a = (r2, u2) → RI (i + 5) t2 u2
def ST_way (RI : Nat → Mem → Mem → Prop) (L : Nat) : Prop := ∀ (i : Nat) (t u : Mem), RI i t u → i + 5 ≤ L → ∀ (x : Int32) (a : Int32) (w : Int32), ∀ (n : Nat) (r : Int32) (t2 : Mem) (r2 : Int32) (u2 : Mem), wayR t x a w = (n, r, t2) → mWay u x a w = (r2, u2) → RI (i + 5) t2 u2
def ST_moderator (RI : Nat → Mem → Mem → Prop) (L : Nat) : Prop := ∀ (i : Nat) (t u : Mem), RI i t u → i + 5 ≤ L → ∀ (x : Int32) (a : Int32) (v : Int32), b01 v → ∀ (n : Nat) (r : Int32) (t2 : Mem) (r2 : Int32) (u2 : Mem), modR t x a v = (n, r, t2) → mMod u x a v = (r2, u2) → RI (i + 5) t2 u2
def ST_ban (RI : Nat → Mem → Mem → Prop) (L : Nat) : Prop := ∀ (i : Nat) (t u : Mem), RI i t u → i + 5 ≤ L → ∀ (x : Int32) (a : Int32) (v : Int32), b01 v → ∀ (n : Nat) (r : Int32) (t2 : Mem) (r2 : Int32) (u2 : Mem), banR t x a v = (n, r, t2) → mBan u x a v = (r2, u2) → RI (i + 5) t2 u2
def ST_setting (RI : Nat → Mem → Mem → Prop) (L : Nat) : Prop := ∀ (i : Nat) (t u : Mem), RI i t u → i + 5 ≤ L → ∀ (x : Int32) (w : Int32) (v : UInt64), ∀ (n : Nat) (r : UInt64) (t2 : Mem) (r2 : UInt64) (u2 : Mem), setR t x w v = (n, r, t2) → mSet u x w v = (r2, u2) → RI (i + 5) t2 u2
def ST_post (RI : Nat → Mem → Mem → Prop) (L : Nat) : Prop := ∀ (i : Nat) (t u : Mem), RI i t u → i + 5 ≤ L → ∀ (x : Int32) (a : Int32) (z : Int32) (w : Int32), ∀ (n : Nat) (r : Int32) (t2 : Mem) (r2 : Int32) (u2 : Mem), postR t x a z w = (n, r, t2) → mPost u x a z w = (r2, u2) → RI (i + 5) t2 u2
def ST_judge (RI : Nat → Mem → Mem → Prop) (L : Nat) : Prop := ∀ (i : Nat) (t u : Mem), RI i t u → i + 5 ≤ L → ∀ (m0 : Int32) (p0 : Int32) (h0 : Int32), ∀ (n : Nat) (r : Int32) (t2 : Mem) (r2 : Int32) (u2 : Mem), judR t m0 p0 h0 = (n, r, t2) → mJud u m0 p0 h0 = (r2, u2) → RI (i + 5) t2 u2
def ST_bounce (RI : Nat → Mem → Mem → Prop) (L : Nat) : Prop := ∀ (i : Nat) (t u : Mem), RI i t u → i + 5 ≤ L → ∀ (x : Int32) (a : Int32) (h : Int32), b01 h → ∀ (n : Nat) (r : UInt64) (t2 : Mem) (r2 : UInt64) (u2 : Mem), bncR t x a h = (n, r, t2) → mBnc u x a h = (r2, u2) → RI (i + 5) t2 u2
def ST_renew (RI : Nat → Mem → Mem → Prop) (L : Nat) : Prop := ∀ (i : Nat) (t u : Mem), RI i t u → i + 5 ≤ L → ∀ (x : Int32) (a : Int32), ∀ (n : Nat) (r : Int32) (t2 : Mem) (r2 : Int32) (u2 : Mem), renewR t x a = (n, r, t2) → mRenew u x a = (r2, u2) → RI (i + 5) t2 u2
def ST_tick (RI : Nat → Mem → Mem → Prop) (L : Nat) : Prop := ∀ (i : Nat) (t u : Mem), RI i t u → i + 5 ≤ L → ∀ (d0 : Int32), ∀ (n : Nat) (r : Int32) (t2 : Mem) (r2 : Int32) (u2 : Mem), tickR t d0 = (n, r, t2) → mTick u d0 = (r2, u2) → RI (i + 5) t2 u2
def ST_told (RI : Nat → Mem → Mem → Prop) (L : Nat) : Prop := ∀ (i : Nat) (t u : Mem), RI i t u → i + 5 ≤ L → ∀ (x : Int32) (a : Int32) (w : Int32), ∀ (n : Nat) (r : Int32) (t2 : Mem) (r2 : Int32) (u2 : Mem), toldR t x a w = (n, r, t2) → mTold u x a w = (r2, u2) → RI (i + 5) t2 u2
def ST_score (RI : Nat → Mem → Mem → Prop) (L : Nat) : Prop := ∀ (i : Nat) (t u : Mem), RI i t u → i + 5 ≤ L → ∀ (x : Int32) (a : Int32), ∀ (n : Nat) (r : UInt64) (t2 : Mem) (r2 : UInt64) (u2 : Mem), scoreR t x a = (n, r, t2) → mScore u x a = (r2, u2) → RI (i + 5) t2 u2 ∧ gI u2 0 0 = nI n ∧ (n = 0 → r = r2)
def ST_sent (RI : Nat → Mem → Mem → Prop) (L : Nat) : Prop := ∀ (i : Nat) (t u : Mem), RI i t u → i + 5 ≤ L → ∀ (k : Int32) (w : Int32), ∀ (n : Nat) (r : Int32) (t2 : Mem) (r2 : Int32) (u2 : Mem), sentR t k w = (n, r, t2) → mSent u k w = (r2, u2) → RI (i + 5) t2 u2
def ST_count (RI : Nat → Mem → Mem → Prop) (L : Nat) : Prop := ∀ (i : Nat) (t u : Mem), RI i t u → i + 5 ≤ L → ∀ (w : Int32), ∀ (n : Nat) (r : Int32) (t2 : Mem) (r2 : Int32) (u2 : Mem), countR t w = (n, r, t2) → mCount u w = (r2, u2) → RI (i + 5) t2 u2
def STEPS (RI : Nat → Mem → Mem → Prop) (L : Nat) : Prop := (∀ (i : Nat) (t u : Mem), RI i t u → i + 5 ≤ L → OKX t ∧ MOK u) ∧ ST_ask RI L ∧ ST_confirm RI L ∧ ST_leave RI L ∧ ST_way RI L ∧ ST_moderator RI L ∧ ST_ban RI L ∧ ST_setting RI L ∧ ST_post RI L ∧ ST_judge RI L ∧ ST_bounce RI L ∧ ST_renew RI L ∧ ST_tick RI L ∧ ST_told RI L ∧ ST_score RI L ∧ ST_sent RI L ∧ ST_count RI L
theorem loop_in {i L : Nat} (hL : L ≤ 2560) (hi : i ≤ L) (h : ¬ Int32.ofNat L - 5 < nI i) : i + 5 ≤ L := by
  by_cases h5 : 5 ≤ L
  · have e : Int32.ofNat L - 5 = nI (L - 5) := by
      have e1 : Int32.ofNat L = nI (L - 5) + 5 := by
        rw [show (5 : Int32) = nI 5 from rfl, nI_add, show L - 5 + 5 = L by omega]
        rfl
      rw [e1]
      exact Int32.add_sub_cancel _ _
    rw [e] at h
    rcases Nat.lt_or_ge L (i + 5) with q | q
    · exact absurd (nI_lt (by omega) (by omega)) h
    · exact q
  · exfalso
    rcases (show L = 0 ∨ L = 1 ∨ L = 2 ∨ L = 3 ∨ L = 4 by omega) with rfl | rfl | rfl | rfl | rfl <;> rcases (show i = 0 ∨ i = 1 ∨ i = 2 ∨ i = 3 ∨ i = 4 by omega) with rfl | rfl | rfl | rfl | rfl <;> exact h (by decide)
section LOOP
variable {p : Program} {l : Launch} {e : Env} {s : State} {m : MethodId} {below : List Frame} {meth : Method} {c : Code} {b L : Nat} {xs : Nat → Int32} {D DM : va_G} {ad bd : Nat → Nat} {ka kb : Nat → ClassId} {sa : Nat → Nat} {qo qd : Nat} {kl kd : ClassId}
set_option maxHeartbeats 4000000 in
set_option maxRecDepth 100000 in
theorem law_loop (C : LC p l s m meth c b L xs D DM ad bd ka kb sa qo qd kl kd) {RI : Nat → Mem → Mem → Prop} (hST : STEPS RI L) : ∀ (n i : Nat) (t u : Mem) (f : Nat → Int64) (g : Nat → UInt64) (H : Heap) (locs : List Loc) (ls : Array Slot), i ≤ L → L < i + n → RI i t u → LW D DM ad bd ka kb qo qd kl kd t u f g H → va_S (fun q => s.heap.size ≤ q) s.heap H locs → lv_has ls 9 (lvL b ad bd qo qd i) → W p l e room_1 s m #[Value.ref b] below meth c H locs (200 + i) (3000 + 4 * i) (lw_Z below #[Value.ref b] s) (F0 m 28 ls []) := by
  intro n
  induction n with
  | zero => intro i t u f g H locs ls h1 h2; exact absurd h2 (by omega)
  | succ n ih =>
    intro i t u f g H locs ls hiL hn hRI hw hS hl
    obtain ⟨C0, hL, hl0, hJ, hK, hZ⟩ := id C
    obtain ⟨hx, hb, hr, hml, hown, hts0, hX, hbl, hlocks, hgv⟩ := C0
    have hbA : ¬ s.heap.size ≤ b := Nat.not_le.mpr hbl
    have hl0' : lv_has ls 9 [(0, .ref b), (1, .ref (ad 0)), (2, .ref (bd 0)), (3, .ref qo), (4, .ref qd), (5, .int (nI i))] := hl
    refine lv_iload hx hb d_W_law_28 (lv_at hl0' 5 rfl) ?_
    refine lv_aload_n hx hb d_W_law_30 rfl (lv_at hl0' 0 rfl) ?_
    refine va_slen (A := fun q => s.heap.size ≤ q) hx hb hX hbl hbA hS d_W_law_31 ?_
    refine lv_iconst (v := 5) hx hb d_W_law_32 (by decide) ?_
    refine lv_isub hx hb d_W_law_33 ?_
    refine lv_icmp_gt (tgt := 963) hx hb d_W_law_34 (by decide) (fun c1 => ?_) (fun c1 => ?_)
    · refine lv_iconst (v := 1) hx hb d_W_law_963 (by decide) ?_
      refine va_forget (fun q hq => hS.2.2 q hq) ?_
      refine W.widen (k := 601024) (n := 7293034) (by omega) (by omega) ?_
      exact lw_ret hx hb hr hlocks d_W_law_964
    · have hi : i + 5 ≤ L := loop_in hL hiL c1
      refine lv_aload_n hx hb d_W_law_37 rfl (lv_at hl0' 0 rfl) ?_
      refine lv_iload hx hb d_W_law_38 (lv_at hl0' 5 rfl) ?_
      refine va_sld (A := fun q => s.heap.size ≤ q) hx hb hX hbl hbA hS (vp_in_nI (by omega) (by omega)) d_W_law_40 ?_
      refine lv_bipush (v := 15) hx hb d_W_law_41 (by decide) ?_
      refine lv_iand hx hb d_W_law_43 ?_
      obtain ⟨j, hj, ej⟩ := pk_andE (xs (nI i).toNatClampNeg) (m := 15) 4 (by decide)
      rw [ej]
      obtain ⟨hok1, hok2⟩ := hST.1 i t u hRI hi
      rcases (show j = 0 ∨ j = 1 ∨ j = 2 ∨ j = 3 ∨ j = 4 ∨ j = 5 ∨ j = 6 ∨ j = 7 ∨ j = 8 ∨ j = 9 ∨ j = 10 ∨ j = 11 ∨ j = 12 ∨ j = 13 ∨ j = 14 ∨ j = 15 by omega) with rfl | rfl | rfl | rfl | rfl | rfl | rfl | rfl | rfl | rfl | rfl | rfl | rfl | rfl | rfl | rfl
      · refine lv_tableIn (off := 80) (tgt := 124) hx hb d_W_law_44 (by decide) (by decide) rfl (by decide) ?_
        exact k_ask C hi hok1 hok2 (fun n r t2 r2 u2 h1 h2 f g H locs ls hw hS hl => ih (i + 5) t2 u2 f g H locs ls hi (by omega) (hST.2.1 i t u hRI hi _ _ _ n r t2 r2 u2 h1 h2) hw hS hl) f g H locs ls hw hS hl
      · refine lv_tableIn (off := 132) (tgt := 176) hx hb d_W_law_44 (by decide) (by decide) rfl (by decide) ?_
        exact k_confirm C hi hok1 hok2 (fun n r t2 r2 u2 h1 h2 f g H locs ls hw hS hl => ih (i + 5) t2 u2 f g H locs ls hi (by omega) (hST.2.2.1 i t u hRI hi _ n r t2 r2 u2 h1 h2) hw hS hl) f g H locs ls hw hS hl
      · refine lv_tableIn (off := 160) (tgt := 204) hx hb d_W_law_44 (by decide) (by decide) rfl (by decide) ?_
        exact k_leave C hi hok1 hok2 (fun n r t2 r2 u2 h1 h2 f g H locs ls hw hS hl => ih (i + 5) t2 u2 f g H locs ls hi (by omega) (hST.2.2.2.1 i t u hRI hi _ _ n r t2 r2 u2 h1 h2) hw hS hl) f g H locs ls hw hS hl
      · refine lv_tableIn (off := 200) (tgt := 244) hx hb d_W_law_44 (by decide) (by decide) rfl (by decide) ?_
        exact k_way C hi hok1 hok2 (fun n r t2 r2 u2 h1 h2 f g H locs ls hw hS hl => ih (i + 5) t2 u2 f g H locs ls hi (by omega) (hST.2.2.2.2.1 i t u hRI hi _ _ _ n r t2 r2 u2 h1 h2) hw hS hl) f g H locs ls hw hS hl
      · refine lv_tableIn (off := 252) (tgt := 296) hx hb d_W_law_44 (by decide) (by decide) rfl (by decide) ?_
        exact k_moderator C hi hok1 hok2 (fun n r t2 r2 u2 h1 h2 f g H locs ls hw hS hl => ih (i + 5) t2 u2 f g H locs ls hi (by omega) (hST.2.2.2.2.2.1 i t u hRI hi _ _ _ (bz_01 _) n r t2 r2 u2 h1 h2) hw hS hl) f g H locs ls hw hS hl
      · refine lv_tableIn (off := 320) (tgt := 364) hx hb d_W_law_44 (by decide) (by decide) rfl (by decide) ?_
        exact k_ban C hi hok1 hok2 (fun n r t2 r2 u2 h1 h2 f g H locs ls hw hS hl => ih (i + 5) t2 u2 f g H locs ls hi (by omega) (hST.2.2.2.2.2.2.1 i t u hRI hi _ _ _ (bz_01 _) n r t2 r2 u2 h1 h2) hw hS hl) f g H locs ls hw hS hl
      · refine lv_tableIn (off := 388) (tgt := 432) hx hb d_W_law_44 (by decide) (by decide) rfl (by decide) ?_
        exact k_setting C hi hok1 hok2 (fun n r t2 r2 u2 h1 h2 f g H locs ls hw hS hl => ih (i + 5) t2 u2 f g H locs ls hi (by omega) (hST.2.2.2.2.2.2.2.1 i t u hRI hi _ _ _ n r t2 r2 u2 h1 h2) hw hS hl) f g H locs ls hw hS hl
      · refine lv_tableIn (off := 451) (tgt := 495) hx hb d_W_law_44 (by decide) (by decide) rfl (by decide) ?_
        exact k_post C hi hok1 hok2 (fun n r t2 r2 u2 h1 h2 f g H locs ls hw hS hl => ih (i + 5) t2 u2 f g H locs ls hi (by omega) (hST.2.2.2.2.2.2.2.2.1 i t u hRI hi _ _ _ _ n r t2 r2 u2 h1 h2) hw hS hl) f g H locs ls hw hS hl
      · refine lv_tableIn (off := 515) (tgt := 559) hx hb d_W_law_44 (by decide) (by decide) rfl (by decide) ?_
        exact k_judge C hi hok1 hok2 (fun n r t2 r2 u2 h1 h2 f g H locs ls hw hS hl => ih (i + 5) t2 u2 f g H locs ls hi (by omega) (hST.2.2.2.2.2.2.2.2.2.1 i t u hRI hi _ _ _ n r t2 r2 u2 h1 h2) hw hS hl) f g H locs ls hw hS hl
      · refine lv_tableIn (off := 567) (tgt := 611) hx hb d_W_law_44 (by decide) (by decide) rfl (by decide) ?_
        exact k_bounce C hi hok1 hok2 (fun n r t2 r2 u2 h1 h2 f g H locs ls hw hS hl => ih (i + 5) t2 u2 f g H locs ls hi (by omega) (hST.2.2.2.2.2.2.2.2.2.2.1 i t u hRI hi _ _ _ (bz_01 _) n r t2 r2 u2 h1 h2) hw hS hl) f g H locs ls hw hS hl
      · refine lv_tableIn (off := 636) (tgt := 680) hx hb d_W_law_44 (by decide) (by decide) rfl (by decide) ?_
        exact k_renew C hi hok1 hok2 (fun n r t2 r2 u2 h1 h2 f g H locs ls hw hS hl => ih (i + 5) t2 u2 f g H locs ls hi (by omega) (hST.2.2.2.2.2.2.2.2.2.2.2.1 i t u hRI hi _ _ n r t2 r2 u2 h1 h2) hw hS hl) f g H locs ls hw hS hl
      · refine lv_tableIn (off := 676) (tgt := 720) hx hb d_W_law_44 (by decide) (by decide) rfl (by decide) ?_
        exact k_tick C hi hok1 hok2 (fun n r t2 r2 u2 h1 h2 f g H locs ls hw hS hl => ih (i + 5) t2 u2 f g H locs ls hi (by omega) (hST.2.2.2.2.2.2.2.2.2.2.2.2.1 i t u hRI hi _ n r t2 r2 u2 h1 h2) hw hS hl) f g H locs ls hw hS hl
      · refine lv_tableIn (off := 704) (tgt := 748) hx hb d_W_law_44 (by decide) (by decide) rfl (by decide) ?_
        exact k_told C hi hok1 hok2 (fun n r t2 r2 u2 h1 h2 f g H locs ls hw hS hl => ih (i + 5) t2 u2 f g H locs ls hi (by omega) (hST.2.2.2.2.2.2.2.2.2.2.2.2.2.1 i t u hRI hi _ _ _ n r t2 r2 u2 h1 h2) hw hS hl) f g H locs ls hw hS hl
      · refine lv_tableIn (off := 756) (tgt := 800) hx hb d_W_law_44 (by decide) (by decide) rfl (by decide) ?_
        exact k_score C hi hok1 hok2 (fun n r t2 r2 u2 h1 h2 => (hST.2.2.2.2.2.2.2.2.2.2.2.2.2.2.1 i t u hRI hi _ _ n r t2 r2 u2 h1 h2).2) (fun n r t2 r2 u2 h1 h2 f g H locs ls hw hS hl => ih (i + 5) t2 u2 f g H locs ls hi (by omega) (hST.2.2.2.2.2.2.2.2.2.2.2.2.2.2.1 i t u hRI hi _ _ n r t2 r2 u2 h1 h2).1 hw hS hl) f g H locs ls hw hS hl
      · refine lv_tableIn (off := 845) (tgt := 889) hx hb d_W_law_44 (by decide) (by decide) rfl (by decide) ?_
        exact k_sent C hi hok1 hok2 (fun n r t2 r2 u2 h1 h2 f g H locs ls hw hS hl => ih (i + 5) t2 u2 f g H locs ls hi (by omega) (hST.2.2.2.2.2.2.2.2.2.2.2.2.2.2.2.1 i t u hRI hi _ _ n r t2 r2 u2 h1 h2) hw hS hl) f g H locs ls hw hS hl
      · refine lv_tableIn (off := 885) (tgt := 929) hx hb d_W_law_44 (by decide) (by decide) rfl (by decide) ?_
        exact k_count C hi hok1 hok2 (fun n r t2 r2 u2 h1 h2 f g H locs ls hw hS hl => ih (i + 5) t2 u2 f g H locs ls hi (by omega) (hST.2.2.2.2.2.2.2.2.2.2.2.2.2.2.2.2 i t u hRI hi _ n r t2 r2 u2 h1 h2) hw hS hl) f g H locs ls hw hS hl
end LOOP
