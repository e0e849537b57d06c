/-! the law's context -/
def LJ (sz0 : Nat) (ad bd : Nat → Nat) (qo qd : Nat) : Prop :=
  (∀ i, i < 96 → sz0 ≤ ad i ∧ ad i ≠ qo ∧ ad i ≠ qd ∧ ∀ j, j < 27 → ad i ≠ bd j) ∧ (∀ j, j < 27 → sz0 ≤ bd j ∧ bd j ≠ qo ∧ bd j ≠ qd) ∧ (sz0 ≤ qo ∧ sz0 ≤ qd ∧ qo ≠ qd) ∧ (∀ i j, i < 96 → j < 96 → ad i = ad j → i = j) ∧ (∀ i j, i < 27 → j < 27 → bd i = bd j → i = j)
def LW (D DM : va_G) (ad bd : Nat → Nat) (ka kb : Nat → ClassId) (qo qd : Nat) (kl kd : ClassId) (t u : Mem) (f : Nat → Int64) (g : Nat → UInt64) (H : Heap) : Prop := va_P D cls (cw ad ka t) H ∧ va_P DM clm (mw bd kb u) H ∧ va_P D cls [(qo, .inl (kl, oL f))] H ∧ va_P D cls [(qd, .inl (kd, oD g))] H
def LK (D DM : va_G) (ka kb : Nat → ClassId) (kl kd : ClassId) (U : State) : Prop := va_K D cls (cT ka) U ∧ va_K DM clm (mT kb) U ∧ va_K D cls [(kl, .long)] U ∧ va_K D cls [(kd, .double)] U
def LZ (sa : Nat → Nat) (s : State) : Prop := (∀ w ∈ NB, va_Nw w s) ∧ vx_Zq Bundle.tN "UNASSIGNED_STACK" Bundle.steD (fun q => s.heap.size ≤ q) s s.heap ∧ vx_Zq Bundle.tN "SUPPRESSED_SENTINEL" Bundle.listD (fun q => s.heap.size ≤ q) s s.heap ∧ (∀ q ∈ STRS, vk_R "ListForge" q.1 q.2 (sa q.1) s) ∧ ∀ q ∈ NCP, va_Nc q.1 q.2 s
theorem fw_of {N k : Nat} {ad : Nat → Nat} {w : Nat → va_E} {q : Nat × va_E} (hk : (fw N ad w)[k]? = some q) : k < N ∧ q = (ad k, w k) := by
  have hl := (List.getElem?_eq_some_iff.mp hk).1
  rw [fw_len] at hl
  rw [fw_at hl] at hk
  exact ⟨hl, (Option.some.inj hk).symm⟩
theorem one_of {q z : Nat × va_E} {k : Nat} (hk : ([z] : va_W)[k]? = some q) : q = z := by
  match k, hk with
  | 0, hk => exact (Option.some.inj hk).symm
  | k + 1, hk => simp at hk
theorem LJ.dc {sz0 qo qd : Nat} {ad bd : Nat → Nat} {ka : Nat → ClassId} {t : Mem} (h : LJ sz0 ad bd qo qd) : va_D (fun _ => True) (cw ad ka t) := by
  refine ⟨fun i j p q hi hj e => ?_, fun _ _ _ => trivial⟩
  obtain ⟨h1, rfl⟩ := fw_of hi
  obtain ⟨h2, rfl⟩ := fw_of hj
  exact h.2.2.2.1 i j h1 h2 e
theorem LJ.dm {sz0 qo qd : Nat} {ad bd : Nat → Nat} {kb : Nat → ClassId} {u : Mem} (h : LJ sz0 ad bd qo qd) : va_D (fun _ => True) (mw bd kb u) := by
  refine ⟨fun i j p q hi hj e => ?_, fun _ _ _ => trivial⟩
  obtain ⟨h1, rfl⟩ := fw_of hi
  obtain ⟨h2, rfl⟩ := fw_of hj
  exact h.2.2.2.2 i j h1 h2 e
theorem LJ.ax {sz0 qo qd n q : Nat} {ad bd : Nat → Nat} (h : LJ sz0 ad bd qo qd) (hn : sz0 ≤ n) (hq : AX ad n q) : sz0 ≤ q := hq.elim (fun ⟨i, h1, h2⟩ => by rw [h2]; exact (h.1 i h1).1) (fun z => Nat.le_trans hn z)
theorem LJ.ao {sz0 qo qd n q : Nat} {ad bd : Nat → Nat} (h : LJ sz0 ad bd qo qd) (hn : sz0 ≤ n) (hq : AO ad qo n q) : sz0 ≤ q := hq.elim (fun z => h.ax hn z) (fun z => by rw [z]; exact h.2.2.1.1)
theorem LJ.aod {sz0 qo qd n q : Nat} {ad bd : Nat → Nat} (h : LJ sz0 ad bd qo qd) (hn : sz0 ≤ n) (hq : AO ad qd n q) : sz0 ≤ q := hq.elim (fun z => h.ax hn z) (fun z => by rw [z]; exact h.2.2.1.2.1)
theorem LJ.am {sz0 qo qd n q : Nat} {ad bd : Nat → Nat} (h : LJ sz0 ad bd qo qd) (hn : sz0 ≤ n) (hq : AM bd n q) : sz0 ≤ q := hq.elim (fun ⟨i, h1, h2⟩ => by rw [h2]; exact (h.2.1 i h1).1) (fun z => Nat.le_trans hn z)
section LWS
variable {D DM : va_G} {ad bd : Nat → Nat} {ka kb : Nat → ClassId} {qo qd sz0 : Nat} {kl kd : ClassId} {t u t2 u2 : Mem} {f f2 : Nat → Int64} {g g2 : Nat → UInt64} {H H1 : Heap} {s U tq : State} {sa : Nat → Nat} {locs : List Loc}
theorem LW_h (j : LJ sz0 ad bd qo qd) (h : LW D DM ad bd ka kb qo qd kl kd t u f g H) (ht : tq.heap = H1) (hB : BH D ad ka H.size qo kl t2 (oL f2) tq) (hk : ∀ q : Nat, q < H.size → ¬ AO ad qo H.size q → H1[q]? = H[q]?) : LW D DM ad bd ka kb qo qd kl kd t2 u f2 g H1 := by
  refine ⟨ht ▸ hB.1.1, h.2.1.kept (fun k q hq => ?_), ht ▸ hB.2, h.2.2.2.kept (fun k q hq => ?_)⟩
  · have hlt := (h.2.1 k q hq).lt
    obtain ⟨h1, rfl⟩ := fw_of hq
    refine hk _ hlt (fun hA => ?_)
    rcases hA with (⟨i, hi, e⟩ | e) | e
    · exact (j.1 i hi).2.2.2 k h1 e.symm
    · exact absurd hlt (Nat.not_lt.mpr e)
    · exact (j.2.1 k h1).2.1 e
  · have hlt := (h.2.2.2 k q hq).lt
    obtain rfl := one_of hq
    refine hk _ hlt (fun hA => ?_)
    rcases hA with (⟨i, hi, e⟩ | e) | e
    · exact (j.1 i hi).2.2.1 e.symm
    · exact absurd hlt (Nat.not_lt.mpr e)
    · exact j.2.2.1.2.2 e.symm
theorem LW_hd (j : LJ sz0 ad bd qo qd) (h : LW D DM ad bd ka kb qo qd kl kd t u f g H) (ht : tq.heap = H1) (hB : BH D ad ka H.size qd kd t2 (oD g2) tq) (hk : ∀ q : Nat, q < H.size → ¬ AO ad qd H.size q → H1[q]? = H[q]?) : LW D DM ad bd ka kb qo qd kl kd t2 u f g2 H1 := by
  refine ⟨ht ▸ hB.1.1, h.2.1.kept (fun k q hq => ?_), h.2.2.1.kept (fun k q hq => ?_), ht ▸ hB.2⟩
  · have hlt := (h.2.1 k q hq).lt
    obtain ⟨h1, rfl⟩ := fw_of hq
    refine hk _ hlt (fun hA => ?_)
    rcases hA with (⟨i, hi, e⟩ | e) | e
    · exact (j.1 i hi).2.2.2 k h1 e.symm
    · exact absurd hlt (Nat.not_lt.mpr e)
    · exact (j.2.1 k h1).2.2 e
  · have hlt := (h.2.2.1 k q hq).lt
    obtain rfl := one_of hq
    refine hk _ hlt (fun hA => ?_)
    rcases hA with (⟨i, hi, e⟩ | e) | e
    · exact (j.1 i hi).2.1 e.symm
    · exact absurd hlt (Nat.not_lt.mpr e)
    · exact j.2.2.1.2.2 e
theorem LW_m (j : LJ sz0 ad bd qo qd) (h : LW D DM ad bd ka kb qo qd kl kd t u f g H) (ht : tq.heap = H1) (hB : BM DM bd kb H.size u2 tq) (hk : ∀ q : Nat, q < H.size → ¬ AM bd H.size q → H1[q]? = H[q]?) : LW D DM ad bd ka kb qo qd kl kd t u2 f g H1 := by
  refine ⟨h.1.kept (fun k q hq => ?_), ht ▸ hB.1, h.2.2.1.kept (fun k q hq => ?_), h.2.2.2.kept (fun k q hq => ?_)⟩
  · have hlt := (h.1 k q hq).lt
    obtain ⟨h1, rfl⟩ := fw_of hq
    refine hk _ hlt (fun hA => ?_)
    rcases hA with ⟨i, hi, e⟩ | e
    · exact (j.1 k h1).2.2.2 i hi e
    · exact absurd hlt (Nat.not_lt.mpr e)
  · have hlt := (h.2.2.1 k q hq).lt
    obtain rfl := one_of hq
    refine hk _ hlt (fun hA => ?_)
    rcases hA with ⟨i, hi, e⟩ | e
    · exact (j.2.1 i hi).2.1 e.symm
    · exact absurd hlt (Nat.not_lt.mpr e)
  · have hlt := (h.2.2.2 k q hq).lt
    obtain rfl := one_of hq
    refine hk _ hlt (fun hA => ?_)
    rcases hA with ⟨i, hi, e⟩ | e
    · exact (j.2.1 i hi).2.2 e.symm
    · exact absurd hlt (Nat.not_lt.mpr e)
theorem PZ_mk (j : LJ s.heap.size ad bd qo qd) (h : LW D DM ad bd ka kb qo qd kl kd t u f g H) (hK : LK D DM ka kb kl kd s) (hz : LZ sa s) (hS : va_S (fun q => s.heap.size ≤ q) s.heap H locs) (hU : U.heap = H) (hW : s.WarmedH U.vm) : PZ D ad ka sa H.size t U := by
  refine ⟨⟨by rw [hU], by rw [hU]; exact h.1, va_K.moved hW.alike hK.1, j.dc⟩, NB_warm hW hz.1, ?_, ?_, fun q hq => vk_R.warm hW (hz.2.2.2.1 q hq)⟩
  · rw [hU]; exact (vx_Zq.moved hW.alike (hz.2.1.kept hS.2.1)).narrow (fun q hq => j.ax hS.1 hq)
  · rw [hU]; exact (vx_Zq.moved hW.alike (hz.2.2.1.kept hS.2.1)).narrow (fun q hq => j.ax hS.1 hq)
theorem PH_mk (j : LJ s.heap.size ad bd qo qd) (h : LW D DM ad bd ka kb qo qd kl kd t u f g H) (hK : LK D DM ka kb kl kd s) (hz : LZ sa s) (hS : va_S (fun q => s.heap.size ≤ q) s.heap H locs) (hU : U.heap = H) (hW : s.WarmedH U.vm) : PH D ad ka sa H.size t qo kl .long (oL f) U :=
  ⟨PZ_mk j h hK hz hS hU hW, ⟨by rw [hU]; exact h.2.2.1, va_K.moved hW.alike hK.2.2.1⟩, fun i hi => (j.1 i hi).2.1, fun q hq => va_Nc.moved hW.alike (hz.2.2.2.2 q hq)⟩
theorem PHd_mk (j : LJ s.heap.size ad bd qo qd) (h : LW D DM ad bd ka kb qo qd kl kd t u f g H) (hK : LK D DM ka kb kl kd s) (hz : LZ sa s) (hS : va_S (fun q => s.heap.size ≤ q) s.heap H locs) (hU : U.heap = H) (hW : s.WarmedH U.vm) : PH D ad ka sa H.size t qd kd .double (oD g) U :=
  ⟨PZ_mk j h hK hz hS hU hW, ⟨by rw [hU]; exact h.2.2.2, va_K.moved hW.alike hK.2.2.2⟩, fun i hi => (j.1 i hi).2.2.1, fun q hq => va_Nc.moved hW.alike (hz.2.2.2.2 q hq)⟩
theorem LW_pm (j : LJ s.heap.size ad bd qo qd) (h : LW D DM ad bd ka kb qo qd kl kd t u f g H) (hK : LK D DM ka kb kl kd s) (hU : U.heap = H) (hW : s.WarmedH U.vm) : PM DM bd kb H.size u U := ⟨by rw [hU], by rw [hU]; exact h.2.1, va_K.moved hW.alike hK.2.1, j.dm⟩
end LWS
theorem lts {args : Array Value} {s : State} (h : ∀ w ∈ lw_tbl, w.before args s = true) : ∀ w ∈ Cond.initialized "ListForgeLaw" :: big, w.before args s = true := fun w hw => (List.mem_cons.mp hw).elim (fun e => by rw [e]; exact h _ (List.mem_filter.mp mw_0).1) (fun q => h w (List.mem_filter.mp q).1)
/-- what the reference's contracts ask of its memory -/
def MOK (u : Mem) : Prop := ∃ Bd n0, Bd < 600000000 ∧ OKD u Bd ∧ n0 ≤ 40 ∧ gI u 3 0 = nI n0 ∧ (∀ j, ∃ v, v < 3 ∧ gI u 1016 j = nI v) ∧ (∀ r, r < n0 → gI u 1019 r = 0 → ∀ v, v < 3 → ∃ b, b < 40 ∧ gI u 1020 v = nI b) ∧ (n0 < 40 → ∀ v, v < 3 → ∃ b, b < 40 ∧ gI u 1020 v = nI b) ∧ (∀ v, v < 3 → ∃ b, b ≤ 40 ∧ gI u 1020 v = nI b) ∧ (∀ j, b01 (gI u 1007 j)) ∧ ∀ j, b01 (gI u 1008 j)
def cfM (u : Mem) (k0 r : Int32) (u' : Mem) : Prop := (∃ j, j < 36 ∧ mMch u k0 j ∧ (∀ i, i < j → ¬ mMch u k0 i) ∧ r = nI (j % 12) ∧ u' = pD (pI (pI (pI u 0 0 0) 1001 j 1) 1003 j (gI u 1 0)) 1009 j FP.dconst0) ∨ ((∀ i, i < 36 → ¬ mMch u k0 i) ∧ r = 0 ∧ u' = pI u 0 0 1)
def bz (x : Int32) : Int32 := if x = 0 then 0 else 1
theorem bz_01 (x : Int32) : b01 (bz x) := by
  unfold bz
  split
  · exact Or.inl rfl
  · exact Or.inr rfl
abbrev lvL (b : Nat) (ad bd : Nat → Nat) (qo qd i : Nat) : List (Nat × Value) := [(0, .ref b), (1, .ref (ad 0)), (2, .ref (bd 0)), (3, .ref qo), (4, .ref qd), (5, .int (nI i))]
theorem vi_in {i k L : Nat} {x : Int32} (hx : x = nI k) (h : i + k < L) (hL : L ≤ 2560) : vp_in (nI i + x) L := by
  rw [hx, nI_add]
  exact vp_in_nI h (by omega)
theorem cmp_self (x : Int64) : lg_cmp x x = 0 := by
  unfold lg_cmp
  rw [if_neg (by simp), if_pos rfl]
theorem nI_zero {n : Nat} (h : nI n = 0) (hn : n < 4) : n = 0 := by
  rcases (show n = 0 ∨ n = 1 ∨ n = 2 ∨ n = 3 by omega) with rfl | rfl | rfl | rfl
  · rfl
  · exact absurd h (by decide)
  · exact absurd h (by decide)
  · exact absurd h (by decide)
section BZR
variable {p : Program} {l : Launch} {e : Env} {R : Room} {s : State} {m : MethodId} {args : Array Value} {below : List Frame} {meth : Method} {c : Code} {H : Heap} {locs : List Loc} {cells slots : Nat} {Q : State → Prop} {cc : ByteArray} {pc : Nat} {ls : Array Slot} {rest : List Value} {x : Int32}
theorem bz_row (hx : p.tables.exec = Jvm.exec) (hb : c.code = cc) (d0 : decode cc pc = .ok (.ifCond .eq 7, 3)) (d1 : decode cc (pc + 3) = .ok (.iconst 1, 1)) (d2 : decode cc (pc + 4) = .ok (.goto 4, 3)) (d3 : decode cc (pc + 7) = .ok (.iconst 0, 1)) (kk : W p l e R s m args below meth c H locs cells slots Q (F0 m (pc + 8) ls (.int (bz x) :: rest))) : W p l e R s m args below meth c H locs cells slots Q (F0 m pc ls (.int x :: rest)) := by
  refine lv_if_eq (tgt := pc + 7) hx hb d0 (by omega) (fun c1 => ?_) (fun c1 => ?_)
  · refine lv_iconst (v := 0) hx hb d3 (by decide) ?_
    exact W.eq (g2 := F0 m (pc + 8) ls (.int (bz x) :: rest)) (by rw [bz, if_pos c1]) kk
  · refine lv_iconst (v := 1) hx hb d1 (by decide) ?_
    refine lv_goto (tgt := pc + 8) hx hb d2 (by omega) ?_
    exact W.eq (g2 := F0 m (pc + 8) ls (.int (bz x) :: rest)) (by rw [bz, if_neg c1]) kk
theorem zb_row (hx : p.tables.exec = Jvm.exec) (hb : c.code = cc) (d0 : decode cc pc = .ok (.ifCond .eq 7, 3)) (d1 : decode cc (pc + 3) = .ok (.lconst 1, 1)) (d2 : decode cc (pc + 4) = .ok (.goto 4, 3)) (d3 : decode cc (pc + 7) = .ok (.lconst 0, 1)) (kk : W p l e R s m args below meth c H locs cells slots Q (F0 m (pc + 8) ls (.long (zb x) :: rest))) : W p l e R s m args below meth c H locs cells slots Q (F0 m pc ls (.int x :: rest)) := by
  refine lv_if_eq (tgt := pc + 7) hx hb d0 (by omega) (fun c1 => ?_) (fun c1 => ?_)
  · refine lv_lconst (v := 0) hx hb d3 (by decide) ?_
    exact W.eq (g2 := F0 m (pc + 8) ls (.long (zb x) :: rest)) (by rw [zb, if_pos c1]) kk
  · refine lv_lconst (v := 1) hx hb d1 (by decide) ?_
    refine lv_goto (tgt := pc + 8) hx hb d2 (by omega) ?_
    exact W.eq (g2 := F0 m (pc + 8) ls (.long (zb x) :: rest)) (by rw [zb, if_neg c1]) kk
end BZR
def LC (p : Program) (l : Launch) (s : State) (m : MethodId) (meth : Method) (c : Code) (b L : Nat) (xs : Nat → Int32) (D DM : va_G) (ad bd : Nat → Nat) (ka kb : Nat → ClassId) (sa : Nat → Nat) (qo qd : Nat) (kl kd : ClassId) : Prop := lw_At p s m meth c b L xs ∧ L ≤ 2560 ∧ l.stackTraces = false ∧ LJ s.heap.size ad bd qo qd ∧ LK D DM ka kb kl kd s ∧ LZ sa s
