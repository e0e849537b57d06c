/-! what the law takes from its start -/
theorem choose_sa {P : Nat × String → Nat → Prop} : ∀ (l : List (Nat × String)), (∀ q ∈ l, ∃ a, P q a) → (l.map Prod.fst).Nodup → ∃ sa : Nat → Nat, ∀ q ∈ l, P q (sa q.1) := by
  intro l
  induction l with
  | nil => intro _ _; exact ⟨fun _ => 0, fun q h => absurd h List.not_mem_nil⟩
  | cons x l ih =>
    intro h hn
    rw [List.map_cons, List.nodup_cons] at hn
    obtain ⟨sa, hs⟩ := ih (fun q hq => h q (List.mem_cons_of_mem _ hq)) hn.2
    obtain ⟨a, ha⟩ := h x List.mem_cons_self
    refine ⟨fun k => if k = x.1 then a else sa k, fun q hq => ?_⟩
    rcases List.mem_cons.mp hq with rfl | hq
    · dsimp only
      rw [if_pos rfl]
      exact ha
    · have hne : q.1 ≠ x.1 := fun e => hn.1 (by rw [← e]; exact List.mem_map_of_mem (f := Prod.fst) hq)
      dsimp only
      rw [if_neg hne]
      exact hs q hq
theorem NB_in : ∀ w ∈ NB, w ∈ lw_tbl := by decide +kernel
theorem NCP_in : ∀ q ∈ NCP, Cond.not (.castable q.1 q.2) ∈ flatC (Jvm.Cond.and given_1 narrow_1) := by decide +kernel
theorem STR_in : ∀ q ∈ STRS, Cond.exactly (.string "ListForge" q.1) "java/lang/String" ∈ flatC (Jvm.Cond.and given_1 narrow_1) ∧ Cond.stringRef "ListForge" q.1 q.2 ∈ lw_tbl := by decide +kernel
theorem ref_in : Cond.isRef (.static Bundle.tN "UNASSIGNED_STACK" Bundle.steD) ∈ flatC (Jvm.Cond.and given_1 narrow_1) ∧ Cond.isRef (.static Bundle.tN "SUPPRESSED_SENTINEL" Bundle.listD) ∈ flatC (Jvm.Cond.and given_1 narrow_1) := by decide +kernel
theorem lay_in : Cond.laysStatic Bundle.tN "UNASSIGNED_STACK" Bundle.steD ∈ lw_tbl ∧ Cond.laysStatic Bundle.tN "SUPPRESSED_SENTINEL" Bundle.listD ∈ lw_tbl ∧ Cond.initialized Bundle.tN ∈ lw_tbl := by decide +kernel
theorem Z_of {args : Array Value} {s : State} (hts0 : ∀ w ∈ lw_tbl, w.before args s = true) (hgv : (Jvm.Cond.and given_1 narrow_1).before args s = true) : ∃ sa, LZ sa s := by
  have hfl := flat_of_before _ hgv
  obtain ⟨sa, hsa⟩ := choose_sa (P := fun q a => vk_R "ListForge" q.1 q.2 a s) STRS (fun q hq => by
    obtain ⟨a, c, cA, kA, q1, -⟩ := Cond.exactly_spec (args := args) (first := s) (o := none) (s := s) (idx := []) (hfl _ (STR_in q hq).1)
    exact ⟨a, vk_R.of (hts0 _ (STR_in q hq).2) q1⟩) (by decide +kernel)
  have hA : ∀ a : Nat, a < s.heap.size → ¬ (fun q : Nat => s.heap.size ≤ q) a := fun a h => Nat.not_le.mpr h
  exact ⟨sa, fun w hw => va_Nw.of (NB_ot w hw) (hts0 w (NB_in w hw)), vx_Zqof (hts0 _ lay_in.1) (hts0 _ lay_in.2.2) (hfl _ ref_in.1) hA, vx_Zqof (hts0 _ lay_in.2.1) (hts0 _ lay_in.2.2) (hfl _ ref_in.2) hA, hsa, fun q hq => va_Nc.of (hfl _ (NCP_in q hq))⟩
theorem prim_ar {args : Array Value} {s : State} {ty : FieldType} (h : (Cond.arrayClass ty).before args s = true) : ∃ cA : ClassId, ArrOfT s cA ty ∧ s.vm.findClass ("[" ++ ty.toString) = some cA := by
  obtain ⟨cA, kA, comp, h1, h2, h3⟩ := Cond.arrayClass_spec h
  exact ⟨cA, fun n z => ⟨fun k h => (by cases h), kA, h2, comp, h3⟩, h1⟩
theorem obj_ar {s : State} {C : String} (h : va_AO C s) : ∃ cA : ClassId, ArrOfT s cA (.object C) ∧ va_RA s cA (.object C) := by
  obtain ⟨comp, cA, kA, h0, -, h2, h3, h4⟩ := Cond.arrayOver_spec h
  exact ⟨cA, fun n z => ⟨fun k h => (by cases h), kA, h2, comp, h3⟩, kA, comp, h2, h3, h0, h4⟩
theorem K_of {args : Array Value} {s : State} (hts0 : ∀ w ∈ lw_tbl, w.before args s = true) (hAL : va_AO "ListForge$MailingList" s) (hAS : va_AO "ListForge$Subscription" s) (hAP : va_AO "ListForge$Post" s) : ∃ (D DM : va_G) (ka kb : Nat → ClassId), va_K D cls (cT ka) s ∧ va_K DM clm (mT kb) s := by
  have hts := lts hts0
  obtain ⟨c0, i0, k0⟩ := u_known (C := "ListForge$MailingList") (T := T_L) (N := 12) (n := 12) hts in_L (bg hts mw_25)
  obtain ⟨c1, i1, k1⟩ := u_known (C := "ListForge$Outbox") (T := T_O) (N := 6) (n := 6) hts in_O (bg hts mw_144)
  obtain ⟨c2, i2, k2⟩ := u_known (C := "ListForge$Post") (T := T_P) (N := 4) (n := 4) hts in_P (bg hts mw_120)
  obtain ⟨c3, i3, k3⟩ := u_known (C := "ListForge$Subscription") (T := T_S) (N := 8) (n := 8) hts in_S (bg hts mw_32)
  obtain ⟨c4, i4, k4⟩ := u_known (C := "ListForge") (T := T_F) (N := 6) (n := 6) hts in_F (bg hts mw_16)
  obtain ⟨c5, i5, k5⟩ := u_known (C := "ListForgeModel") (T := T_M) (N := 31) (n := 31) hts in_M (bg hts mw_584)
  obtain ⟨aI, xI⟩ := prim_ar (ty := .int) (bg hts mw_174)
  obtain ⟨aZ, xZ⟩ := prim_ar (ty := .boolean) (bg hts mw_117)
  obtain ⟨aD, xD⟩ := prim_ar (ty := .double) (bg hts mw_684)
  obtain ⟨a2, x2⟩ := obj_ar hAL
  obtain ⟨a3, x3⟩ := obj_ar hAS
  obtain ⟨a4, x4⟩ := obj_ar hAP
  refine ⟨(fun k => if k = 0 then c0 else if k = 1 then c1 else if k = 2 then c2 else if k = 3 then c3 else c4, fun k => if k = 0 then i0 else if k = 1 then i1 else if k = 2 then i2 else if k = 3 then i3 else i4), (fun _ => c5, fun _ => i5), fun k => if k = 0 then aI else if k = 1 then aZ else if k = 2 then a2 else if k = 3 then a3 else a4, fun k => if k = 0 then aI else if k = 1 then aZ else aD, ⟨fun k q hq => ?_, fun k q hq => ?_⟩, ⟨fun k q hq => ?_, fun k q hq => ?_⟩⟩
  · match k, hq with
    | 0, hq => cases hq; exact k0
    | 1, hq => cases hq; exact k1
    | 2, hq => cases hq; exact k2
    | 3, hq => cases hq; exact k3
    | 4, hq => cases hq; exact k4
    | k + 5, hq => simp [cls] at hq
  · match k, hq with
    | 0, hq => cases hq; exact xI
    | 1, hq => cases hq; exact xZ
    | 2, hq => cases hq; exact x2
    | 3, hq => cases hq; exact x3
    | 4, hq => cases hq; exact x4
    | k + 5, hq => simp [cT] at hq
  · match k, hq with
    | 0, hq => cases hq; exact k5
    | k + 1, hq => simp [clm] at hq
  · match k, hq with
    | 0, hq => cases hq; exact xI
    | 1, hq => cases hq; exact xZ
    | 2, hq => cases hq; exact xD
    | k + 3, hq => simp [mT] at hq
